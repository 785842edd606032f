def R_law : String := "DyeLotsLaw"
def lw_P (b : Addr) (xs : List Int32) (args : Array Value) (s : State) : Prop := args = #[.ref b] ∧ s.IntsAt b xs ∧ xs.length ≤ 2048 ∧ (Jvm.Cond.and given_1 narrow_1).before args s = true
def lw_Q (_ : Array Value) (s : State) (o : Outcome) (t : State) : Prop := o = .returned (some (.int 1)) ∧ Framed s o t [] 671477 7087817
def lw_Z (below : List Frame) (a : Array Value) (s : State) : State → Prop := fun t => ∃ o, t.status = .running ∧ Ended t below o ∧ lw_Q a s o t
/-- the law's own end, with 1 on the stack, nothing written that was there before, its room as the claim has it -/
theorem lw_ret {p : Program} {l : Launch} {e : Env} {s : State} {m : MethodId} {below : List Frame} {meth : Method} {c : Code} {b : Nat} (hx : p.tables.exec = Jvm.exec) (hb : c.code = code) (hr : meth.sig.returnType = ret) (hlocks : meth.locks = false) {pc : Nat} {H : Heap} {ls : Array Slot} (hdg : decode code pc = .ok (.ireturn, 1)) : W p l e room_1 s m #[Value.ref b] below meth c H [] 671477 7087817 (lw_Z below #[Value.ref b] s) (F0 m pc ls [.int 1]) := by
  intro T hT X
  obtain ⟨fs, hret, hrun, hended, hW, hframe⟩ := X.leave (v := some (.int 1)) (hlocks := hlocks) (fun h => by rw [hr] at h; cases h)
  have hmeth' : T.vm.method? m = some meth := X.method'
  refine ⟨T.setFrames fs, ?_, .returned (some (.int 1)), hrun, hended, rfl, ⟨_, rfl⟩, hW, hframe⟩
  jvm_step X.here [X.here.top, hx, hb, hdg, hmeth', hr, ret, narrow_b1]
  (try refine ⟨rfl, ?_⟩); (try refine ⟨rfl, ?_⟩)
  first | (intro acts; rw [hret _ acts rfl rfl rfl]) | rw [hret _ _ rfl rfl rfl]
  exact Steps.refl _
/-- what holds at the law's entry: the machine, the code, the tables' words (any of lw_tbl by 'hts w (by decide +kernel)'), the script of L ints xs at the cell b, what the Statement gives of the start (any of its parts by flat_of_before) -/
def lw_At (p : Program) (s : State) (m : MethodId) (meth : Method) (c : Code) (b L : Nat) (xs : Nat → Int32) : Prop :=
  p.tables.exec = Jvm.exec ∧ c.code = code ∧ meth.sig.returnType = ret ∧ c.maxLocals = 4 ∧ s.vm.findClass R_law = some m.cls ∧ (∀ w ∈ lw_tbl, w.before #[Value.ref b] s = true) ∧ va_X b L xs s s.heap ∧ b < s.heap.size ∧ meth.locks = false ∧ (Jvm.Cond.and given_1 narrow_1).before #[Value.ref b] s = true
abbrev mL : Mt := (x, cL_law, 4, ret)
/-- the law's own frame -/
def LX (E : En) (X : Cx) (L : Nat) (xs : Nat → Int32) : Prop := match X with
  | (_, _, R, s, _, args, below, meth, _, cells, slots, Q, A0) => va_X (ea E 903) L xs s s.heap ∧ ea E 903 < s.heap.size ∧ A0 = (fun q : Nat => s.heap.size ≤ q) ∧ R = room_1 ∧ args = #[Value.ref (ea E 903)] ∧ Q = lw_Z below #[Value.ref (ea E 903)] s ∧ cells ≤ 671477 ∧ slots ≤ 7087817 ∧ meth.sig.returnType = ret ∧ meth.locks = false
section LR
variable {E : En} {M : Mt} {X : Cx} {pc : Nat} {ls : List (Option mv)} {st : List mv} {g : Mm} {L : Nat} {xs : Nat → Int32}
theorem k_sld (hX : Xk E M X) (hL : LX E X L xs) {j : Nat} {i : Int} (hi : i = (j : Int)) (hj : j < L) (hL2 : L ≤ 2048) (hd : decode M.2.1 pc = .ok (.iaload, 1)) (k : V E X (pc + 1) ls (vI (xs j).toInt :: st) g) : V E X pc ls (vI i :: vR 903 :: st) g := by
  obtain ⟨p, e, R, s, m, args, below, meth, c, cells, slots, Q, A0⟩ := X
  obtain ⟨hx, hb, hml, hown, hts, hcs, hAA, hfr, hlo, hce, hsl⟩ := id hX
  obtain ⟨l1, l2, rfl, l3⟩ := hL
  intro H locs rl hP hS hl
  refine va_sld hx hb l1 l2 (Nat.not_le.mpr l2) hS (zi_in (n := L) (by omega) (by omega) (by omega)) hd ?_
  rw [zi_clamp (by omega) (by omega), hi, Int.toNat_natCast, ← zi_of (xs j)]
  exact k H locs rl hP hS hl
theorem k_slen (hX : Xk E M X) (hL : LX E X L xs) (_ : L ≤ 2048) (hd : decode M.2.1 pc = .ok (.arraylength, 1)) (k : V E X (pc + 1) ls (vI (L : Int) :: st) g) : V E X pc ls (vR 903 :: st) g := by
  obtain ⟨p, e, R, s, m, args, below, meth, c, cells, slots, Q, A0⟩ := X
  obtain ⟨hx, hb, hml, hown, hts, hcs, hAA, hfr, hlo, hce, hsl⟩ := id hX
  obtain ⟨l1, l2, rfl, l3⟩ := hL
  intro H locs rl hP hS hl
  refine va_slen hx hb l1 l2 (Nat.not_le.mpr l2) hS hd ?_
  rw [← zi_nat]
  exact k H locs rl hP hS hl
theorem k_iand (hX : Xk E M X) {a b : Int} (hd : decode M.2.1 pc = .ok (.iand, 1)) (k : V E X (pc + 1) ls (vI (zi a &&& zi b).toInt :: st) g) : V E X pc ls (vI b :: vI a :: st) g := by
  obtain ⟨p, e, R, s, m, args, below, meth, c, cells, slots, Q, A0⟩ := X
  obtain ⟨hx, hb, hml, hown, hts, hcs, hAA, hfr, hlo, hce, hsl⟩ := id hX
  intro H locs rl hP hS hl
  refine lv_iand hx hb hd ?_
  rw [← zi_of (zi a &&& zi b)]
  exact k H locs rl hP hS hl
theorem k_same (hX : Xk E M X) {a : Int} {off : Int} {tgt : Nat} (hd : decode M.2.1 pc = .ok (.if_icmp .eq off, 3)) (ht : (pc : Int) + off = (tgt : Int)) (k : V E X tgt ls st g) : V E X pc ls (vI a :: vI a :: st) g := by
  obtain ⟨p, e, R, s, m, args, below, meth, c, cells, slots, Q, A0⟩ := X
  obtain ⟨hx, hb, hml, hown, hts, hcs, hAA, hfr, hlo, hce, hsl⟩ := id hX
  intro H locs rl hP hS hl
  exact lv_icmp_eq (tgt := tgt) hx hb hd ht (fun _ => k H locs rl hP hS hl) (fun c => absurd rfl c)
theorem k_end (hX : Xk E mL X) (hL : LX E X L xs) (hd : decode cL_law pc = .ok (.ireturn, 1)) : V E X pc ls [vI 1] g := by
  obtain ⟨p, e, R, s, m, args, below, meth, c, cells, slots, Q, A0⟩ := X
  obtain ⟨hx, hb, hml, hown, hts, hcs, hAA, hfr, hlo, hce, hsl⟩ := id hX
  obtain ⟨l1, l2, rfl, rfl, rfl, rfl, l3, l4, l5, l6⟩ := hL
  intro H locs rl hP hS hl
  refine va_forget (fun q hq => hS.2.2 q hq) ?_
  refine W.widen (k := 671477) (n := 7087817) l3 l4 ?_
  exact lw_ret hx hb l5 l6 hd
theorem fitL (hL : LX E X L xs) {d2 : Nat} {M2 : Mt} (h : d2 ≤ 100) (hM : MG M2) : fitR d2 M2 X := by
  have h1 := hM.2.2.2.2
  obtain ⟨p, e, R, s, m, args, below, meth, c, cells, slots, Q, A0⟩ := X
  obtain ⟨l1, l2, rfl, rfl, l3⟩ := hL
  unfold fitR
  show d2 + 1 ≤ 2048 ∧ 8 + (M2.2.2.1 + 11) + 64 * d2 ≤ 84000
  omega
end LR
theorem bd_of (v : Int32) : bd v.toInt := ⟨Int32.le_toInt v, Int32.toInt_lt v⟩
theorem cmp_self (a : Int64) : (lg_cmp a a).toInt = 0 := by unfold lg_cmp; simp
set_option maxRecDepth 100000 in
set_option maxHeartbeats 4000000 in
theorem law_letter {E : En} {X : Cx} {L : Nat} {xs : Nat → Int32} (hX : Xk E mL X) (hLX : LX E X L xs) (hL2 : L ≤ 2048) {A : St} {g : Mm} {m k : Nat} (ih : ∀ (k : Nat) (A : St) (g : Mm), (m + k = 513 ∧ 4 * k ≤ L ∧ RC A g ∧ RM A g ∧ WZ A (k : Int)) → V E X 18 [some (vR 903), some (vR 0), some (vR 46), some (vI ((4 * k : Nat) : Int))] [] g) (hm : m + 1 + k = 513) (hk : 4 * k + 4 ≤ L) (hR : RC A g) (hM : RM A g) (hZ : WZ A (k : Int)) : V E X 144 [some (vR 903), some (vR 0), some (vR 46), some (vI ((4 * k : Nat) : Int))] [] g := by
  have hW := hZ.1
  have hk1 : (k : Int) + 1 ≤ 512 := by omega
  refine k_aload_n hX dL_law_144 rfl rfl ?_
  refine k_aload_n hX dL_law_145 rfl rfl ?_
  refine k_iload_n hX dL_law_146 rfl rfl ?_
  refine k_iconst hX dL_law_147 ?_
  refine k_iadd hX dL_law_148 ?_
  refine k_sld (j := (4 * k + 1)) hX hLX (by omega) (by omega) hL2 dL_law_149 ?_
  refine k_callV (d2 := 5) (n := 1) (as := [_]) hX dL_law_150 lkL_13 (fitL hLX (by omega) gmX7_letter) rfl rfl (by decide) rfl rfl rfl (Nat.le_of_ble_eq_true rfl) (c7_letter E hR hW (bd_of _)) (fun r_150 g_150 q_150 => ?_)
  obtain ⟨rfl, hR2, hs2⟩ := q_150
  show V E X 153 _ (vI _ :: _) _
  have hM1 := RM_same hM hs2
  refine k_aload_n hX dL_law_153 rfl rfl ?_
  refine k_aload_n hX dL_law_154 rfl rfl ?_
  refine k_iload_n hX dL_law_155 rfl rfl ?_
  refine k_iconst hX dL_law_156 ?_
  refine k_iadd hX dL_law_157 ?_
  refine k_sld (j := (4 * k + 1)) hX hLX (by omega) (by omega) hL2 dL_law_158 ?_
  refine k_callV (d2 := 5) (n := 1) (as := [_]) hX dL_law_159 lkL_17 (fitL hLX (by omega) gmX8_letter) rfl rfl (by decide) rfl rfl rfl (Nat.le_of_ble_eq_true rfl) (c8_letter E hM1 hW (bd_of _)) (fun r_159 g_159 q_159 => ?_)
  obtain ⟨rfl, hMn, hs3⟩ := q_159
  show V E X 162 _ (vI _ :: vI _ :: _) _
  have hZn := WZ_letter hZ hk1 (xs (4 * k + 1)).toInt
  have hRn := RC_same hR2 hZn.1 hs3
  refine k_same (tgt := 737) hX dL_law_162 (by decide) ?_
  refine k_iinc hX dL_law_737 rfl (by decide) rfl rfl ?_
  try simp only [List.set_cons_zero, List.set_cons_succ]
  refine k_goto (tgt := 18) hX dL_law_740 (by decide) ?_
  have e3 : ((4 * k : Nat) : Int) + 4 = ((4 * (k + 1) : Nat) : Int) := by omega
  rw [e3]
  exact ih (k + 1) _ _ ⟨by omega, by omega, hRn, hMn, hZn⟩

set_option maxRecDepth 100000 in
set_option maxHeartbeats 4000000 in
theorem law_blank {E : En} {X : Cx} {L : Nat} {xs : Nat → Int32} (hX : Xk E mL X) (hLX : LX E X L xs) (hL2 : L ≤ 2048) {A : St} {g : Mm} {m k : Nat} (ih : ∀ (k : Nat) (A : St) (g : Mm), (m + k = 513 ∧ 4 * k ≤ L ∧ RC A g ∧ RM A g ∧ WZ A (k : Int)) → V E X 18 [some (vR 903), some (vR 0), some (vR 46), some (vI ((4 * k : Nat) : Int))] [] g) (hm : m + 1 + k = 513) (hk : 4 * k + 4 ≤ L) (hR : RC A g) (hM : RM A g) (hZ : WZ A (k : Int)) : V E X 167 [some (vR 903), some (vR 0), some (vR 46), some (vI ((4 * k : Nat) : Int))] [] g := by
  have hW := hZ.1
  have hk1 : (k : Int) + 1 ≤ 512 := by omega
  refine k_aload_n hX dL_law_167 rfl rfl ?_
  refine k_callV (d2 := 5) (n := 0) (as := []) hX dL_law_168 lkL_18 (fitL hLX (by omega) gmX7_blank) rfl rfl (by decide) rfl rfl rfl (Nat.le_of_ble_eq_true rfl) (c7_blank E hR hW) (fun r_168 g_168 q_168 => ?_)
  obtain ⟨rfl, hR2, hs2⟩ := q_168
  show V E X 171 _ (vI _ :: _) _
  have hM1 := RM_same hM hs2
  refine k_aload_n hX dL_law_171 rfl rfl ?_
  refine k_callV (d2 := 5) (n := 0) (as := []) hX dL_law_172 lkL_22 (fitL hLX (by omega) gmX8_blank) rfl rfl (by decide) rfl rfl rfl (Nat.le_of_ble_eq_true rfl) (c8_blank E hM1 hW) (fun r_172 g_172 q_172 => ?_)
  obtain ⟨rfl, hMn, hs3⟩ := q_172
  show V E X 175 _ (vI _ :: vI _ :: _) _
  have hZn := WZ_blank hZ hk1
  have hRn := RC_same hR2 hZn.1 hs3
  refine k_same (tgt := 737) hX dL_law_175 (by decide) ?_
  refine k_iinc hX dL_law_737 rfl (by decide) rfl rfl ?_
  try simp only [List.set_cons_zero, List.set_cons_succ]
  refine k_goto (tgt := 18) hX dL_law_740 (by decide) ?_
  have e3 : ((4 * k : Nat) : Int) + 4 = ((4 * (k + 1) : Nat) : Int) := by omega
  rw [e3]
  exact ih (k + 1) _ _ ⟨by omega, by omega, hRn, hMn, hZn⟩

set_option maxRecDepth 100000 in
set_option maxHeartbeats 4000000 in
theorem law_fault {E : En} {X : Cx} {L : Nat} {xs : Nat → Int32} (hX : Xk E mL X) (hLX : LX E X L xs) (hL2 : L ≤ 2048) {A : St} {g : Mm} {m k : Nat} (ih : ∀ (k : Nat) (A : St) (g : Mm), (m + k = 513 ∧ 4 * k ≤ L ∧ RC A g ∧ RM A g ∧ WZ A (k : Int)) → V E X 18 [some (vR 903), some (vR 0), some (vR 46), some (vI ((4 * k : Nat) : Int))] [] g) (hm : m + 1 + k = 513) (hk : 4 * k + 4 ≤ L) (hR : RC A g) (hM : RM A g) (hZ : WZ A (k : Int)) : V E X 180 [some (vR 903), some (vR 0), some (vR 46), some (vI ((4 * k : Nat) : Int))] [] g := by
  have hW := hZ.1
  have hk1 : (k : Int) + 1 ≤ 512 := by omega
  refine k_aload_n hX dL_law_180 rfl rfl ?_
  refine k_callV (d2 := 8) (n := 0) (as := []) hX dL_law_181 lkL_23 (fitL hLX (by omega) gmX7_fault) rfl rfl (by decide) rfl rfl rfl (Nat.le_of_ble_eq_true rfl) (c7_fault E hR hW) (fun r_181 g_181 q_181 => ?_)
  obtain ⟨rfl, hR2, hs2⟩ := q_181
  show V E X 184 _ (vI _ :: _) _
  have hM1 := RM_same hM hs2
  refine k_aload_n hX dL_law_184 rfl rfl ?_
  refine k_callV (d2 := 8) (n := 0) (as := []) hX dL_law_185 lkL_26 (fitL hLX (by omega) gmX8_fault) rfl rfl (by decide) rfl rfl rfl (Nat.le_of_ble_eq_true rfl) (c8_fault E hM1 hW) (fun r_185 g_185 q_185 => ?_)
  obtain ⟨rfl, hMn, hs3⟩ := q_185
  show V E X 188 _ (vI _ :: vI _ :: _) _
  have hZn := WZ_same hZ hk1
  have hRn := RC_same hR2 hZn.1 hs3
  refine k_same (tgt := 737) hX dL_law_188 (by decide) ?_
  refine k_iinc hX dL_law_737 rfl (by decide) rfl rfl ?_
  try simp only [List.set_cons_zero, List.set_cons_succ]
  refine k_goto (tgt := 18) hX dL_law_740 (by decide) ?_
  have e3 : ((4 * k : Nat) : Int) + 4 = ((4 * (k + 1) : Nat) : Int) := by omega
  rw [e3]
  exact ih (k + 1) _ _ ⟨by omega, by omega, hRn, hMn, hZn⟩

set_option maxRecDepth 100000 in
set_option maxHeartbeats 4000000 in
theorem law_garment {E : En} {X : Cx} {L : Nat} {xs : Nat → Int32} (hX : Xk E mL X) (hLX : LX E X L xs) (hL2 : L ≤ 2048) {A : St} {g : Mm} {m k : Nat} (ih : ∀ (k : Nat) (A : St) (g : Mm), (m + k = 513 ∧ 4 * k ≤ L ∧ RC A g ∧ RM A g ∧ WZ A (k : Int)) → V E X 18 [some (vR 903), some (vR 0), some (vR 46), some (vI ((4 * k : Nat) : Int))] [] g) (hm : m + 1 + k = 513) (hk : 4 * k + 4 ≤ L) (hR : RC A g) (hM : RM A g) (hZ : WZ A (k : Int)) : V E X 193 [some (vR 903), some (vR 0), some (vR 46), some (vI ((4 * k : Nat) : Int))] [] g := by
  have hW := hZ.1
  have hk1 : (k : Int) + 1 ≤ 512 := by omega
  refine k_aload_n hX dL_law_193 rfl rfl ?_
  refine k_callV (d2 := 8) (n := 0) (as := []) hX dL_law_194 lkL_27 (fitL hLX (by omega) gmX7_garment) rfl rfl (by decide) rfl rfl rfl (Nat.le_of_ble_eq_true rfl) (c7_garment E hR hW) (fun r_194 g_194 q_194 => ?_)
  obtain ⟨qa, qb, hs2⟩ := q_194
  have hM1 := RM_same hM hs2
  rcases Classical.em (wh A) with hw | hw
  · obtain ⟨rfl, hR2⟩ := qa hw
    show V E X 197 _ (vI _ :: _) _
    refine k_aload_n hX dL_law_197 rfl rfl ?_
    refine k_callV (d2 := 8) (n := 0) (as := []) hX dL_law_198 lkL_30 (fitL hLX (by omega) gmX8_garment) rfl rfl (by decide) rfl rfl rfl (Nat.le_of_ble_eq_true rfl) (c8_garment E hM1 hW) (fun r_198 g_198 q_198 => ?_)
    obtain ⟨qa2, qb2, hs3⟩ := q_198
    obtain ⟨rfl, hMn⟩ := qa2 hw
    show V E X 201 _ (vI _ :: vI _ :: _) _
    have hZn := WZ_gm hZ hk1 hw
    have hRn := RC_same hR2 hZn.1 hs3
    refine k_same (tgt := 737) hX dL_law_201 (by decide) ?_
    refine k_iinc hX dL_law_737 rfl (by decide) rfl rfl ?_
    try simp only [List.set_cons_zero, List.set_cons_succ]
    refine k_goto (tgt := 18) hX dL_law_740 (by decide) ?_
    have e3 : ((4 * k : Nat) : Int) + 4 = ((4 * (k + 1) : Nat) : Int) := by omega
    rw [e3]
    exact ih (k + 1) _ _ ⟨by omega, by omega, hRn, hMn, hZn⟩
  · obtain ⟨rfl, hR2⟩ := qb hw
    show V E X 197 _ (vI _ :: _) _
    refine k_aload_n hX dL_law_197 rfl rfl ?_
    refine k_callV (d2 := 8) (n := 0) (as := []) hX dL_law_198 lkL_30 (fitL hLX (by omega) gmX8_garment) rfl rfl (by decide) rfl rfl rfl (Nat.le_of_ble_eq_true rfl) (c8_garment E hM1 hW) (fun r_198 g_198 q_198 => ?_)
    obtain ⟨qa2, qb2, hs3⟩ := q_198
    obtain ⟨rfl, hMn⟩ := qb2 hw
    show V E X 201 _ (vI _ :: vI _ :: _) _
    have hZn := WZ_same hZ hk1
    have hRn := RC_same hR2 hZn.1 hs3
    refine k_same (tgt := 737) hX dL_law_201 (by decide) ?_
    refine k_iinc hX dL_law_737 rfl (by decide) rfl rfl ?_
    try simp only [List.set_cons_zero, List.set_cons_succ]
    refine k_goto (tgt := 18) hX dL_law_740 (by decide) ?_
    have e3 : ((4 * k : Nat) : Int) + 4 = ((4 * (k + 1) : Nat) : Int) := by omega
    rw [e3]
    exact ih (k + 1) _ _ ⟨by omega, by omega, hRn, hMn, hZn⟩

set_option maxRecDepth 100000 in
set_option maxHeartbeats 4000000 in
theorem law_about {E : En} {X : Cx} {L : Nat} {xs : Nat → Int32} (hX : Xk E mL X) (hLX : LX E X L xs) (hL2 : L ≤ 2048) {A : St} {g : Mm} {m k : Nat} (ih : ∀ (k : Nat) (A : St) (g : Mm), (m + k = 513 ∧ 4 * k ≤ L ∧ RC A g ∧ RM A g ∧ WZ A (k : Int)) → V E X 18 [some (vR 903), some (vR 0), some (vR 46), some (vI ((4 * k : Nat) : Int))] [] g) (hm : m + 1 + k = 513) (hk : 4 * k + 4 ≤ L) (hR : RC A g) (hM : RM A g) (hZ : WZ A (k : Int)) : V E X 206 [some (vR 903), some (vR 0), some (vR 46), some (vI ((4 * k : Nat) : Int))] [] g := by
  have hW := hZ.1
  have hk1 : (k : Int) + 1 ≤ 512 := by omega
  refine k_aload_n hX dL_law_206 rfl rfl ?_
  refine k_aload_n hX dL_law_207 rfl rfl ?_
  refine k_iload_n hX dL_law_208 rfl rfl ?_
  refine k_iconst hX dL_law_209 ?_
  refine k_iadd hX dL_law_210 ?_
  refine k_sld (j := (4 * k + 1)) hX hLX (by omega) (by omega) hL2 dL_law_211 ?_
  refine k_aload_n hX dL_law_212 rfl rfl ?_
  refine k_iload_n hX dL_law_213 rfl rfl ?_
  refine k_iconst hX dL_law_214 ?_
  refine k_iadd hX dL_law_215 ?_
  refine k_sld (j := (4 * k + 2)) hX hLX (by omega) (by omega) hL2 dL_law_216 ?_
  refine k_callV (d2 := 5) (n := 2) (as := [_, _]) hX dL_law_217 lkL_31 (fitL hLX (by omega) gmX7_about) rfl rfl (by decide) rfl rfl rfl (Nat.le_of_ble_eq_true rfl) (c7_about E hR hW (bd_of _) (bd_of _)) (fun r_217 g_217 q_217 => ?_)
  obtain ⟨rfl, hR2, hs2⟩ := q_217
  show V E X 220 _ (vI _ :: _) _
  have hM1 := RM_same hM hs2
  refine k_aload_n hX dL_law_220 rfl rfl ?_
  refine k_aload_n hX dL_law_221 rfl rfl ?_
  refine k_iload_n hX dL_law_222 rfl rfl ?_
  refine k_iconst hX dL_law_223 ?_
  refine k_iadd hX dL_law_224 ?_
  refine k_sld (j := (4 * k + 1)) hX hLX (by omega) (by omega) hL2 dL_law_225 ?_
  refine k_aload_n hX dL_law_226 rfl rfl ?_
  refine k_iload_n hX dL_law_227 rfl rfl ?_
  refine k_iconst hX dL_law_228 ?_
  refine k_iadd hX dL_law_229 ?_
  refine k_sld (j := (4 * k + 2)) hX hLX (by omega) (by omega) hL2 dL_law_230 ?_
  refine k_callV (d2 := 5) (n := 2) (as := [_, _]) hX dL_law_231 lkL_35 (fitL hLX (by omega) gmX8_about) rfl rfl (by decide) rfl rfl rfl (Nat.le_of_ble_eq_true rfl) (c8_about E hM1 hW (bd_of _) (bd_of _)) (fun r_231 g_231 q_231 => ?_)
  obtain ⟨rfl, hMn, hs3⟩ := q_231
  show V E X 234 _ (vI _ :: vI _ :: _) _
  have hZn := WZ_same hZ hk1
  have hRn := RC_same hR2 hZn.1 hs3
  refine k_same (tgt := 737) hX dL_law_234 (by decide) ?_
  refine k_iinc hX dL_law_737 rfl (by decide) rfl rfl ?_
  try simp only [List.set_cons_zero, List.set_cons_succ]
  refine k_goto (tgt := 18) hX dL_law_740 (by decide) ?_
  have e3 : ((4 * k : Nat) : Int) + 4 = ((4 * (k + 1) : Nat) : Int) := by omega
  rw [e3]
  exact ih (k + 1) _ _ ⟨by omega, by omega, hRn, hMn, hZn⟩

set_option maxRecDepth 100000 in
set_option maxHeartbeats 4000000 in
theorem law_as {E : En} {X : Cx} {L : Nat} {xs : Nat → Int32} (hX : Xk E mL X) (hLX : LX E X L xs) (hL2 : L ≤ 2048) {A : St} {g : Mm} {m k : Nat} (ih : ∀ (k : Nat) (A : St) (g : Mm), (m + k = 513 ∧ 4 * k ≤ L ∧ RC A g ∧ RM A g ∧ WZ A (k : Int)) → V E X 18 [some (vR 903), some (vR 0), some (vR 46), some (vI ((4 * k : Nat) : Int))] [] g) (hm : m + 1 + k = 513) (hk : 4 * k + 4 ≤ L) (hR : RC A g) (hM : RM A g) (hZ : WZ A (k : Int)) : V E X 239 [some (vR 903), some (vR 0), some (vR 46), some (vI ((4 * k : Nat) : Int))] [] g := by
  have hW := hZ.1
  have hk1 : (k : Int) + 1 ≤ 512 := by omega
  refine k_aload_n hX dL_law_239 rfl rfl ?_
  refine k_aload_n hX dL_law_240 rfl rfl ?_
  refine k_iload_n hX dL_law_241 rfl rfl ?_
  refine k_iconst hX dL_law_242 ?_
  refine k_iadd hX dL_law_243 ?_
  refine k_sld (j := (4 * k + 1)) hX hLX (by omega) (by omega) hL2 dL_law_244 ?_
  refine k_aload_n hX dL_law_245 rfl rfl ?_
  refine k_iload_n hX dL_law_246 rfl rfl ?_
  refine k_iconst hX dL_law_247 ?_
  refine k_iadd hX dL_law_248 ?_
  refine k_sld (j := (4 * k + 2)) hX hLX (by omega) (by omega) hL2 dL_law_249 ?_
  refine k_callV (d2 := 5) (n := 2) (as := [_, _]) hX dL_law_250 lkL_36 (fitL hLX (by omega) gmX7_as) rfl rfl (by decide) rfl rfl rfl (Nat.le_of_ble_eq_true rfl) (c7_as E hR hW (bd_of _) (bd_of _)) (fun r_250 g_250 q_250 => ?_)
  obtain ⟨rfl, hR2, hs2⟩ := q_250
  show V E X 253 _ (vI _ :: _) _
  have hM1 := RM_same hM hs2
  refine k_aload_n hX dL_law_253 rfl rfl ?_
  refine k_aload_n hX dL_law_254 rfl rfl ?_
  refine k_iload_n hX dL_law_255 rfl rfl ?_
  refine k_iconst hX dL_law_256 ?_
  refine k_iadd hX dL_law_257 ?_
  refine k_sld (j := (4 * k + 1)) hX hLX (by omega) (by omega) hL2 dL_law_258 ?_
  refine k_aload_n hX dL_law_259 rfl rfl ?_
  refine k_iload_n hX dL_law_260 rfl rfl ?_
  refine k_iconst hX dL_law_261 ?_
  refine k_iadd hX dL_law_262 ?_
  refine k_sld (j := (4 * k + 2)) hX hLX (by omega) (by omega) hL2 dL_law_263 ?_
  refine k_callV (d2 := 5) (n := 2) (as := [_, _]) hX dL_law_264 lkL_39 (fitL hLX (by omega) gmX8_as) rfl rfl (by decide) rfl rfl rfl (Nat.le_of_ble_eq_true rfl) (c8_as E hM1 hW (bd_of _) (bd_of _)) (fun r_264 g_264 q_264 => ?_)
  obtain ⟨rfl, hMn, hs3⟩ := q_264
  show V E X 267 _ (vI _ :: vI _ :: _) _
  have hZn := WZ_same hZ hk1
  have hRn := RC_same hR2 hZn.1 hs3
  refine k_same (tgt := 737) hX dL_law_267 (by decide) ?_
  refine k_iinc hX dL_law_737 rfl (by decide) rfl rfl ?_
  try simp only [List.set_cons_zero, List.set_cons_succ]
  refine k_goto (tgt := 18) hX dL_law_740 (by decide) ?_
  have e3 : ((4 * k : Nat) : Int) + 4 = ((4 * (k + 1) : Nat) : Int) := by omega
  rw [e3]
  exact ih (k + 1) _ _ ⟨by omega, by omega, hRn, hMn, hZn⟩

set_option maxRecDepth 100000 in
set_option maxHeartbeats 4000000 in
theorem law_lot {E : En} {X : Cx} {L : Nat} {xs : Nat → Int32} (hX : Xk E mL X) (hLX : LX E X L xs) (hL2 : L ≤ 2048) {A : St} {g : Mm} {m k : Nat} (ih : ∀ (k : Nat) (A : St) (g : Mm), (m + k = 513 ∧ 4 * k ≤ L ∧ RC A g ∧ RM A g ∧ WZ A (k : Int)) → V E X 18 [some (vR 903), some (vR 0), some (vR 46), some (vI ((4 * k : Nat) : Int))] [] g) (hm : m + 1 + k = 513) (hk : 4 * k + 4 ≤ L) (hR : RC A g) (hM : RM A g) (hZ : WZ A (k : Int)) : V E X 272 [some (vR 903), some (vR 0), some (vR 46), some (vI ((4 * k : Nat) : Int))] [] g := by
  have hW := hZ.1
  have hk1 : (k : Int) + 1 ≤ 512 := by omega
  refine k_aload_n hX dL_law_272 rfl rfl ?_
  refine k_aload_n hX dL_law_273 rfl rfl ?_
  refine k_iload_n hX dL_law_274 rfl rfl ?_
  refine k_iconst hX dL_law_275 ?_
  refine k_iadd hX dL_law_276 ?_
  refine k_sld (j := (4 * k + 1)) hX hLX (by omega) (by omega) hL2 dL_law_277 ?_
  refine k_callV (d2 := 5) (n := 1) (as := [_]) hX dL_law_278 lkL_40 (fitL hLX (by omega) gmX7_lot) rfl rfl (by decide) rfl rfl rfl (Nat.le_of_ble_eq_true rfl) (c7_lot E hR hW (bd_of _)) (fun r_278 g_278 q_278 => ?_)
  obtain ⟨rfl, hR2, hs2⟩ := q_278
  show V E X 281 _ (vI _ :: _) _
  have hM1 := RM_same hM hs2
  refine k_aload_n hX dL_law_281 rfl rfl ?_
  refine k_aload_n hX dL_law_282 rfl rfl ?_
  refine k_iload_n hX dL_law_283 rfl rfl ?_
  refine k_iconst hX dL_law_284 ?_
  refine k_iadd hX dL_law_285 ?_
  refine k_sld (j := (4 * k + 1)) hX hLX (by omega) (by omega) hL2 dL_law_286 ?_
  refine k_callV (d2 := 5) (n := 1) (as := [_]) hX dL_law_287 lkL_43 (fitL hLX (by omega) gmX8_lot) rfl rfl (by decide) rfl rfl rfl (Nat.le_of_ble_eq_true rfl) (c8_lot E hM1 hW (bd_of _)) (fun r_287 g_287 q_287 => ?_)
  obtain ⟨rfl, hMn, hs3⟩ := q_287
  show V E X 290 _ (vI _ :: vI _ :: _) _
  have hZn := WZ_lotNew hZ hk1 (xs (4 * k + 1)).toInt
  have hRn := RC_same hR2 hZn.1 hs3
  refine k_same (tgt := 737) hX dL_law_290 (by decide) ?_
  refine k_iinc hX dL_law_737 rfl (by decide) rfl rfl ?_
  try simp only [List.set_cons_zero, List.set_cons_succ]
  refine k_goto (tgt := 18) hX dL_law_740 (by decide) ?_
  have e3 : ((4 * k : Nat) : Int) + 4 = ((4 * (k + 1) : Nat) : Int) := by omega
  rw [e3]
  exact ih (k + 1) _ _ ⟨by omega, by omega, hRn, hMn, hZn⟩

set_option maxRecDepth 100000 in
set_option maxHeartbeats 4000000 in
theorem law_lotOf {E : En} {X : Cx} {L : Nat} {xs : Nat → Int32} (hX : Xk E mL X) (hLX : LX E X L xs) (hL2 : L ≤ 2048) {A : St} {g : Mm} {m k : Nat} (ih : ∀ (k : Nat) (A : St) (g : Mm), (m + k = 513 ∧ 4 * k ≤ L ∧ RC A g ∧ RM A g ∧ WZ A (k : Int)) → V E X 18 [some (vR 903), some (vR 0), some (vR 46), some (vI ((4 * k : Nat) : Int))] [] g) (hm : m + 1 + k = 513) (hk : 4 * k + 4 ≤ L) (hR : RC A g) (hM : RM A g) (hZ : WZ A (k : Int)) : V E X 295 [some (vR 903), some (vR 0), some (vR 46), some (vI ((4 * k : Nat) : Int))] [] g := by
  have hW := hZ.1
  have hk1 : (k : Int) + 1 ≤ 512 := by omega
  refine k_aload_n hX dL_law_295 rfl rfl ?_
  refine k_aload_n hX dL_law_296 rfl rfl ?_
  refine k_iload_n hX dL_law_297 rfl rfl ?_
  refine k_iconst hX dL_law_298 ?_
  refine k_iadd hX dL_law_299 ?_
  refine k_sld (j := (4 * k + 1)) hX hLX (by omega) (by omega) hL2 dL_law_300 ?_
  refine k_aload_n hX dL_law_301 rfl rfl ?_
  refine k_iload_n hX dL_law_302 rfl rfl ?_
  refine k_iconst hX dL_law_303 ?_
  refine k_iadd hX dL_law_304 ?_
  refine k_sld (j := (4 * k + 2)) hX hLX (by omega) (by omega) hL2 dL_law_305 ?_
  refine k_callV (d2 := 5) (n := 2) (as := [_, _]) hX dL_law_306 lkL_44 (fitL hLX (by omega) gmX7_lotOf) rfl rfl (by decide) rfl rfl rfl (Nat.le_of_ble_eq_true rfl) (c7_lotOf E hR hW (bd_of _) (bd_of _)) (fun r_306 g_306 q_306 => ?_)
  obtain ⟨rfl, hR2, hs2⟩ := q_306
  show V E X 309 _ (vI _ :: _) _
  have hM1 := RM_same hM hs2
  refine k_aload_n hX dL_law_309 rfl rfl ?_
  refine k_aload_n hX dL_law_310 rfl rfl ?_
  refine k_iload_n hX dL_law_311 rfl rfl ?_
  refine k_iconst hX dL_law_312 ?_
  refine k_iadd hX dL_law_313 ?_
  refine k_sld (j := (4 * k + 1)) hX hLX (by omega) (by omega) hL2 dL_law_314 ?_
  refine k_aload_n hX dL_law_315 rfl rfl ?_
  refine k_iload_n hX dL_law_316 rfl rfl ?_
  refine k_iconst hX dL_law_317 ?_
  refine k_iadd hX dL_law_318 ?_
  refine k_sld (j := (4 * k + 2)) hX hLX (by omega) (by omega) hL2 dL_law_319 ?_
  refine k_callV (d2 := 5) (n := 2) (as := [_, _]) hX dL_law_320 lkL_47 (fitL hLX (by omega) gmX8_lotOf) rfl rfl (by decide) rfl rfl rfl (Nat.le_of_ble_eq_true rfl) (c8_lotOf E hM1 hW (bd_of _) (bd_of _)) (fun r_320 g_320 q_320 => ?_)
  obtain ⟨rfl, hMn, hs3⟩ := q_320
  show V E X 323 _ (vI _ :: vI _ :: _) _
  have hZn := WZ_same hZ hk1
  have hRn := RC_same hR2 hZn.1 hs3
  refine k_same (tgt := 737) hX dL_law_323 (by decide) ?_
  refine k_iinc hX dL_law_737 rfl (by decide) rfl rfl ?_
  try simp only [List.set_cons_zero, List.set_cons_succ]
  refine k_goto (tgt := 18) hX dL_law_740 (by decide) ?_
  have e3 : ((4 * k : Nat) : Int) + 4 = ((4 * (k + 1) : Nat) : Int) := by omega
  rw [e3]
  exact ih (k + 1) _ _ ⟨by omega, by omega, hRn, hMn, hZn⟩

set_option maxRecDepth 100000 in
set_option maxHeartbeats 4000000 in
theorem law_buy {E : En} {X : Cx} {L : Nat} {xs : Nat → Int32} (hX : Xk E mL X) (hLX : LX E X L xs) (hL2 : L ≤ 2048) {A : St} {g : Mm} {m k : Nat} (ih : ∀ (k : Nat) (A : St) (g : Mm), (m + k = 513 ∧ 4 * k ≤ L ∧ RC A g ∧ RM A g ∧ WZ A (k : Int)) → V E X 18 [some (vR 903), some (vR 0), some (vR 46), some (vI ((4 * k : Nat) : Int))] [] g) (hm : m + 1 + k = 513) (hk : 4 * k + 4 ≤ L) (hR : RC A g) (hM : RM A g) (hZ : WZ A (k : Int)) : V E X 328 [some (vR 903), some (vR 0), some (vR 46), some (vI ((4 * k : Nat) : Int))] [] g := by
  have hW := hZ.1
  have hk1 : (k : Int) + 1 ≤ 512 := by omega
  refine k_aload_n hX dL_law_328 rfl rfl ?_
  refine k_aload_n hX dL_law_329 rfl rfl ?_
  refine k_iload_n hX dL_law_330 rfl rfl ?_
  refine k_iconst hX dL_law_331 ?_
  refine k_iadd hX dL_law_332 ?_
  refine k_sld (j := (4 * k + 1)) hX hLX (by omega) (by omega) hL2 dL_law_333 ?_
  refine k_aload_n hX dL_law_334 rfl rfl ?_
  refine k_iload_n hX dL_law_335 rfl rfl ?_
  refine k_iconst hX dL_law_336 ?_
  refine k_iadd hX dL_law_337 ?_
  refine k_sld (j := (4 * k + 2)) hX hLX (by omega) (by omega) hL2 dL_law_338 ?_
  refine k_callV (d2 := 5) (n := 2) (as := [_, _]) hX dL_law_339 lkL_48 (fitL hLX (by omega) gmX7_buy) rfl rfl (by decide) rfl rfl rfl (Nat.le_of_ble_eq_true rfl) (c7_buy E hR hW (bd_of _) (bd_of _)) (fun r_339 g_339 q_339 => ?_)
  obtain ⟨rfl, hR2, hs2⟩ := q_339
  show V E X 342 _ (vI _ :: _) _
  have hM1 := RM_same hM hs2
  refine k_aload_n hX dL_law_342 rfl rfl ?_
  refine k_aload_n hX dL_law_343 rfl rfl ?_
  refine k_iload_n hX dL_law_344 rfl rfl ?_
  refine k_iconst hX dL_law_345 ?_
  refine k_iadd hX dL_law_346 ?_
  refine k_sld (j := (4 * k + 1)) hX hLX (by omega) (by omega) hL2 dL_law_347 ?_
  refine k_aload_n hX dL_law_348 rfl rfl ?_
  refine k_iload_n hX dL_law_349 rfl rfl ?_
  refine k_iconst hX dL_law_350 ?_
  refine k_iadd hX dL_law_351 ?_
  refine k_sld (j := (4 * k + 2)) hX hLX (by omega) (by omega) hL2 dL_law_352 ?_
  refine k_callV (d2 := 5) (n := 2) (as := [_, _]) hX dL_law_353 lkL_51 (fitL hLX (by omega) gmX8_buy) rfl rfl (by decide) rfl rfl rfl (Nat.le_of_ble_eq_true rfl) (c8_buy E hM1 hW (bd_of _) (bd_of _)) (fun r_353 g_353 q_353 => ?_)
  obtain ⟨rfl, hMn, hs3⟩ := q_353
  show V E X 356 _ (vI _ :: vI _ :: _) _
  have hZn := WZ_buy hZ hk1 (xs (4 * k + 1)).toInt (xs (4 * k + 2)).toInt
  have hRn := RC_same hR2 hZn.1 hs3
  refine k_same (tgt := 737) hX dL_law_356 (by decide) ?_
  refine k_iinc hX dL_law_737 rfl (by decide) rfl rfl ?_
  try simp only [List.set_cons_zero, List.set_cons_succ]
  refine k_goto (tgt := 18) hX dL_law_740 (by decide) ?_
  have e3 : ((4 * k : Nat) : Int) + 4 = ((4 * (k + 1) : Nat) : Int) := by omega
  rw [e3]
  exact ih (k + 1) _ _ ⟨by omega, by omega, hRn, hMn, hZn⟩

set_option maxRecDepth 100000 in
set_option maxHeartbeats 4000000 in
theorem law_back {E : En} {X : Cx} {L : Nat} {xs : Nat → Int32} (hX : Xk E mL X) (hLX : LX E X L xs) (hL2 : L ≤ 2048) {A : St} {g : Mm} {m k : Nat} (ih : ∀ (k : Nat) (A : St) (g : Mm), (m + k = 513 ∧ 4 * k ≤ L ∧ RC A g ∧ RM A g ∧ WZ A (k : Int)) → V E X 18 [some (vR 903), some (vR 0), some (vR 46), some (vI ((4 * k : Nat) : Int))] [] g) (hm : m + 1 + k = 513) (hk : 4 * k + 4 ≤ L) (hR : RC A g) (hM : RM A g) (hZ : WZ A (k : Int)) : V E X 361 [some (vR 903), some (vR 0), some (vR 46), some (vI ((4 * k : Nat) : Int))] [] g := by
  have hW := hZ.1
  have hk1 : (k : Int) + 1 ≤ 512 := by omega
  refine k_aload_n hX dL_law_361 rfl rfl ?_
  refine k_aload_n hX dL_law_362 rfl rfl ?_
  refine k_iload_n hX dL_law_363 rfl rfl ?_
  refine k_iconst hX dL_law_364 ?_
  refine k_iadd hX dL_law_365 ?_
  refine k_sld (j := (4 * k + 1)) hX hLX (by omega) (by omega) hL2 dL_law_366 ?_
  refine k_aload_n hX dL_law_367 rfl rfl ?_
  refine k_iload_n hX dL_law_368 rfl rfl ?_
  refine k_iconst hX dL_law_369 ?_
  refine k_iadd hX dL_law_370 ?_
  refine k_sld (j := (4 * k + 2)) hX hLX (by omega) (by omega) hL2 dL_law_371 ?_
  refine k_callV (d2 := 5) (n := 2) (as := [_, _]) hX dL_law_372 lkL_52 (fitL hLX (by omega) gmX7_back) rfl rfl (by decide) rfl rfl rfl (Nat.le_of_ble_eq_true rfl) (c7_back E hR hW (bd_of _) (bd_of _)) (fun r_372 g_372 q_372 => ?_)
  obtain ⟨rfl, hR2, hs2⟩ := q_372
  show V E X 375 _ (vI _ :: _) _
  have hM1 := RM_same hM hs2
  refine k_aload_n hX dL_law_375 rfl rfl ?_
  refine k_aload_n hX dL_law_376 rfl rfl ?_
  refine k_iload_n hX dL_law_377 rfl rfl ?_
  refine k_iconst hX dL_law_378 ?_
  refine k_iadd hX dL_law_379 ?_
  refine k_sld (j := (4 * k + 1)) hX hLX (by omega) (by omega) hL2 dL_law_380 ?_
  refine k_aload_n hX dL_law_381 rfl rfl ?_
  refine k_iload_n hX dL_law_382 rfl rfl ?_
  refine k_iconst hX dL_law_383 ?_
  refine k_iadd hX dL_law_384 ?_
  refine k_sld (j := (4 * k + 2)) hX hLX (by omega) (by omega) hL2 dL_law_385 ?_
  refine k_callV (d2 := 5) (n := 2) (as := [_, _]) hX dL_law_386 lkL_55 (fitL hLX (by omega) gmX8_back) rfl rfl (by decide) rfl rfl rfl (Nat.le_of_ble_eq_true rfl) (c8_back E hM1 hW (bd_of _) (bd_of _)) (fun r_386 g_386 q_386 => ?_)
  obtain ⟨rfl, hMn, hs3⟩ := q_386
  show V E X 389 _ (vI _ :: vI _ :: _) _
  have hZn := WZ_back hZ hk1 (xs (4 * k + 1)).toInt (xs (4 * k + 2)).toInt
  have hRn := RC_same hR2 hZn.1 hs3
  refine k_same (tgt := 737) hX dL_law_389 (by decide) ?_
  refine k_iinc hX dL_law_737 rfl (by decide) rfl rfl ?_
  try simp only [List.set_cons_zero, List.set_cons_succ]
  refine k_goto (tgt := 18) hX dL_law_740 (by decide) ?_
  have e3 : ((4 * k : Nat) : Int) + 4 = ((4 * (k + 1) : Nat) : Int) := by omega
  rw [e3]
  exact ih (k + 1) _ _ ⟨by omega, by omega, hRn, hMn, hZn⟩

set_option maxRecDepth 100000 in
set_option maxHeartbeats 4000000 in
theorem law_knit {E : En} {X : Cx} {L : Nat} {xs : Nat → Int32} (hX : Xk E mL X) (hLX : LX E X L xs) (hL2 : L ≤ 2048) {A : St} {g : Mm} {m k : Nat} (ih : ∀ (k : Nat) (A : St) (g : Mm), (m + k = 513 ∧ 4 * k ≤ L ∧ RC A g ∧ RM A g ∧ WZ A (k : Int)) → V E X 18 [some (vR 903), some (vR 0), some (vR 46), some (vI ((4 * k : Nat) : Int))] [] g) (hm : m + 1 + k = 513) (hk : 4 * k + 4 ≤ L) (hR : RC A g) (hM : RM A g) (hZ : WZ A (k : Int)) : V E X 394 [some (vR 903), some (vR 0), some (vR 46), some (vI ((4 * k : Nat) : Int))] [] g := by
  have hW := hZ.1
  have hk1 : (k : Int) + 1 ≤ 512 := by omega
  refine k_aload_n hX dL_law_394 rfl rfl ?_
  refine k_aload_n hX dL_law_395 rfl rfl ?_
  refine k_iload_n hX dL_law_396 rfl rfl ?_
  refine k_iconst hX dL_law_397 ?_
  refine k_iadd hX dL_law_398 ?_
  refine k_sld (j := (4 * k + 1)) hX hLX (by omega) (by omega) hL2 dL_law_399 ?_
  refine k_aload_n hX dL_law_400 rfl rfl ?_
  refine k_iload_n hX dL_law_401 rfl rfl ?_
  refine k_iconst hX dL_law_402 ?_
  refine k_iadd hX dL_law_403 ?_
  refine k_sld (j := (4 * k + 2)) hX hLX (by omega) (by omega) hL2 dL_law_404 ?_
  refine k_aload_n hX dL_law_405 rfl rfl ?_
  refine k_iload_n hX dL_law_406 rfl rfl ?_
  refine k_iconst hX dL_law_407 ?_
  refine k_iadd hX dL_law_408 ?_
  refine k_sld (j := (4 * k + 3)) hX hLX (by omega) (by omega) hL2 dL_law_409 ?_
  refine k_callV (d2 := 5) (n := 3) (as := [_, _, _]) hX dL_law_410 lkL_56 (fitL hLX (by omega) gmX7_knit) rfl rfl (by decide) rfl rfl rfl (Nat.le_of_ble_eq_true rfl) (c7_knit E hR hW (bd_of _) (bd_of _) (bd_of _) (WZ_knit hZ hk1 (xs (4 * k + 1)).toInt (xs (4 * k + 2)).toInt (xs (4 * k + 3)).toInt).1) (fun r_410 g_410 q_410 => ?_)
  obtain ⟨rfl, hR2, hs2⟩ := q_410
  show V E X 413 _ (vI _ :: _) _
  have hM1 := RM_same hM hs2
  refine k_aload_n hX dL_law_413 rfl rfl ?_
  refine k_aload_n hX dL_law_414 rfl rfl ?_
  refine k_iload_n hX dL_law_415 rfl rfl ?_
  refine k_iconst hX dL_law_416 ?_
  refine k_iadd hX dL_law_417 ?_
  refine k_sld (j := (4 * k + 1)) hX hLX (by omega) (by omega) hL2 dL_law_418 ?_
  refine k_aload_n hX dL_law_419 rfl rfl ?_
  refine k_iload_n hX dL_law_420 rfl rfl ?_
  refine k_iconst hX dL_law_421 ?_
  refine k_iadd hX dL_law_422 ?_
  refine k_sld (j := (4 * k + 2)) hX hLX (by omega) (by omega) hL2 dL_law_423 ?_
  refine k_aload_n hX dL_law_424 rfl rfl ?_
  refine k_iload_n hX dL_law_425 rfl rfl ?_
  refine k_iconst hX dL_law_426 ?_
  refine k_iadd hX dL_law_427 ?_
  refine k_sld (j := (4 * k + 3)) hX hLX (by omega) (by omega) hL2 dL_law_428 ?_
  refine k_callV (d2 := 5) (n := 3) (as := [_, _, _]) hX dL_law_429 lkL_60 (fitL hLX (by omega) gmX8_knit) rfl rfl (by decide) rfl rfl rfl (Nat.le_of_ble_eq_true rfl) (c8_knit E hM1 hW (bd_of _) (bd_of _) (bd_of _) (WZ_knit hZ hk1 (xs (4 * k + 1)).toInt (xs (4 * k + 2)).toInt (xs (4 * k + 3)).toInt).1) (fun r_429 g_429 q_429 => ?_)
  obtain ⟨rfl, hMn, hs3⟩ := q_429
  show V E X 432 _ (vI _ :: vI _ :: _) _
  have hZn := WZ_knit hZ hk1 (xs (4 * k + 1)).toInt (xs (4 * k + 2)).toInt (xs (4 * k + 3)).toInt
  have hRn := RC_same hR2 hZn.1 hs3
  refine k_same (tgt := 737) hX dL_law_432 (by decide) ?_
  refine k_iinc hX dL_law_737 rfl (by decide) rfl rfl ?_
  try simp only [List.set_cons_zero, List.set_cons_succ]
  refine k_goto (tgt := 18) hX dL_law_740 (by decide) ?_
  have e3 : ((4 * k : Nat) : Int) + 4 = ((4 * (k + 1) : Nat) : Int) := by omega
  rw [e3]
  exact ih (k + 1) _ _ ⟨by omega, by omega, hRn, hMn, hZn⟩

set_option maxRecDepth 100000 in
set_option maxHeartbeats 4000000 in
theorem law_undo {E : En} {X : Cx} {L : Nat} {xs : Nat → Int32} (hX : Xk E mL X) (hLX : LX E X L xs) (hL2 : L ≤ 2048) {A : St} {g : Mm} {m k : Nat} (ih : ∀ (k : Nat) (A : St) (g : Mm), (m + k = 513 ∧ 4 * k ≤ L ∧ RC A g ∧ RM A g ∧ WZ A (k : Int)) → V E X 18 [some (vR 903), some (vR 0), some (vR 46), some (vI ((4 * k : Nat) : Int))] [] g) (hm : m + 1 + k = 513) (hk : 4 * k + 4 ≤ L) (hR : RC A g) (hM : RM A g) (hZ : WZ A (k : Int)) : V E X 437 [some (vR 903), some (vR 0), some (vR 46), some (vI ((4 * k : Nat) : Int))] [] g := by
  have hW := hZ.1
  have hk1 : (k : Int) + 1 ≤ 512 := by omega
  refine k_aload_n hX dL_law_437 rfl rfl ?_
  refine k_aload_n hX dL_law_438 rfl rfl ?_
  refine k_iload_n hX dL_law_439 rfl rfl ?_
  refine k_iconst hX dL_law_440 ?_
  refine k_iadd hX dL_law_441 ?_
  refine k_sld (j := (4 * k + 1)) hX hLX (by omega) (by omega) hL2 dL_law_442 ?_
  refine k_callV (d2 := 5) (n := 1) (as := [_]) hX dL_law_443 lkL_61 (fitL hLX (by omega) gmX7_undo) rfl rfl (by decide) rfl rfl rfl (Nat.le_of_ble_eq_true rfl) (c7_undo E hR hW (bd_of _)) (fun r_443 g_443 q_443 => ?_)
  obtain ⟨rfl, hR2, hs2⟩ := q_443
  show V E X 446 _ (vI _ :: _) _
  have hM1 := RM_same hM hs2
  refine k_aload_n hX dL_law_446 rfl rfl ?_
  refine k_aload_n hX dL_law_447 rfl rfl ?_
  refine k_iload_n hX dL_law_448 rfl rfl ?_
  refine k_iconst hX dL_law_449 ?_
  refine k_iadd hX dL_law_450 ?_
  refine k_sld (j := (4 * k + 1)) hX hLX (by omega) (by omega) hL2 dL_law_451 ?_
  refine k_callV (d2 := 5) (n := 1) (as := [_]) hX dL_law_452 lkL_64 (fitL hLX (by omega) gmX8_undo) rfl rfl (by decide) rfl rfl rfl (Nat.le_of_ble_eq_true rfl) (c8_undo E hM1 hW (bd_of _)) (fun r_452 g_452 q_452 => ?_)
  obtain ⟨rfl, hMn, hs3⟩ := q_452
  show V E X 455 _ (vI _ :: vI _ :: _) _
  have hZn := WZ_undo hZ hk1 (xs (4 * k + 1)).toInt
  have hRn := RC_same hR2 hZn.1 hs3
  refine k_same (tgt := 737) hX dL_law_455 (by decide) ?_
  refine k_iinc hX dL_law_737 rfl (by decide) rfl rfl ?_
  try simp only [List.set_cons_zero, List.set_cons_succ]
  refine k_goto (tgt := 18) hX dL_law_740 (by decide) ?_
  have e3 : ((4 * k : Nat) : Int) + 4 = ((4 * (k + 1) : Nat) : Int) := by omega
  rw [e3]
  exact ih (k + 1) _ _ ⟨by omega, by omega, hRn, hMn, hZn⟩

set_option maxRecDepth 100000 in
set_option maxHeartbeats 4000000 in
theorem law_gauge {E : En} {X : Cx} {L : Nat} {xs : Nat → Int32} (hX : Xk E mL X) (hLX : LX E X L xs) (hL2 : L ≤ 2048) {A : St} {g : Mm} {m k : Nat} (ih : ∀ (k : Nat) (A : St) (g : Mm), (m + k = 513 ∧ 4 * k ≤ L ∧ RC A g ∧ RM A g ∧ WZ A (k : Int)) → V E X 18 [some (vR 903), some (vR 0), some (vR 46), some (vI ((4 * k : Nat) : Int))] [] g) (hm : m + 1 + k = 513) (hk : 4 * k + 4 ≤ L) (hR : RC A g) (hM : RM A g) (hZ : WZ A (k : Int)) : V E X 460 [some (vR 903), some (vR 0), some (vR 46), some (vI ((4 * k : Nat) : Int))] [] g := by
  have hW := hZ.1
  have hk1 : (k : Int) + 1 ≤ 512 := by omega
  refine k_aload_n hX dL_law_460 rfl rfl ?_
  refine k_aload_n hX dL_law_461 rfl rfl ?_
  refine k_iload_n hX dL_law_462 rfl rfl ?_
  refine k_iconst hX dL_law_463 ?_
  refine k_iadd hX dL_law_464 ?_
  refine k_sld (j := (4 * k + 1)) hX hLX (by omega) (by omega) hL2 dL_law_465 ?_
  refine k_aload_n hX dL_law_466 rfl rfl ?_
  refine k_iload_n hX dL_law_467 rfl rfl ?_
  refine k_iconst hX dL_law_468 ?_
  refine k_iadd hX dL_law_469 ?_
  refine k_sld (j := (4 * k + 2)) hX hLX (by omega) (by omega) hL2 dL_law_470 ?_
  refine k_callV (d2 := 5) (n := 2) (as := [_, _]) hX dL_law_471 lkL_65 (fitL hLX (by omega) gmX7_gauge) rfl rfl (by decide) rfl rfl rfl (Nat.le_of_ble_eq_true rfl) (c7_gauge E hR hW (bd_of _) (bd_of _)) (fun r_471 g_471 q_471 => ?_)
  obtain ⟨rfl, hR2, hs2⟩ := q_471
  show V E X 474 _ (vI _ :: _) _
  have hM1 := RM_same hM hs2
  refine k_aload_n hX dL_law_474 rfl rfl ?_
  refine k_aload_n hX dL_law_475 rfl rfl ?_
  refine k_iload_n hX dL_law_476 rfl rfl ?_
  refine k_iconst hX dL_law_477 ?_
  refine k_iadd hX dL_law_478 ?_
  refine k_sld (j := (4 * k + 1)) hX hLX (by omega) (by omega) hL2 dL_law_479 ?_
  refine k_aload_n hX dL_law_480 rfl rfl ?_
  refine k_iload_n hX dL_law_481 rfl rfl ?_
  refine k_iconst hX dL_law_482 ?_
  refine k_iadd hX dL_law_483 ?_
  refine k_sld (j := (4 * k + 2)) hX hLX (by omega) (by omega) hL2 dL_law_484 ?_
  refine k_callV (d2 := 5) (n := 2) (as := [_, _]) hX dL_law_485 lkL_68 (fitL hLX (by omega) gmX8_gauge) rfl rfl (by decide) rfl rfl rfl (Nat.le_of_ble_eq_true rfl) (c8_gauge E hM1 hW (bd_of _) (bd_of _)) (fun r_485 g_485 q_485 => ?_)
  obtain ⟨rfl, hMn, hs3⟩ := q_485
  show V E X 488 _ (vI _ :: vI _ :: _) _
  have hZn := WZ_gauge hZ hk1 (xs (4 * k + 1)).toInt (xs (4 * k + 2)).toInt
  have hRn := RC_same hR2 hZn.1 hs3
  refine k_same (tgt := 737) hX dL_law_488 (by decide) ?_
  refine k_iinc hX dL_law_737 rfl (by decide) rfl rfl ?_
  try simp only [List.set_cons_zero, List.set_cons_succ]
  refine k_goto (tgt := 18) hX dL_law_740 (by decide) ?_
  have e3 : ((4 * k : Nat) : Int) + 4 = ((4 * (k + 1) : Nat) : Int) := by omega
  rw [e3]
  exact ih (k + 1) _ _ ⟨by omega, by omega, hRn, hMn, hZn⟩

set_option maxRecDepth 100000 in
set_option maxHeartbeats 4000000 in
theorem law_wash {E : En} {X : Cx} {L : Nat} {xs : Nat → Int32} (hX : Xk E mL X) (hLX : LX E X L xs) (hL2 : L ≤ 2048) {A : St} {g : Mm} {m k : Nat} (ih : ∀ (k : Nat) (A : St) (g : Mm), (m + k = 513 ∧ 4 * k ≤ L ∧ RC A g ∧ RM A g ∧ WZ A (k : Int)) → V E X 18 [some (vR 903), some (vR 0), some (vR 46), some (vI ((4 * k : Nat) : Int))] [] g) (hm : m + 1 + k = 513) (hk : 4 * k + 4 ≤ L) (hR : RC A g) (hM : RM A g) (hZ : WZ A (k : Int)) : V E X 493 [some (vR 903), some (vR 0), some (vR 46), some (vI ((4 * k : Nat) : Int))] [] g := by
  have hW := hZ.1
  have hk1 : (k : Int) + 1 ≤ 512 := by omega
  refine k_aload_n hX dL_law_493 rfl rfl ?_
  refine k_callV (d2 := 5) (n := 0) (as := []) hX dL_law_494 lkL_69 (fitL hLX (by omega) gmX7_wash) rfl rfl (by decide) rfl rfl rfl (Nat.le_of_ble_eq_true rfl) (c7_wash E hR hW (WZ_wash hZ hk1).1) (fun r_494 g_494 q_494 => ?_)
  obtain ⟨rfl, hR2, hs2⟩ := q_494
  show V E X 497 _ (vI _ :: _) _
  have hM1 := RM_same hM hs2
  refine k_aload_n hX dL_law_497 rfl rfl ?_
  refine k_callV (d2 := 5) (n := 0) (as := []) hX dL_law_498 lkL_72 (fitL hLX (by omega) gmX8_wash) rfl rfl (by decide) rfl rfl rfl (Nat.le_of_ble_eq_true rfl) (c8_wash E hM1 hW (WZ_wash hZ hk1).1) (fun r_498 g_498 q_498 => ?_)
  obtain ⟨rfl, hMn, hs3⟩ := q_498
  show V E X 501 _ (vI _ :: vI _ :: _) _
  have hZn := WZ_wash hZ hk1
  have hRn := RC_same hR2 hZn.1 hs3
  refine k_same (tgt := 737) hX dL_law_501 (by decide) ?_
  refine k_iinc hX dL_law_737 rfl (by decide) rfl rfl ?_
  try simp only [List.set_cons_zero, List.set_cons_succ]
  refine k_goto (tgt := 18) hX dL_law_740 (by decide) ?_
  have e3 : ((4 * k : Nat) : Int) + 4 = ((4 * (k + 1) : Nat) : Int) := by omega
  rw [e3]
  exact ih (k + 1) _ _ ⟨by omega, by omega, hRn, hMn, hZn⟩

set_option maxRecDepth 100000 in
set_option maxHeartbeats 4000000 in
theorem law_least {E : En} {X : Cx} {L : Nat} {xs : Nat → Int32} (hX : Xk E mL X) (hLX : LX E X L xs) (hL2 : L ≤ 2048) {A : St} {g : Mm} {m k : Nat} (ih : ∀ (k : Nat) (A : St) (g : Mm), (m + k = 513 ∧ 4 * k ≤ L ∧ RC A g ∧ RM A g ∧ WZ A (k : Int)) → V E X 18 [some (vR 903), some (vR 0), some (vR 46), some (vI ((4 * k : Nat) : Int))] [] g) (hm : m + 1 + k = 513) (hk : 4 * k + 4 ≤ L) (hR : RC A g) (hM : RM A g) (hZ : WZ A (k : Int)) : V E X 506 [some (vR 903), some (vR 0), some (vR 46), some (vI ((4 * k : Nat) : Int))] [] g := by
  have hW := hZ.1
  have hk1 : (k : Int) + 1 ≤ 512 := by omega
  refine k_aload_n hX dL_law_506 rfl rfl ?_
  refine k_aload_n hX dL_law_507 rfl rfl ?_
  refine k_iload_n hX dL_law_508 rfl rfl ?_
  refine k_iconst hX dL_law_509 ?_
  refine k_iadd hX dL_law_510 ?_
  refine k_sld (j := (4 * k + 1)) hX hLX (by omega) (by omega) hL2 dL_law_511 ?_
  refine k_callV (d2 := 20) (n := 1) (as := [_]) hX dL_law_512 lkL_73 (fitL hLX (by omega) gmX7_least) rfl rfl (by decide) rfl rfl rfl (Nat.le_of_ble_eq_true rfl) (c7_least E hR hW (bd_of _)) (fun r_512 g_512 q_512 => ?_)
  obtain ⟨rfl, hR2, hs2⟩ := q_512
  show V E X 515 _ (vI _ :: _) _
  have hM1 := RM_same hM hs2
  refine k_aload_n hX dL_law_515 rfl rfl ?_
  refine k_aload_n hX dL_law_516 rfl rfl ?_
  refine k_iload_n hX dL_law_517 rfl rfl ?_
  refine k_iconst hX dL_law_518 ?_
  refine k_iadd hX dL_law_519 ?_
  refine k_sld (j := (4 * k + 1)) hX hLX (by omega) (by omega) hL2 dL_law_520 ?_
  refine k_callV (d2 := 20) (n := 1) (as := [_]) hX dL_law_521 lkL_76 (fitL hLX (by omega) gmX8_least) rfl rfl (by decide) rfl rfl rfl (Nat.le_of_ble_eq_true rfl) (c8_least E hM1 hW (bd_of _)) (fun r_521 g_521 q_521 => ?_)
  obtain ⟨rfl, hMn, hs3⟩ := q_521
  show V E X 524 _ (vI _ :: vI _ :: _) _
  have hZn := WZ_least hZ hk1 (xs (4 * k + 1)).toInt
  have hRn := RC_same hR2 hZn.1 hs3
  refine k_same (tgt := 737) hX dL_law_524 (by decide) ?_
  refine k_iinc hX dL_law_737 rfl (by decide) rfl rfl ?_
  try simp only [List.set_cons_zero, List.set_cons_succ]
  refine k_goto (tgt := 18) hX dL_law_740 (by decide) ?_
  have e3 : ((4 * k : Nat) : Int) + 4 = ((4 * (k + 1) : Nat) : Int) := by omega
  rw [e3]
  exact ih (k + 1) _ _ ⟨by omega, by omega, hRn, hMn, hZn⟩

set_option maxRecDepth 100000 in
set_option maxHeartbeats 4000000 in
theorem law_wanted {E : En} {X : Cx} {L : Nat} {xs : Nat → Int32} (hX : Xk E mL X) (hLX : LX E X L xs) (hL2 : L ≤ 2048) {A : St} {g : Mm} {m k : Nat} (ih : ∀ (k : Nat) (A : St) (g : Mm), (m + k = 513 ∧ 4 * k ≤ L ∧ RC A g ∧ RM A g ∧ WZ A (k : Int)) → V E X 18 [some (vR 903), some (vR 0), some (vR 46), some (vI ((4 * k : Nat) : Int))] [] g) (hm : m + 1 + k = 513) (hk : 4 * k + 4 ≤ L) (hR : RC A g) (hM : RM A g) (hZ : WZ A (k : Int)) : V E X 529 [some (vR 903), some (vR 0), some (vR 46), some (vI ((4 * k : Nat) : Int))] [] g := by
  have hW := hZ.1
  have hk1 : (k : Int) + 1 ≤ 512 := by omega
  refine k_aload_n hX dL_law_529 rfl rfl ?_
  refine k_aload_n hX dL_law_530 rfl rfl ?_
  refine k_iload_n hX dL_law_531 rfl rfl ?_
  refine k_iconst hX dL_law_532 ?_
  refine k_iadd hX dL_law_533 ?_
  refine k_sld (j := (4 * k + 1)) hX hLX (by omega) (by omega) hL2 dL_law_534 ?_
  refine k_aload_n hX dL_law_535 rfl rfl ?_
  refine k_iload_n hX dL_law_536 rfl rfl ?_
  refine k_iconst hX dL_law_537 ?_
  refine k_iadd hX dL_law_538 ?_
  refine k_sld (j := (4 * k + 2)) hX hLX (by omega) (by omega) hL2 dL_law_539 ?_
  refine k_callV (d2 := 5) (n := 2) (as := [_, _]) hX dL_law_540 lkL_77 (fitL hLX (by omega) gmX7_wanted) rfl rfl (by decide) rfl rfl rfl (Nat.le_of_ble_eq_true rfl) (c7_wanted E hR hW (bd_of _) (bd_of _)) (fun r_540 g_540 q_540 => ?_)
  obtain ⟨rfl, hR2, hs2⟩ := q_540
  show V E X 543 _ (vI _ :: _) _
  have hM1 := RM_same hM hs2
  refine k_aload_n hX dL_law_543 rfl rfl ?_
  refine k_aload_n hX dL_law_544 rfl rfl ?_
  refine k_iload_n hX dL_law_545 rfl rfl ?_
  refine k_iconst hX dL_law_546 ?_
  refine k_iadd hX dL_law_547 ?_
  refine k_sld (j := (4 * k + 1)) hX hLX (by omega) (by omega) hL2 dL_law_548 ?_
  refine k_aload_n hX dL_law_549 rfl rfl ?_
  refine k_iload_n hX dL_law_550 rfl rfl ?_
  refine k_iconst hX dL_law_551 ?_
  refine k_iadd hX dL_law_552 ?_
  refine k_sld (j := (4 * k + 2)) hX hLX (by omega) (by omega) hL2 dL_law_553 ?_
  refine k_callV (d2 := 5) (n := 2) (as := [_, _]) hX dL_law_554 lkL_80 (fitL hLX (by omega) gmX8_wanted) rfl rfl (by decide) rfl rfl rfl (Nat.le_of_ble_eq_true rfl) (c8_wanted E hM1 hW (bd_of _) (bd_of _)) (fun r_554 g_554 q_554 => ?_)
  obtain ⟨rfl, hMn, hs3⟩ := q_554
  show V E X 557 _ (vI _ :: vI _ :: _) _
  have hZn := WZ_same hZ hk1
  have hRn := RC_same hR2 hZn.1 hs3
  refine k_same (tgt := 737) hX dL_law_557 (by decide) ?_
  refine k_iinc hX dL_law_737 rfl (by decide) rfl rfl ?_
  try simp only [List.set_cons_zero, List.set_cons_succ]
  refine k_goto (tgt := 18) hX dL_law_740 (by decide) ?_
  have e3 : ((4 * k : Nat) : Int) + 4 = ((4 * (k + 1) : Nat) : Int) := by omega
  rw [e3]
  exact ih (k + 1) _ _ ⟨by omega, by omega, hRn, hMn, hZn⟩

set_option maxRecDepth 100000 in
set_option maxHeartbeats 4000000 in
theorem law_found {E : En} {X : Cx} {L : Nat} {xs : Nat → Int32} (hX : Xk E mL X) (hLX : LX E X L xs) (hL2 : L ≤ 2048) {A : St} {g : Mm} {m k : Nat} (ih : ∀ (k : Nat) (A : St) (g : Mm), (m + k = 513 ∧ 4 * k ≤ L ∧ RC A g ∧ RM A g ∧ WZ A (k : Int)) → V E X 18 [some (vR 903), some (vR 0), some (vR 46), some (vI ((4 * k : Nat) : Int))] [] g) (hm : m + 1 + k = 513) (hk : 4 * k + 4 ≤ L) (hR : RC A g) (hM : RM A g) (hZ : WZ A (k : Int)) : V E X 562 [some (vR 903), some (vR 0), some (vR 46), some (vI ((4 * k : Nat) : Int))] [] g := by
  have hW := hZ.1
  have hk1 : (k : Int) + 1 ≤ 512 := by omega
  refine k_aload_n hX dL_law_562 rfl rfl ?_
  refine k_aload_n hX dL_law_563 rfl rfl ?_
  refine k_iload_n hX dL_law_564 rfl rfl ?_
  refine k_iconst hX dL_law_565 ?_
  refine k_iadd hX dL_law_566 ?_
  refine k_sld (j := (4 * k + 1)) hX hLX (by omega) (by omega) hL2 dL_law_567 ?_
  refine k_aload_n hX dL_law_568 rfl rfl ?_
  refine k_iload_n hX dL_law_569 rfl rfl ?_
  refine k_iconst hX dL_law_570 ?_
  refine k_iadd hX dL_law_571 ?_
  refine k_sld (j := (4 * k + 2)) hX hLX (by omega) (by omega) hL2 dL_law_572 ?_
  refine k_callV (d2 := 5) (n := 2) (as := [_, _]) hX dL_law_573 lkL_81 (fitL hLX (by omega) gmX7_found) rfl rfl (by decide) rfl rfl rfl (Nat.le_of_ble_eq_true rfl) (c7_found E hR hW (bd_of _) (bd_of _)) (fun r_573 g_573 q_573 => ?_)
  obtain ⟨rfl, hR2, hs2⟩ := q_573
  show V E X 576 _ (vI _ :: _) _
  have hM1 := RM_same hM hs2
  refine k_aload_n hX dL_law_576 rfl rfl ?_
  refine k_aload_n hX dL_law_577 rfl rfl ?_
  refine k_iload_n hX dL_law_578 rfl rfl ?_
  refine k_iconst hX dL_law_579 ?_
  refine k_iadd hX dL_law_580 ?_
  refine k_sld (j := (4 * k + 1)) hX hLX (by omega) (by omega) hL2 dL_law_581 ?_
  refine k_aload_n hX dL_law_582 rfl rfl ?_
  refine k_iload_n hX dL_law_583 rfl rfl ?_
  refine k_iconst hX dL_law_584 ?_
  refine k_iadd hX dL_law_585 ?_
  refine k_sld (j := (4 * k + 2)) hX hLX (by omega) (by omega) hL2 dL_law_586 ?_
  refine k_callV (d2 := 5) (n := 2) (as := [_, _]) hX dL_law_587 lkL_84 (fitL hLX (by omega) gmX8_found) rfl rfl (by decide) rfl rfl rfl (Nat.le_of_ble_eq_true rfl) (c8_found E hM1 hW (bd_of _) (bd_of _)) (fun r_587 g_587 q_587 => ?_)
  obtain ⟨rfl, hMn, hs3⟩ := q_587
  show V E X 590 _ (vI _ :: vI _ :: _) _
  have hZn := WZ_found hZ hk1 (xs (4 * k + 1)).toInt (xs (4 * k + 2)).toInt
  have hRn := RC_same hR2 hZn.1 hs3
  refine k_same (tgt := 737) hX dL_law_590 (by decide) ?_
  refine k_iinc hX dL_law_737 rfl (by decide) rfl rfl ?_
  try simp only [List.set_cons_zero, List.set_cons_succ]
  refine k_goto (tgt := 18) hX dL_law_740 (by decide) ?_
  have e3 : ((4 * k : Nat) : Int) + 4 = ((4 * (k + 1) : Nat) : Int) := by omega
  rw [e3]
  exact ih (k + 1) _ _ ⟨by omega, by omega, hRn, hMn, hZn⟩

set_option maxRecDepth 100000 in
set_option maxHeartbeats 4000000 in
theorem law_fits {E : En} {X : Cx} {L : Nat} {xs : Nat → Int32} (hX : Xk E mL X) (hLX : LX E X L xs) (hL2 : L ≤ 2048) {A : St} {g : Mm} {m k : Nat} (ih : ∀ (k : Nat) (A : St) (g : Mm), (m + k = 513 ∧ 4 * k ≤ L ∧ RC A g ∧ RM A g ∧ WZ A (k : Int)) → V E X 18 [some (vR 903), some (vR 0), some (vR 46), some (vI ((4 * k : Nat) : Int))] [] g) (hm : m + 1 + k = 513) (hk : 4 * k + 4 ≤ L) (hR : RC A g) (hM : RM A g) (hZ : WZ A (k : Int)) : V E X 595 [some (vR 903), some (vR 0), some (vR 46), some (vI ((4 * k : Nat) : Int))] [] g := by
  have hW := hZ.1
  have hk1 : (k : Int) + 1 ≤ 512 := by omega
  refine k_aload_n hX dL_law_595 rfl rfl ?_
  refine k_callV (d2 := 6) (n := 0) (as := []) hX dL_law_596 lkL_85 (fitL hLX (by omega) gmX7_fits) rfl rfl (by decide) rfl rfl rfl (Nat.le_of_ble_eq_true rfl) (c7_fits E hR hW) (fun r_596 g_596 q_596 => ?_)
  obtain ⟨rfl, hR2, hs2⟩ := q_596
  show V E X 599 _ (vI _ :: _) _
  have hM1 := RM_same hM hs2
  refine k_aload_n hX dL_law_599 rfl rfl ?_
  refine k_callV (d2 := 6) (n := 0) (as := []) hX dL_law_600 lkL_88 (fitL hLX (by omega) gmX8_fits) rfl rfl (by decide) rfl rfl rfl (Nat.le_of_ble_eq_true rfl) (c8_fits E hM1 hW) (fun r_600 g_600 q_600 => ?_)
  obtain ⟨rfl, hMn, hs3⟩ := q_600
  show V E X 603 _ (vI _ :: vI _ :: _) _
  have hZn := WZ_same hZ hk1
  have hRn := RC_same hR2 hZn.1 hs3
  refine k_same (tgt := 737) hX dL_law_603 (by decide) ?_
  refine k_iinc hX dL_law_737 rfl (by decide) rfl rfl ?_
  try simp only [List.set_cons_zero, List.set_cons_succ]
  refine k_goto (tgt := 18) hX dL_law_740 (by decide) ?_
  have e3 : ((4 * k : Nat) : Int) + 4 = ((4 * (k + 1) : Nat) : Int) := by omega
  rw [e3]
  exact ih (k + 1) _ _ ⟨by omega, by omega, hRn, hMn, hZn⟩

set_option maxRecDepth 100000 in
set_option maxHeartbeats 4000000 in
theorem law_sure {E : En} {X : Cx} {L : Nat} {xs : Nat → Int32} (hX : Xk E mL X) (hLX : LX E X L xs) (hL2 : L ≤ 2048) {A : St} {g : Mm} {m k : Nat} (ih : ∀ (k : Nat) (A : St) (g : Mm), (m + k = 513 ∧ 4 * k ≤ L ∧ RC A g ∧ RM A g ∧ WZ A (k : Int)) → V E X 18 [some (vR 903), some (vR 0), some (vR 46), some (vI ((4 * k : Nat) : Int))] [] g) (hm : m + 1 + k = 513) (hk : 4 * k + 4 ≤ L) (hR : RC A g) (hM : RM A g) (hZ : WZ A (k : Int)) : V E X 608 [some (vR 903), some (vR 0), some (vR 46), some (vI ((4 * k : Nat) : Int))] [] g := by
  have hW := hZ.1
  have hk1 : (k : Int) + 1 ≤ 512 := by omega
  refine k_aload_n hX dL_law_608 rfl rfl ?_
  refine k_aload_n hX dL_law_609 rfl rfl ?_
  refine k_iload_n hX dL_law_610 rfl rfl ?_
  refine k_iconst hX dL_law_611 ?_
  refine k_iadd hX dL_law_612 ?_
  refine k_sld (j := (4 * k + 1)) hX hLX (by omega) (by omega) hL2 dL_law_613 ?_
  refine k_callV (d2 := 6) (n := 1) (as := [_]) hX dL_law_614 lkL_89 (fitL hLX (by omega) gmX7_sure) rfl rfl (by decide) rfl rfl rfl (Nat.le_of_ble_eq_true rfl) (c7_sure E hR hW (bd_of _)) (fun r_614 g_614 q_614 => ?_)
  obtain ⟨rfl, hR2, hs2⟩ := q_614
  show V E X 617 _ (vI _ :: _) _
  have hM1 := RM_same hM hs2
  refine k_aload_n hX dL_law_617 rfl rfl ?_
  refine k_aload_n hX dL_law_618 rfl rfl ?_
  refine k_iload_n hX dL_law_619 rfl rfl ?_
  refine k_iconst hX dL_law_620 ?_
  refine k_iadd hX dL_law_621 ?_
  refine k_sld (j := (4 * k + 1)) hX hLX (by omega) (by omega) hL2 dL_law_622 ?_
  refine k_callV (d2 := 6) (n := 1) (as := [_]) hX dL_law_623 lkL_92 (fitL hLX (by omega) gmX8_sure) rfl rfl (by decide) rfl rfl rfl (Nat.le_of_ble_eq_true rfl) (c8_sure E hM1 hW (bd_of _)) (fun r_623 g_623 q_623 => ?_)
  obtain ⟨rfl, hMn, hs3⟩ := q_623
  show V E X 626 _ (vI _ :: vI _ :: _) _
  have hZn := WZ_same hZ hk1
  have hRn := RC_same hR2 hZn.1 hs3
  refine k_same (tgt := 737) hX dL_law_626 (by decide) ?_
  refine k_iinc hX dL_law_737 rfl (by decide) rfl rfl ?_
  try simp only [List.set_cons_zero, List.set_cons_succ]
  refine k_goto (tgt := 18) hX dL_law_740 (by decide) ?_
  have e3 : ((4 * k : Nat) : Int) + 4 = ((4 * (k + 1) : Nat) : Int) := by omega
  rw [e3]
  exact ih (k + 1) _ _ ⟨by omega, by omega, hRn, hMn, hZn⟩

set_option maxRecDepth 100000 in
set_option maxHeartbeats 4000000 in
theorem law_years {E : En} {X : Cx} {L : Nat} {xs : Nat → Int32} (hX : Xk E mL X) (hLX : LX E X L xs) (hL2 : L ≤ 2048) {A : St} {g : Mm} {m k : Nat} (ih : ∀ (k : Nat) (A : St) (g : Mm), (m + k = 513 ∧ 4 * k ≤ L ∧ RC A g ∧ RM A g ∧ WZ A (k : Int)) → V E X 18 [some (vR 903), some (vR 0), some (vR 46), some (vI ((4 * k : Nat) : Int))] [] g) (hm : m + 1 + k = 513) (hk : 4 * k + 4 ≤ L) (hR : RC A g) (hM : RM A g) (hZ : WZ A (k : Int)) : V E X 631 [some (vR 903), some (vR 0), some (vR 46), some (vI ((4 * k : Nat) : Int))] [] g := by
  have hW := hZ.1
  have hk1 : (k : Int) + 1 ≤ 512 := by omega
  refine k_aload_n hX dL_law_631 rfl rfl ?_
  refine k_aload_n hX dL_law_632 rfl rfl ?_
  refine k_iload_n hX dL_law_633 rfl rfl ?_
  refine k_iconst hX dL_law_634 ?_
  refine k_iadd hX dL_law_635 ?_
  refine k_sld (j := (4 * k + 1)) hX hLX (by omega) (by omega) hL2 dL_law_636 ?_
  refine k_aload_n hX dL_law_637 rfl rfl ?_
  refine k_iload_n hX dL_law_638 rfl rfl ?_
  refine k_iconst hX dL_law_639 ?_
  refine k_iadd hX dL_law_640 ?_
  refine k_sld (j := (4 * k + 2)) hX hLX (by omega) (by omega) hL2 dL_law_641 ?_
  refine k_aload_n hX dL_law_642 rfl rfl ?_
  refine k_iload_n hX dL_law_643 rfl rfl ?_
  refine k_iconst hX dL_law_644 ?_
  refine k_iadd hX dL_law_645 ?_
  refine k_sld (j := (4 * k + 3)) hX hLX (by omega) (by omega) hL2 dL_law_646 ?_
  refine k_callV (d2 := 4) (n := 3) (as := [_, _, _]) hX dL_law_647 lkL_93 (fitL hLX (by omega) gmX7_years) rfl rfl (by decide) rfl rfl rfl (Nat.le_of_ble_eq_true rfl) (c7_years E hR hW (bd_of _) (bd_of _) (bd_of _)) (fun r_647 g_647 q_647 => ?_)
  obtain ⟨rfl, hR2, hs2⟩ := q_647
  show V E X 650 _ (vI _ :: _) _
  have hM1 := RM_same hM hs2
  refine k_aload_n hX dL_law_650 rfl rfl ?_
  refine k_aload_n hX dL_law_651 rfl rfl ?_
  refine k_iload_n hX dL_law_652 rfl rfl ?_
  refine k_iconst hX dL_law_653 ?_
  refine k_iadd hX dL_law_654 ?_
  refine k_sld (j := (4 * k + 1)) hX hLX (by omega) (by omega) hL2 dL_law_655 ?_
  refine k_aload_n hX dL_law_656 rfl rfl ?_
  refine k_iload_n hX dL_law_657 rfl rfl ?_
  refine k_iconst hX dL_law_658 ?_
  refine k_iadd hX dL_law_659 ?_
  refine k_sld (j := (4 * k + 2)) hX hLX (by omega) (by omega) hL2 dL_law_660 ?_
  refine k_aload_n hX dL_law_661 rfl rfl ?_
  refine k_iload_n hX dL_law_662 rfl rfl ?_
  refine k_iconst hX dL_law_663 ?_
  refine k_iadd hX dL_law_664 ?_
  refine k_sld (j := (4 * k + 3)) hX hLX (by omega) (by omega) hL2 dL_law_665 ?_
  refine k_callV (d2 := 8) (n := 3) (as := [_, _, _]) hX dL_law_666 lkL_96 (fitL hLX (by omega) gmX8_years) rfl rfl (by decide) rfl rfl rfl (Nat.le_of_ble_eq_true rfl) (c8_years E hM1 hW (bd_of _) (bd_of _) (bd_of _)) (fun r_666 g_666 q_666 => ?_)
  obtain ⟨rfl, hMn, hs3⟩ := q_666
  show V E X 669 _ (vI _ :: vI _ :: _) _
  have hZn := WZ_same hZ hk1
  have hRn := RC_same hR2 hZn.1 hs3
  refine k_same (tgt := 737) hX dL_law_669 (by decide) ?_
  refine k_iinc hX dL_law_737 rfl (by decide) rfl rfl ?_
  try simp only [List.set_cons_zero, List.set_cons_succ]
  refine k_goto (tgt := 18) hX dL_law_740 (by decide) ?_
  have e3 : ((4 * k : Nat) : Int) + 4 = ((4 * (k + 1) : Nat) : Int) := by omega
  rw [e3]
  exact ih (k + 1) _ _ ⟨by omega, by omega, hRn, hMn, hZn⟩

set_option maxRecDepth 100000 in
set_option maxHeartbeats 4000000 in
theorem law_image {E : En} {X : Cx} {L : Nat} {xs : Nat → Int32} (hX : Xk E mL X) (hLX : LX E X L xs) (hL2 : L ≤ 2048) {A : St} {g : Mm} {m k : Nat} (ih : ∀ (k : Nat) (A : St) (g : Mm), (m + k = 513 ∧ 4 * k ≤ L ∧ RC A g ∧ RM A g ∧ WZ A (k : Int)) → V E X 18 [some (vR 903), some (vR 0), some (vR 46), some (vI ((4 * k : Nat) : Int))] [] g) (hm : m + 1 + k = 513) (hk : 4 * k + 4 ≤ L) (hR : RC A g) (hM : RM A g) (hZ : WZ A (k : Int)) : V E X 674 [some (vR 903), some (vR 0), some (vR 46), some (vI ((4 * k : Nat) : Int))] [] g := by
  have hW := hZ.1
  have hk1 : (k : Int) + 1 ≤ 512 := by omega
  refine k_aload_n hX dL_law_674 rfl rfl ?_
  refine k_callV (d2 := 5) (n := 0) (as := []) hX dL_law_675 lkL_97 (fitL hLX (by omega) gmX7_image) rfl rfl (by decide) rfl rfl rfl (Nat.le_of_ble_eq_true rfl) (c7_image E hR hW (WZ_image hZ hk1).1) (fun r_675 g_675 q_675 => ?_)
  obtain ⟨rfl, hR2, hs2⟩ := q_675
  show V E X 678 _ (vI _ :: _) _
  have hM1 := RM_same hM hs2
  refine k_aload_n hX dL_law_678 rfl rfl ?_
  refine k_callV (d2 := 5) (n := 0) (as := []) hX dL_law_679 lkL_100 (fitL hLX (by omega) gmX8_image) rfl rfl (by decide) rfl rfl rfl (Nat.le_of_ble_eq_true rfl) (c8_image E hM1 hW (WZ_image hZ hk1).1) (fun r_679 g_679 q_679 => ?_)
  obtain ⟨rfl, hMn, hs3⟩ := q_679
  show V E X 682 _ (vI _ :: vI _ :: _) _
  have hZn := WZ_image hZ hk1
  have hRn := RC_same hR2 hZn.1 hs3
  refine k_same (tgt := 737) hX dL_law_682 (by decide) ?_
  refine k_iinc hX dL_law_737 rfl (by decide) rfl rfl ?_
  try simp only [List.set_cons_zero, List.set_cons_succ]
  refine k_goto (tgt := 18) hX dL_law_740 (by decide) ?_
  have e3 : ((4 * k : Nat) : Int) + 4 = ((4 * (k + 1) : Nat) : Int) := by omega
  rw [e3]
  exact ih (k + 1) _ _ ⟨by omega, by omega, hRn, hMn, hZn⟩

set_option maxRecDepth 100000 in
set_option maxHeartbeats 4000000 in
theorem law_restore {E : En} {X : Cx} {L : Nat} {xs : Nat → Int32} (hX : Xk E mL X) (hLX : LX E X L xs) (hL2 : L ≤ 2048) {A : St} {g : Mm} {m k : Nat} (ih : ∀ (k : Nat) (A : St) (g : Mm), (m + k = 513 ∧ 4 * k ≤ L ∧ RC A g ∧ RM A g ∧ WZ A (k : Int)) → V E X 18 [some (vR 903), some (vR 0), some (vR 46), some (vI ((4 * k : Nat) : Int))] [] g) (hm : m + 1 + k = 513) (hk : 4 * k + 4 ≤ L) (hR : RC A g) (hM : RM A g) (hZ : WZ A (k : Int)) : V E X 687 [some (vR 903), some (vR 0), some (vR 46), some (vI ((4 * k : Nat) : Int))] [] g := by
  have hW := hZ.1
  have hk1 : (k : Int) + 1 ≤ 512 := by omega
  refine k_aload_n hX dL_law_687 rfl rfl ?_
  refine k_callV (d2 := 5) (n := 0) (as := []) hX dL_law_688 lkL_101 (fitL hLX (by omega) gmX7_restore) rfl rfl (by decide) rfl rfl rfl (Nat.le_of_ble_eq_true rfl) (c7_restore E hR hW (WZ_restore hZ hk1).1) (fun r_688 g_688 q_688 => ?_)
  obtain ⟨rfl, hR2, hs2⟩ := q_688
  show V E X 691 _ (vI _ :: _) _
  have hM1 := RM_same hM hs2
  refine k_aload_n hX dL_law_691 rfl rfl ?_
  refine k_callV (d2 := 5) (n := 0) (as := []) hX dL_law_692 lkL_104 (fitL hLX (by omega) gmX8_restore) rfl rfl (by decide) rfl rfl rfl (Nat.le_of_ble_eq_true rfl) (c8_restore E hM1 hW (WZ_restore hZ hk1).1) (fun r_692 g_692 q_692 => ?_)
  obtain ⟨rfl, hMn, hs3⟩ := q_692
  show V E X 695 _ (vI _ :: vI _ :: _) _
  have hZn := WZ_restore hZ hk1
  have hRn := RC_same hR2 hZn.1 hs3
  refine k_same (tgt := 737) hX dL_law_695 (by decide) ?_
  refine k_iinc hX dL_law_737 rfl (by decide) rfl rfl ?_
  try simp only [List.set_cons_zero, List.set_cons_succ]
  refine k_goto (tgt := 18) hX dL_law_740 (by decide) ?_
  have e3 : ((4 * k : Nat) : Int) + 4 = ((4 * (k + 1) : Nat) : Int) := by omega
  rw [e3]
  exact ih (k + 1) _ _ ⟨by omega, by omega, hRn, hMn, hZn⟩

set_option maxRecDepth 100000 in
set_option maxHeartbeats 4000000 in
theorem law_count {E : En} {X : Cx} {L : Nat} {xs : Nat → Int32} (hX : Xk E mL X) (hLX : LX E X L xs) (hL2 : L ≤ 2048) {A : St} {g : Mm} {m k : Nat} (ih : ∀ (k : Nat) (A : St) (g : Mm), (m + k = 513 ∧ 4 * k ≤ L ∧ RC A g ∧ RM A g ∧ WZ A (k : Int)) → V E X 18 [some (vR 903), some (vR 0), some (vR 46), some (vI ((4 * k : Nat) : Int))] [] g) (hm : m + 1 + k = 513) (hk : 4 * k + 4 ≤ L) (hR : RC A g) (hM : RM A g) (hZ : WZ A (k : Int)) : V E X 700 [some (vR 903), some (vR 0), some (vR 46), some (vI ((4 * k : Nat) : Int))] [] g := by
  have hW := hZ.1
  have hk1 : (k : Int) + 1 ≤ 512 := by omega
  refine k_aload_n hX dL_law_700 rfl rfl ?_
  refine k_aload_n hX dL_law_701 rfl rfl ?_
  refine k_iload_n hX dL_law_702 rfl rfl ?_
  refine k_iconst hX dL_law_703 ?_
  refine k_iadd hX dL_law_704 ?_
  refine k_sld (j := (4 * k + 1)) hX hLX (by omega) (by omega) hL2 dL_law_705 ?_
  refine k_callV (d2 := 6) (n := 1) (as := [_]) hX dL_law_706 lkL_105 (fitL hLX (by omega) gmX7_count) rfl rfl (by decide) rfl rfl rfl (Nat.le_of_ble_eq_true rfl) (c7_count E hR hW (bd_of _)) (fun r_706 g_706 q_706 => ?_)
  obtain ⟨rfl, hR2, hs2⟩ := q_706
  show V E X 709 _ (vI _ :: _) _
  have hM1 := RM_same hM hs2
  refine k_aload_n hX dL_law_709 rfl rfl ?_
  refine k_aload_n hX dL_law_710 rfl rfl ?_
  refine k_iload_n hX dL_law_711 rfl rfl ?_
  refine k_iconst hX dL_law_712 ?_
  refine k_iadd hX dL_law_713 ?_
  refine k_sld (j := (4 * k + 1)) hX hLX (by omega) (by omega) hL2 dL_law_714 ?_
  refine k_callV (d2 := 6) (n := 1) (as := [_]) hX dL_law_715 lkL_108 (fitL hLX (by omega) gmX8_count) rfl rfl (by decide) rfl rfl rfl (Nat.le_of_ble_eq_true rfl) (c8_count E hM1 hW (bd_of _)) (fun r_715 g_715 q_715 => ?_)
  obtain ⟨rfl, hMn, hs3⟩ := q_715
  show V E X 718 _ (vI _ :: vI _ :: _) _
  have hZn := WZ_same hZ hk1
  have hRn := RC_same hR2 hZn.1 hs3
  refine k_same (tgt := 737) hX dL_law_718 (by decide) ?_
  refine k_iinc hX dL_law_737 rfl (by decide) rfl rfl ?_
  try simp only [List.set_cons_zero, List.set_cons_succ]
  refine k_goto (tgt := 18) hX dL_law_740 (by decide) ?_
  have e3 : ((4 * k : Nat) : Int) + 4 = ((4 * (k + 1) : Nat) : Int) := by omega
  rw [e3]
  exact ih (k + 1) _ _ ⟨by omega, by omega, hRn, hMn, hZn⟩

set_option maxRecDepth 100000 in
set_option maxHeartbeats 4000000 in
theorem law_digest {E : En} {X : Cx} {L : Nat} {xs : Nat → Int32} (hX : Xk E mL X) (hLX : LX E X L xs) (hL2 : L ≤ 2048) {A : St} {g : Mm} {m k : Nat} (ih : ∀ (k : Nat) (A : St) (g : Mm), (m + k = 513 ∧ 4 * k ≤ L ∧ RC A g ∧ RM A g ∧ WZ A (k : Int)) → V E X 18 [some (vR 903), some (vR 0), some (vR 46), some (vI ((4 * k : Nat) : Int))] [] g) (hm : m + 1 + k = 513) (hk : 4 * k + 4 ≤ L) (hR : RC A g) (hM : RM A g) (hZ : WZ A (k : Int)) : V E X 723 [some (vR 903), some (vR 0), some (vR 46), some (vI ((4 * k : Nat) : Int))] [] g := by
  have hW := hZ.1
  have hk1 : (k : Int) + 1 ≤ 512 := by omega
  refine k_aload_n hX dL_law_723 rfl rfl ?_
  refine k_callV (d2 := 7) (n := 0) (as := []) hX dL_law_724 lkL_109 (fitL hLX (by omega) gmX7_digest) rfl rfl (by decide) rfl rfl rfl (Nat.le_of_ble_eq_true rfl) (c7_digest E hR hW) (fun r_724 g_724 q_724 => ?_)
  obtain ⟨rfl, hR2, hs2⟩ := q_724
  show V E X 727 _ (vL _ :: _) _
  have hM1 := RM_same hM hs2
  refine k_aload_n hX dL_law_727 rfl rfl ?_
  refine k_callV (d2 := 7) (n := 0) (as := []) hX dL_law_728 lkL_113 (fitL hLX (by omega) gmX8_digest) rfl rfl (by decide) rfl rfl rfl (Nat.le_of_ble_eq_true rfl) (c8_digest E hM1 hW) (fun r_728 g_728 q_728 => ?_)
  obtain ⟨rfl, hMn, hs3⟩ := q_728
  show V E X 731 _ (vL _ :: vL _ :: _) _
  have hZn := WZ_same hZ hk1
  have hRn := RC_same hR2 hZn.1 hs3
  refine k_lcmp hX dL_law_731 ?_
  refine k_top (cmp_self _) ?_
  refine k_if_eq (tgt := 737) hX dL_law_732 (by decide) (by omega) (fun c_732 => ?_) (fun c_732 => ?_)
  · skip
    refine k_iinc hX dL_law_737 rfl (by decide) rfl rfl ?_
    try simp only [List.set_cons_zero, List.set_cons_succ]
    refine k_goto (tgt := 18) hX dL_law_740 (by decide) ?_
    have e3 : ((4 * k : Nat) : Int) + 4 = ((4 * (k + 1) : Nat) : Int) := by omega
    rw [e3]
    exact ih (k + 1) _ _ ⟨by omega, by omega, hRn, hMn, hZn⟩
  · skip
    exact absurd rfl c_732

set_option maxRecDepth 100000 in
set_option maxHeartbeats 4000000 in
theorem law_loop {E : En} {X : Cx} {L : Nat} {xs : Nat → Int32} (hX : Xk E mL X) (hLX : LX E X L xs) (hL2 : L ≤ 2048) : ∀ (m k : Nat) (A : St) (g : Mm), (m + k = 513 ∧ 4 * k ≤ L ∧ RC A g ∧ RM A g ∧ WZ A (k : Int)) → V E X 18 [some (vR 903), some (vR 0), some (vR 46), some (vI ((4 * k : Nat) : Int))] [] g := by
  intro m
  induction m with
  | zero =>
    intro k A g h
    obtain ⟨hm, hk, hR, hM, hZ⟩ := h
    exact absurd hk (by omega)
  | succ m ih =>
    intro k A g h
    obtain ⟨hm, hk, hR, hM, hZ⟩ := h
    refine k_iload_n hX dL_law_18 rfl rfl ?_
    refine k_aload_n hX dL_law_19 rfl rfl ?_
    refine k_slen hX hLX hL2 dL_law_20 ?_
    refine k_iconst hX dL_law_21 ?_
    refine k_isub hX dL_law_22 ?_
    refine k_icmp_gt (tgt := 743) hX dL_law_23 (by decide) (by omega) (by omega) (fun c_23 => ?_) (fun c_23 => ?_)
    · skip
      refine k_iconst hX dL_law_743 ?_
      exact k_end hX hLX dL_law_744
    · skip
      refine k_aload_n hX dL_law_26 rfl rfl ?_
      refine k_iload_n hX dL_law_27 rfl rfl ?_
      refine k_sld (j := 4 * k) hX hLX (by omega) (by omega) hL2 dL_law_28 ?_
      refine k_bipush hX dL_law_29 (by decide) ?_
      refine k_iand hX dL_law_31 ?_
      have hy := bd_of (zi (xs (4 * k)).toInt &&& zi 31)
      generalize (zi (xs (4 * k)).toInt &&& zi 31).toInt = y at hy ⊢
      rcases (show y = 0 ∨ y = 1 ∨ y = 2 ∨ y = 3 ∨ y = 4 ∨ y = 5 ∨ y = 6 ∨ y = 7 ∨ y = 8 ∨ y = 9 ∨ y = 10 ∨ y = 11 ∨ y = 12 ∨ y = 13 ∨ y = 14 ∨ y = 15 ∨ y = 16 ∨ y = 17 ∨ y = 18 ∨ y = 19 ∨ y = 20 ∨ y = 21 ∨ y = 22 ∨ y = 23 ∨ (¬ y = 0 ∧ ¬ y = 1 ∧ ¬ y = 2 ∧ ¬ y = 3 ∧ ¬ y = 4 ∧ ¬ y = 5 ∧ ¬ y = 6 ∧ ¬ y = 7 ∧ ¬ y = 8 ∧ ¬ y = 9 ∧ ¬ y = 10 ∧ ¬ y = 11 ∧ ¬ y = 12 ∧ ¬ y = 13 ∧ ¬ y = 14 ∧ ¬ y = 15 ∧ ¬ y = 16 ∧ ¬ y = 17 ∧ ¬ y = 18 ∧ ¬ y = 19 ∧ ¬ y = 20 ∧ ¬ y = 21 ∧ ¬ y = 22 ∧ ¬ y = 23) by omega) with s_32 | s_32 | s_32 | s_32 | s_32 | s_32 | s_32 | s_32 | s_32 | s_32 | s_32 | s_32 | s_32 | s_32 | s_32 | s_32 | s_32 | s_32 | s_32 | s_32 | s_32 | s_32 | s_32 | s_32 | s_32
      · refine k_tableIn (tgt := 144) (off := 112) hX dL_law_32 (by omega) (by omega) (by omega) (by rw [s_32]; rfl) (by decide) ?_
        skip
        exact law_letter hX hLX hL2 ih (by omega) (by omega) hR hM hZ
      · refine k_tableIn (tgt := 167) (off := 135) hX dL_law_32 (by omega) (by omega) (by omega) (by rw [s_32]; rfl) (by decide) ?_
        skip
        exact law_blank hX hLX hL2 ih (by omega) (by omega) hR hM hZ
      · refine k_tableIn (tgt := 180) (off := 148) hX dL_law_32 (by omega) (by omega) (by omega) (by rw [s_32]; rfl) (by decide) ?_
        skip
        exact law_fault hX hLX hL2 ih (by omega) (by omega) hR hM hZ
      · refine k_tableIn (tgt := 193) (off := 161) hX dL_law_32 (by omega) (by omega) (by omega) (by rw [s_32]; rfl) (by decide) ?_
        skip
        exact law_garment hX hLX hL2 ih (by omega) (by omega) hR hM hZ
      · refine k_tableIn (tgt := 206) (off := 174) hX dL_law_32 (by omega) (by omega) (by omega) (by rw [s_32]; rfl) (by decide) ?_
        skip
        exact law_about hX hLX hL2 ih (by omega) (by omega) hR hM hZ
      · refine k_tableIn (tgt := 239) (off := 207) hX dL_law_32 (by omega) (by omega) (by omega) (by rw [s_32]; rfl) (by decide) ?_
        skip
        exact law_as hX hLX hL2 ih (by omega) (by omega) hR hM hZ
      · refine k_tableIn (tgt := 272) (off := 240) hX dL_law_32 (by omega) (by omega) (by omega) (by rw [s_32]; rfl) (by decide) ?_
        skip
        exact law_lot hX hLX hL2 ih (by omega) (by omega) hR hM hZ
      · refine k_tableIn (tgt := 295) (off := 263) hX dL_law_32 (by omega) (by omega) (by omega) (by rw [s_32]; rfl) (by decide) ?_
        skip
        exact law_lotOf hX hLX hL2 ih (by omega) (by omega) hR hM hZ
      · refine k_tableIn (tgt := 328) (off := 296) hX dL_law_32 (by omega) (by omega) (by omega) (by rw [s_32]; rfl) (by decide) ?_
        skip
        exact law_buy hX hLX hL2 ih (by omega) (by omega) hR hM hZ
      · refine k_tableIn (tgt := 361) (off := 329) hX dL_law_32 (by omega) (by omega) (by omega) (by rw [s_32]; rfl) (by decide) ?_
        skip
        exact law_back hX hLX hL2 ih (by omega) (by omega) hR hM hZ
      · refine k_tableIn (tgt := 394) (off := 362) hX dL_law_32 (by omega) (by omega) (by omega) (by rw [s_32]; rfl) (by decide) ?_
        skip
        exact law_knit hX hLX hL2 ih (by omega) (by omega) hR hM hZ
      · refine k_tableIn (tgt := 437) (off := 405) hX dL_law_32 (by omega) (by omega) (by omega) (by rw [s_32]; rfl) (by decide) ?_
        skip
        exact law_undo hX hLX hL2 ih (by omega) (by omega) hR hM hZ
      · refine k_tableIn (tgt := 460) (off := 428) hX dL_law_32 (by omega) (by omega) (by omega) (by rw [s_32]; rfl) (by decide) ?_
        skip
        exact law_gauge hX hLX hL2 ih (by omega) (by omega) hR hM hZ
      · refine k_tableIn (tgt := 493) (off := 461) hX dL_law_32 (by omega) (by omega) (by omega) (by rw [s_32]; rfl) (by decide) ?_
        skip
        exact law_wash hX hLX hL2 ih (by omega) (by omega) hR hM hZ
      · refine k_tableIn (tgt := 506) (off := 474) hX dL_law_32 (by omega) (by omega) (by omega) (by rw [s_32]; rfl) (by decide) ?_
        skip
        exact law_least hX hLX hL2 ih (by omega) (by omega) hR hM hZ
      · refine k_tableIn (tgt := 529) (off := 497) hX dL_law_32 (by omega) (by omega) (by omega) (by rw [s_32]; rfl) (by decide) ?_
        skip
        exact law_wanted hX hLX hL2 ih (by omega) (by omega) hR hM hZ
      · refine k_tableIn (tgt := 562) (off := 530) hX dL_law_32 (by omega) (by omega) (by omega) (by rw [s_32]; rfl) (by decide) ?_
        skip
        exact law_found hX hLX hL2 ih (by omega) (by omega) hR hM hZ
      · refine k_tableIn (tgt := 595) (off := 563) hX dL_law_32 (by omega) (by omega) (by omega) (by rw [s_32]; rfl) (by decide) ?_
        skip
        exact law_fits hX hLX hL2 ih (by omega) (by omega) hR hM hZ
      · refine k_tableIn (tgt := 608) (off := 576) hX dL_law_32 (by omega) (by omega) (by omega) (by rw [s_32]; rfl) (by decide) ?_
        skip
        exact law_sure hX hLX hL2 ih (by omega) (by omega) hR hM hZ
      · refine k_tableIn (tgt := 631) (off := 599) hX dL_law_32 (by omega) (by omega) (by omega) (by rw [s_32]; rfl) (by decide) ?_
        skip
        exact law_years hX hLX hL2 ih (by omega) (by omega) hR hM hZ
      · refine k_tableIn (tgt := 674) (off := 642) hX dL_law_32 (by omega) (by omega) (by omega) (by rw [s_32]; rfl) (by decide) ?_
        skip
        exact law_image hX hLX hL2 ih (by omega) (by omega) hR hM hZ
      · refine k_tableIn (tgt := 687) (off := 655) hX dL_law_32 (by omega) (by omega) (by omega) (by rw [s_32]; rfl) (by decide) ?_
        skip
        exact law_restore hX hLX hL2 ih (by omega) (by omega) hR hM hZ
      · refine k_tableIn (tgt := 700) (off := 668) hX dL_law_32 (by omega) (by omega) (by omega) (by rw [s_32]; rfl) (by decide) ?_
        skip
        exact law_count hX hLX hL2 ih (by omega) (by omega) hR hM hZ
      · refine k_tableIn (tgt := 723) (off := 691) hX dL_law_32 (by omega) (by omega) (by omega) (by rw [s_32]; rfl) (by decide) ?_
        skip
        exact law_digest hX hLX hL2 ih (by omega) (by omega) hR hM hZ
      · refine k_tableOut (tgt := 737) hX dL_law_32 (by omega) (by omega) (by decide) ?_
        have hW := hZ.1
        have hk1 : (k : Int) + 1 ≤ 512 := by omega
        have hRn := hR
        have hMn := hM
        have hZn := WZ_same hZ hk1
        refine k_iinc hX dL_law_737 rfl (by decide) rfl rfl ?_
        try simp only [List.set_cons_zero, List.set_cons_succ]
        refine k_goto (tgt := 18) hX dL_law_740 (by decide) ?_
        have e3 : ((4 * k : Nat) : Int) + 4 = ((4 * (k + 1) : Nat) : Int) := by omega
        rw [e3]
        exact ih (k + 1) _ _ ⟨by omega, by omega, hRn, hMn, hZn⟩
