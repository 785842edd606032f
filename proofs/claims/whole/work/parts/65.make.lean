/-! ===== making the cells: a constructor's walk over a list of cells that grows ===== -/
abbrev Cw : Type := Program × Env × Room × State × MethodId × Array Value × List Frame × Method × Code × (State → Prop) × (Nat → Prop)
abbrev T5 (y : Nat → ClassId) : List (ClassId × FieldType) := [(y 10, .int), (y 11, .byte), (y 12, .object RX2), (y 13, .object RX4), (y 14, .array .int)]
theorem AOA_spec {t : FieldType} {s : State} (h : va_AOA t s) : ∃ comp c k, s.vm.findClass (FieldType.array t).toString = some comp ∧ (s.vm.classes.findIdx? fun (x : Class) => match x.kind with | .array component _ => component == comp | _ => false) = some c ∧ s.vm.classes[c]? = some k ∧ k.kind = .array comp (.array t) ∧ s.vm.findClass ("[" ++ (FieldType.array t).toString) = some c := by
  unfold va_AOA at h
  simp only [Cond.before, Cond.holds, Cond.value, beq_iff_eq] at h
  cases hc : s.vm.findClass (FieldType.array t).toString with
  | none => simp [hc] at h
  | some comp =>
    simp only [hc, Option.bind_some, Option.bind_eq_some_iff, Option.map_eq_some_iff] at h
    obtain ⟨c, hi, k, hk, hb⟩ := h
    obtain ⟨hlt, hp, -⟩ := Array.findIdx?_eq_some_iff_getElem.mp hi
    have hkk : s.vm.classes[c] = k := (Array.getElem?_eq_some_iff.mp hk).2
    rw [hkk] at hp
    cases hkind : k.kind with
    | array component ty =>
      rw [hkind] at hb hp
      simp at hb hp
      exact ⟨comp, c, k, rfl, hi, hk, by rw [hkind, hp, hb.1], hb.2⟩
    | _ => rw [hkind] at hb; simp at hb
theorem va_AOA.moved {t : FieldType} {u U : State} (hvm : u.vm.Alike U.vm) (h : va_AOA t u) : va_AOA t U := by
  obtain ⟨comp, c, k, h1, h2, h3, h4, h5⟩ := AOA_spec h
  obtain ⟨k', hk', he⟩ := hvm.2.2 _ _ h3
  have hi : (U.vm.classes.findIdx? fun (x : Class) => match x.kind with | .array component _ => component == comp | _ => false) = some c := by
    refine (va_idx_bare U.vm comp).symm.trans ?_
    first | rw [hvm.bare_eq] | rw [← hvm.bare_eq]
    exact (va_idx_bare u.vm comp).trans h2
  have hkind : k'.kind = .array comp (.array t) := by rw [he]; exact h4
  have f1 : U.vm.findClass (FieldType.array t).toString = some comp := by rw [hvm.findClass]; exact h1
  have f2 : U.vm.findClass ("[" ++ (FieldType.array t).toString) = some c := by rw [hvm.findClass]; exact h5
  unfold va_AOA Cond.before Cond.holds
  simp only [Cond.value]
  rw [f1, Option.bind_some]
  refine (congrArg (fun o : Option Nat => (o.bind (fun c => (U.vm.classes[c]?).map fun (k : Class) => match k.kind with | .array _ ty => decide (ty = FieldType.array t) && decide (U.vm.findClass ("[" ++ (FieldType.array t).toString) = some c) | _ => false) == some true)) hi).trans ?_
  simp [hk', hkind, f2]
/-- what a state gives of classes, array classes and nest words -/
def cW (D : va_G) (y : Nat → ClassId) (U : State) : Prop := va_K D vwCl (T5 y) U ∧ (∀ w ∈ nestW, va_Nw w U) ∧ va_AO RX4 U ∧ va_AO RX2 U ∧ va_AOA .int U
theorem nest_blind {w : Cond} (hw : w ∈ nestW) {s U : State} (hv : U.vm = s.vm) (h : va_Nw w s) : va_Nw w U := by
  have hg := (List.mem_filter.mp hw).2
  cases w <;> first | exact va_Nw.same rfl hv.symm h | (simp [isNest] at hg)
theorem cW.warm {D : va_G} {y : Nat → ClassId} {s U : State} (h : cW D y s) (hW : s.WarmedH U.vm) : cW D y U := ⟨va_K.moved hW.alike h.1, fun w hw => nest_warm hw hW (h.2.1 w hw), va_AO.moved hW.alike h.2.2.1, va_AO.moved hW.alike h.2.2.2.1, va_AOA.moved hW.alike h.2.2.2.2⟩
theorem cW.blind {D : va_G} {y : Nat → ClassId} {s U : State} (h : cW D y s) (hv : U.vm = s.vm) : cW D y U := by
  have al : s.vm.Alike U.vm := by rw [hv]; exact Vm.Alike.refl _
  exact ⟨va_K.moved al h.1, fun w hw => nest_blind hw hv (h.2.1 w hw), va_AO.moved al h.2.2.1, va_AO.moved al h.2.2.2.1, va_AOA.moved al h.2.2.2.2⟩
theorem RA_name {s : State} {cA : ClassId} {ty : FieldType} (h : va_RA s cA ty) : s.vm.findClass ("[" ++ ty.toString) = some cA := by
  cases ty with
  | object C => obtain ⟨_, _, _, _, _, h4⟩ := h; exact h4
  | _ => exact h
theorem one_cA {D : va_G} {y : Nat → ClassId} {s : State} {cA c0 : ClassId} {ty : FieldType} (i : Nat) (hK : va_K D vwCl (T5 y) s) (h : va_K D vwCl (T5 y ++ [(cA, ty)]) s) (hi : (T5 y)[i]? = some (c0, ty)) : cA = c0 := Option.some.inj ((RA_name (h.2 5 (cA, ty) rfl).2).symm.trans (RA_name (hK.2 i _ hi).2))
theorem arrV_same {c : ClassId} {N : Nat} {f g : Nat → Value} (h : ∀ j, j < N → f j = g j) : arrV c N f = arrV c N g := by
  have e : (fun j : Fin N => f j.val) = (fun j : Fin N => g j.val) := funext (fun j => h j.val j.isLt)
  unfold arrV
  rw [e]
theorem FLk.link {own C : String} {idx ci j N : Nat} {T : u_T} {ty : Nat → FieldType} (h : FLk own idx ci j) (hf : FXk ci C T N ty) : Cond.fieldLink own idx C (T j).2.1 (T j).2.2.1 ∈ TB ∧ j < N ∧ (T j).1 = C := by
  obtain ⟨C', T', N', ty', h1, h2, h3, h4, -⟩ := h
  have e := Option.some.inj (h1.1.symm.trans hf.1)
  obtain ⟨rfl, e2⟩ := Prod.mk.inj e
  obtain ⟨rfl, rfl⟩ := Prod.mk.inj e2
  exact ⟨h3, h2, h4⟩
def G (l : Launch) (D : va_G) (X : Cw) (pc : Nat) (ls : List (Nat × Value)) (st : List Value) (ws : va_W) (cells slots : Nat) : Prop := match X with
  | (p, e, R, s, m, args, below, meth, c, Q, A) => ∀ (H : Heap) (locs : List Loc) (rl : Array Slot), va_P D vwCl ws H → va_D A ws → va_S A s.heap H locs → lv_has rl c.maxLocals ls → W p l e R s m args below meth c H locs cells slots Q (F0 m pc rl st)
/-- what holds of a frame at depth d: the words, the room for mc cells of ms slots -/
def Gk (D : va_G) (y : Nat → ClassId) (M : Mt) (d : Nat) (X : Cw) (mc ms : Nat) : Prop := match X with
  | (p, _, R, s, m, args, _, _, c, _, A) => p.tables.exec = Jvm.exec ∧ c.code = M.2.1 ∧ c.maxLocals = M.2.2.1 ∧ s.vm.findClass M.1.cls = some m.cls ∧ (∀ w ∈ TB, w.before args s = true) ∧ (∀ q : Nat, s.heap.size ≤ q → A q) ∧ 1 ≤ d ∧ d ≤ R.frames ∧ 64 * d ≤ R.locals ∧ mc ≤ R.cells ∧ ms ≤ R.slots ∧ cW D y s
def Gi (X : Cw) : Prop := match X with
  | (_, _, _, _, _, _, _, meth, _, _, _) => meth.name = "<init>"
theorem zi_nn {N : Nat} (hN : N ≤ 1000) : ¬ zi (N : Int) < 0 := fun hneg => zi_in (z := (N : Int)) (n := N + 1) (by omega) (by omega) (by omega) (Or.inl hneg)
theorem zi_cl {N : Nat} (hN : N ≤ 1000) : (zi (N : Int)).toNatClampNeg = N := by rw [zi_clamp (by omega) (by omega), Int.toNat_natCast]
abbrev rfE (c : ClassId) (n : Nat) (f : Nat → Option Nat) : va_E := .inl (c, n, .inr (.inr (.inr (.inr f))))
abbrev ziE (c : ClassId) (n : Nat) : va_E := .inl (c, n, .inl (fun _ => 0))
section GR
variable {l : Launch} {D : va_G} {y : Nat → ClassId} {M : Mt} {X : Cw} {pc d : Nat} {ls : List (Nat × Value)} {st : List Value} {ws : va_W} {cells slots mc ms : Nat}
theorem g_al (hX : Gk D y M d X mc ms) {q : Fin 4} {n a : Nat} (i : Nat) (hd : decode M.2.1 pc = .ok (.aload_n q, 1)) (hq : (q : Nat) = n) (hi : ls[i]? = some (n, .ref a)) (k : G l D X (pc + 1) ls (.ref a :: st) ws cells slots) : G l D X pc ls st ws cells slots := by
  obtain ⟨p, e, R, s, m, args, below, meth, c, Q, A⟩ := X
  obtain ⟨hx, hb, hml, hown, hts, hA, hd1, hfr, hlo, hmc, hms, hW⟩ := id hX
  intro H locs rl hP hD hS hl
  exact lv_aload_n hx hb hd hq (lv_at hl i hi) (k H locs rl hP hD hS hl)
theorem g_il (hX : Gk D y M d X mc ms) {q : Fin 4} {n : Nat} {z : Int32} (i : Nat) (hd : decode M.2.1 pc = .ok (.iload_n q, 1)) (hq : (q : Nat) = n) (hi : ls[i]? = some (n, .int z)) (k : G l D X (pc + 1) ls (.int z :: st) ws cells slots) : G l D X pc ls st ws cells slots := by
  obtain ⟨p, e, R, s, m, args, below, meth, c, Q, A⟩ := X
  obtain ⟨hx, hb, hml, hown, hts, hA, hd1, hfr, hlo, hmc, hms, hW⟩ := id hX
  intro H locs rl hP hD hS hl
  exact lv_iload_n hx hb hd hq (lv_at hl i hi) (k H locs rl hP hD hS hl)
theorem g_ic (hX : Gk D y M d X mc ms) {n : Int} (hd : decode M.2.1 pc = .ok (.iconst n, 1)) (k : G l D X (pc + 1) ls (.int (zi n) :: st) ws cells slots) : G l D X pc ls st ws cells slots := by
  obtain ⟨p, e, R, s, m, args, below, meth, c, Q, A⟩ := X
  obtain ⟨hx, hb, hml, hown, hts, hA, hd1, hfr, hlo, hmc, hms, hW⟩ := id hX
  intro H locs rl hP hD hS hl
  exact lv_iconst hx hb hd rfl (k H locs rl hP hD hS hl)
theorem g_bp (hX : Gk D y M d X mc ms) {n : Int} (hd : decode M.2.1 pc = .ok (.bipush n, 2)) (hn : (Int8.ofInt n).toInt32 = zi n) (k : G l D X (pc + 2) ls (.int (zi n) :: st) ws cells slots) : G l D X pc ls st ws cells slots := by
  obtain ⟨p, e, R, s, m, args, below, meth, c, Q, A⟩ := X
  obtain ⟨hx, hb, hml, hown, hts, hA, hd1, hfr, hlo, hmc, hms, hW⟩ := id hX
  intro H locs rl hP hD hS hl
  exact lv_bipush hx hb hd hn (k H locs rl hP hD hS hl)
theorem g_dup (hX : Gk D y M d X mc ms) {a : Nat} (hd : decode M.2.1 pc = .ok (.dup, 1)) (k : G l D X (pc + 1) ls (.ref a :: .ref a :: st) ws cells slots) : G l D X pc ls (.ref a :: st) ws cells slots := by
  obtain ⟨p, e, R, s, m, args, below, meth, c, Q, A⟩ := X
  obtain ⟨hx, hb, hml, hown, hts, hA, hd1, hfr, hlo, hmc, hms, hW⟩ := id hX
  intro H locs rl hP hD hS hl
  exact lv_dup hx hb hd rfl (k H locs rl hP hD hS hl)
theorem g_is (hX : Gk D y M d X mc ms) {q : Fin 4} {n : Nat} {z : Int32} {ls' : List (Nat × Value)} (hd : decode M.2.1 pc = .ok (.istore_n q, 1)) (hq : (q : Nat) = n) (hn : n < M.2.2.1) (hs : (n, Value.int z) :: ls.filter (fun q => !(q.1 == n) && !(q.1 + 1 == n && q.2.category == 2)) = ls') (k : G l D X (pc + 1) ls' st ws cells slots) : G l D X pc ls (.int z :: st) ws cells slots := by
  obtain ⟨p, e, R, s, m, args, below, meth, c, Q, A⟩ := X
  obtain ⟨hx, hb, hml, hown, hts, hA, hd1, hfr, hlo, hmc, hms, hW⟩ := id hX
  intro H locs rl hP hD hS hl
  exact lv_istore_n hx hb hd hq hl (by rw [hml]; exact hn) hs (fun rl' h => k H locs rl' hP hD hS h)
theorem g_as (hX : Gk D y M d X mc ms) {q : Fin 4} {n a : Nat} {ls' : List (Nat × Value)} (hd : decode M.2.1 pc = .ok (.astore_n q, 1)) (hq : (q : Nat) = n) (hn : n < M.2.2.1) (hs : (n, Value.ref a) :: ls.filter (fun q => !(q.1 == n) && !(q.1 + 1 == n && q.2.category == 2)) = ls') (k : G l D X (pc + 1) ls' st ws cells slots) : G l D X pc ls (.ref a :: st) ws cells slots := by
  obtain ⟨p, e, R, s, m, args, below, meth, c, Q, A⟩ := X
  obtain ⟨hx, hb, hml, hown, hts, hA, hd1, hfr, hlo, hmc, hms, hW⟩ := id hX
  intro H locs rl hP hD hS hl
  exact lv_astore_n hx hb hd hq hl (by rw [hml]; exact hn) hs (fun rl' h => k H locs rl' hP hD hS h)
theorem g_iinc (hX : Gk D y M d X mc ms) {n i : Nat} {z : Int} {ls' : List (Nat × Value)} (hd : decode M.2.1 pc = .ok (.iinc n 1, 3)) (hi : ls[i]? = some (n, .int (zi z))) (hn : n < M.2.2.1) (hs : (n, Value.int (zi (z + 1))) :: ls.filter (fun q => !(q.1 == n) && !(q.1 + 1 == n && q.2.category == 2)) = ls') (k : G l D X (pc + 3) ls' st ws cells slots) : G l D X pc ls st ws cells slots := by
  obtain ⟨p, e, R, s, m, args, below, meth, c, Q, A⟩ := X
  obtain ⟨hx, hb, hml, hown, hts, hA, hd1, hfr, hlo, hmc, hms, hW⟩ := id hX
  intro H locs rl hP hD hS hl
  exact lv_iinc (x := zi z) (v := zi (z + 1)) hx hb hd hl hi (zi_add z 1) (by rw [hml]; exact hn) hs (fun rl' h => k H locs rl' hP hD hS h)
theorem g_goto (hX : Gk D y M d X mc ms) {off : Int} {tgt : Nat} (hd : decode M.2.1 pc = .ok (.goto off, 3)) (ht : (pc : Int) + off = (tgt : Int)) (k : G l D X tgt ls st ws cells slots) : G l D X pc ls st ws cells slots := by
  obtain ⟨p, e, R, s, m, args, below, meth, c, Q, A⟩ := X
  obtain ⟨hx, hb, hml, hown, hts, hA, hd1, hfr, hlo, hmc, hms, hW⟩ := id hX
  intro H locs rl hP hD hS hl
  exact lv_goto hx hb hd ht (k H locs rl hP hD hS hl)
/-- the loop's test: j below n -/
theorem g_geF (hX : Gk D y M d X mc ms) {off : Int} {tgt j n : Nat} (hd : decode M.2.1 pc = .ok (.if_icmp .ge off, 3)) (ht : (pc : Int) + off = (tgt : Int)) (hj : j < n) (hn : n ≤ 1000) (k : G l D X (pc + 3) ls st ws cells slots) : G l D X pc ls (.int (zi (n : Int)) :: .int (zi (j : Int)) :: st) ws cells slots := by
  obtain ⟨p, e, R, s, m, args, below, meth, c, Q, A⟩ := X
  obtain ⟨hx, hb, hml, hown, hts, hA, hd1, hfr, hlo, hmc, hms, hW⟩ := id hX
  intro H locs rl hP hD hS hl
  have hc := zi_le (a := (n : Int)) (b := (j : Int)) ⟨by omega, by omega⟩ ⟨by omega, by omega⟩
  exact lv_icmp_ge (tgt := tgt) hx hb hd ht (fun q => absurd (hc.mp q) (by omega)) (fun _ => k H locs rl hP hD hS hl)
theorem g_geT (hX : Gk D y M d X mc ms) {off : Int} {tgt n : Nat} (hd : decode M.2.1 pc = .ok (.if_icmp .ge off, 3)) (ht : (pc : Int) + off = (tgt : Int)) (k : G l D X tgt ls st ws cells slots) : G l D X pc ls (.int (zi (n : Int)) :: .int (zi (n : Int)) :: st) ws cells slots := by
  obtain ⟨p, e, R, s, m, args, below, meth, c, Q, A⟩ := X
  obtain ⟨hx, hb, hml, hown, hts, hA, hd1, hfr, hlo, hmc, hms, hW⟩ := id hX
  intro H locs rl hP hD hS hl
  exact lv_icmp_ge (tgt := tgt) hx hb hd ht (fun _ => k H locs rl hP hD hS hl) (fun q => absurd (Int32.le_refl _) q)
theorem g_obj (hX : Gk D y M d X mc ms) {a idx : Nat} (h1 : Cond.methodLink M.1.cls idx Lib.objectInit ∈ TB) (h2 : Cond.instanceMethod Lib.objectInit ∈ TB) (h3 : Cond.code Lib.objectInit ⟨#[0xb1]⟩ 1 none ∈ TB) (hs : (st.map fun v => v.category).sum ≤ 8) (hd : decode M.2.1 pc = .ok (.invokespecial idx, 3)) (k : G l D X (pc + 3) ls st ws cells slots) : G l D X pc ls (.ref a :: st) ws cells slots := by
  obtain ⟨p, e, R, s, m, args, below, meth, c, Q, A⟩ := X
  obtain ⟨hx, hb, hml, hown, hts, hA, hd1, hfr, hlo, hmc, hms, hW⟩ := id hX
  intro H locs rl hP hD hS hl
  refine W.objInit hx hb hown (hts _ h1) (hts _ h2) (hts _ h3) rfl hl.1 rfl hd (by omega) (by show 2 * 0 + _ + 12 ≤ _; omega) ?_
  exact k H locs rl hP hD hS hl
theorem g_new (hX : Gk D y M d X mc ms) {ci N idx : Nat} {C : String} {T : u_T} {ty : Nat → FieldType} (hf : FXk ci C T N ty) (hcl : Cond.classLink M.1.cls idx C ∈ TB) (hin : Cond.instantiable C N ∈ TB) (hini : Cond.initialized C ∈ TB) (fs : List Value) (hfs : ∀ j, j < N → defaultValue (ty j) = vp_V fs j) (hd : decode M.2.1 pc = .ok (.new idx, 3)) (hc : cells + 1 ≤ mc) (hs : slots + N ≤ ms) (k : ∀ q : Nat, G l D X (pc + 3) ls (.ref q :: st) (ws ++ [(q, .inr (ci, fs))]) (cells + 1) (slots + N)) : G l D X pc ls st ws cells slots := by
  obtain ⟨p, e, R, s, m, args, below, meth, c, Q, A⟩ := X
  obtain ⟨hx, hb, hml, hown, hts, hA, hd1, hfr, hlo, hmc, hms, hW⟩ := id hX
  intro H locs rl hP hD hS hl
  exact va_new hx hb hts hf.2.1 ty hf.2.2.1 hown (hts _ hcl) (hts _ hin) (hts _ hini) hW.1 hP hD hS hA hf.1 hfs (by omega) (by omega) hd (fun q H1 h1 h2 h3 => k q H1 locs rl h1 h2 h3 hl)
theorem g_newI (hX : Gk D y M d X mc ms) {N : Nat} (hN : N ≤ 1000) (harr : Cond.arrayClass .int ∈ TB) (hd : decode M.2.1 pc = .ok (.newarray .int, 2)) (hc : cells + 1 ≤ mc) (hs : slots + N ≤ ms) (k : ∀ q : Nat, G l D X (pc + 2) ls (.ref q :: st) (ws ++ [(q, ziE (y 10) N)]) (cells + 1) (slots + N)) : G l D X pc ls (.int (zi (N : Int)) :: st) ws cells slots := by
  obtain ⟨p, e, R, s, m, args, below, meth, c, Q, A⟩ := X
  obtain ⟨hx, hb, hml, hown, hts, hA, hd1, hfr, hlo, hmc, hms, hW⟩ := id hX
  intro H locs rl hP hD hS hl
  refine va_newa (atype := .int) (ty := .int) (a0 := (N, .inl (fun _ => 0))) hx hb (hts _ harr) rfl hW.1 hP hD hS hA (fun cA => rfl) (zi_nn hN) (zi_cl hN) (by show N * 4 ≤ _; omega) (by omega) (by omega) hd (fun q cA H1 h0 h1 h2 h3 => ?_)
  have e1 : cA = y 10 := one_cA 0 hW.1 h0 rfl
  subst e1
  exact k q H1 locs rl h1 h2 h3 hl
theorem g_newB (hX : Gk D y M d X mc ms) {N : Nat} (hN : N ≤ 1000) (harr : Cond.arrayClass .byte ∈ TB) (hd : decode M.2.1 pc = .ok (.newarray .byte, 2)) (hc : cells + 1 ≤ mc) (hs : slots + N ≤ ms) (k : ∀ q : Nat, G l D X (pc + 2) ls (.ref q :: st) (ws ++ [(q, ziE (y 11) N)]) (cells + 1) (slots + N)) : G l D X pc ls (.int (zi (N : Int)) :: st) ws cells slots := by
  obtain ⟨p, e, R, s, m, args, below, meth, c, Q, A⟩ := X
  obtain ⟨hx, hb, hml, hown, hts, hA, hd1, hfr, hlo, hmc, hms, hW⟩ := id hX
  intro H locs rl hP hD hS hl
  refine va_newa (atype := .byte) (ty := .byte) (a0 := (N, .inl (fun _ => 0))) hx hb (hts _ harr) rfl hW.1 hP hD hS hA (fun cA => rfl) (zi_nn hN) (zi_cl hN) (by show N * 1 ≤ _; omega) (by omega) (by omega) hd (fun q cA H1 h0 h1 h2 h3 => ?_)
  have e1 : cA = y 11 := one_cA 1 hW.1 h0 rfl
  subst e1
  exact k q H1 locs rl h1 h2 h3 hl
theorem g_anew (hX : Gk D y M d X mc ms) {N idx : Nat} {C : String} {c0 : ClassId} (i : Nat) (hi : (T5 y)[i]? = some (c0, .object C)) (hC : C = RX4 ∨ C = RX2) (hN : N ≤ 1000) (hcl : Cond.classLink M.1.cls idx C ∈ TB) (hd : decode M.2.1 pc = .ok (.anewarray idx, 3)) (hc : cells + 1 ≤ mc) (hs : slots + N ≤ ms) (k : ∀ q : Nat, G l D X (pc + 3) ls (.ref q :: st) (ws ++ [(q, rfE c0 N (fun _ => none))]) (cells + 1) (slots + N)) : G l D X pc ls (.int (zi (N : Int)) :: st) ws cells slots := by
  obtain ⟨p, e, R, s, m, args, below, meth, c, Q, A⟩ := X
  obtain ⟨hx, hb, hml, hown, hts, hA, hd1, hfr, hlo, hmc, hms, hW⟩ := id hX
  intro H locs rl hP hD hS hl
  have hov : va_AO C s := by
    rcases hC with rfl | rfl
    · exact hW.2.2.1
    · exact hW.2.2.2.1
  refine va_newq hx hb hown (hts _ hcl) hov hW.1 hP hD hS hA (zi_nn hN) (zi_cl hN) (by omega) (by omega) (by omega) hd (fun q cA H1 h0 h1 h2 h3 => ?_)
  have e1 : cA = c0 := one_cA i hW.1 h0 hi
  subst e1
  exact k q H1 locs rl h1 h2 h3 hl
theorem g_mna (hX : Gk D y M d X mc ms) {N K idx : Nat} (hN : N ≤ 1000) (hK : K ≤ 1000) (hcl : Cond.classLink M.1.cls idx "[[I" ∈ TB) (harr : Cond.arrayClass .int ∈ TB) (hd : decode M.2.1 pc = .ok (.multianewarray idx 2, 4)) (hc : cells + 1 + N ≤ mc) (hs : slots + N + N * K ≤ ms) (k : ∀ (q : Nat) (r : Nat → Nat), G l D X (pc + 4) ls (.ref q :: st) ((ws ++ [(q, rfE (y 14) N (fun i => if i < N then some (r i) else none))]) ++ (List.range N).map (fun i => (r i, ziE (y 10) K))) (cells + 1 + N) (slots + N + N * K)) : G l D X pc ls (.int (zi (K : Int)) :: .int (zi (N : Int)) :: st) ws cells slots := by
  obtain ⟨p, e, R, s, m, args, below, meth, c, Q, A⟩ := X
  obtain ⟨hx, hb, hml, hown, hts, hA, hd1, hfr, hlo, hmc, hms, hW⟩ := id hX
  intro H locs rl hP hD hS hl
  have hcy : s.vm.findClass (FieldType.array .int).toString = some (y 10) := RA_name (hW.1.2 0 _ rfl).2
  have hP' : va_P D vwCl (ws ++ va_pl [] (fun _ => ziE (y 10) K)) H := by rw [show va_pl [] (fun _ => ziE (y 10) K) = [] from rfl, List.append_nil]; exact hP
  have hD' : va_D A (ws ++ va_pl [] (fun _ => ziE (y 10) K)) := by rw [show va_pl [] (fun _ => ziE (y 10) K) = [] from rfl, List.append_nil]; exact hD
  refine va_mna (ty := .int) (cy := y 10) (z := (K, .inl (fun _ => 0))) hx hb hown (hts _ hcl) hW.2.2.2.2 (hts _ harr) hcy hW.1 hP' hD' hS hA (zi_nn hN) (zi_nn hK) (zi_cl hN) (zi_cl hK) (by omega) (by show K * 4 ≤ _; omega) (by omega) rfl rfl (by omega) (by omega) (fun c => ?_) hd (fun q r cA H1 i1 i2 h0 h1 h2 h3 => ?_)
  · exact arrV_new c K (.int 0)
  · have e1 : cA = y 14 := one_cA 4 hW.1 h0 rfl
    subst e1
    have e2 : va_pl ([] ++ (List.range N).map r) (vr_up (fun _ => ziE (y 10) K) ((List.range N).map r) (ziE (y 10) K)) = (List.range N).map (fun i => (r i, ziE (y 10) K)) := by
      rw [List.nil_append]
      unfold va_pl
      rw [List.map_map]
      apply List.map_congr_left
      intro i hi
      show (r i, vr_up _ _ _ (r i)) = _
      rw [vr_up_in (List.mem_map_of_mem hi)]
    have h1' := h1
    have h2' := h2
    rw [e2] at h1' h2'
    exact k q r H1 locs rl h1' h2' h3 hl
theorem g_put (hX : Gk D y M d X mc ms) (hi : Gi X) {ci idx N j q0 : Nat} {C : String} {T : u_T} {ty : Nat → FieldType} {a : Nat} {v : Value} {fs : List Value} (hf : FXk ci C T N ty) (he : ws[q0]? = some (a, .inr (ci, fs))) (hlk : FLk M.1.cls idx ci j) (hC : C = M.1.cls) (hfin : (T j).2.2.2 = true) (hv : narrow (ty j) v = v) (hft : fits (ty j) v = true) (hl0 : j < fs.length) (hd : decode M.2.1 pc = .ok (.putfield idx, 3)) (k : G l D X (pc + 3) ls st (ws.set q0 (a, .inr (ci, fs.set j v))) cells slots) : G l D X pc ls (v :: .ref a :: st) ws cells slots := by
  obtain ⟨p, e, R, s, m, args, below, meth, c, Q, A⟩ := X
  obtain ⟨hx, hb, hml, hown, hts, hA, hd1, hfr, hlo, hmc, hms, hW⟩ := id hX
  obtain ⟨hlk1, hj, hT⟩ := hlk.link hf
  intro H locs rl hP hD hS hl
  exact va_putF hx hb hts hf.2.1 ty hf.2.2.1 hf.2.2.2.1 hown hW.1 hP hD hS q0 he hf.1 j hj (hts _ hlk1) (fun _ h => by rw [hT] at h; exact h) hfin hi (hT.trans hC) (hf.2.2.1 j hj) hv hft hl0 hd (fun H1 locs1 h1 h2 h3 => k H1 locs1 rl h1 h2 h3 hl)
theorem g_get (hX : Gk D y M d X mc ms) {ci idx N j : Nat} (q0 : Nat) {C : String} {T : u_T} {ty : Nat → FieldType} {a : Nat} {v : Value} {fs : List Value} (hf : FXk ci C T N ty) (he : ws[q0]? = some (a, .inr (ci, fs))) (hlk : FLk M.1.cls idx ci j) (hv : fs[j]? = some v) (hd : decode M.2.1 pc = .ok (.getfield idx, 3)) (k : G l D X (pc + 3) ls (v :: st) ws cells slots) : G l D X pc ls (.ref a :: st) ws cells slots := by
  obtain ⟨p, e, R, s, m, args, below, meth, c, Q, A⟩ := X
  obtain ⟨hx, hb, hml, hown, hts, hA, hd1, hfr, hlo, hmc, hms, hW⟩ := id hX
  obtain ⟨hlk1, hj, hT⟩ := hlk.link hf
  intro H locs rl hP hD hS hl
  exact va_get hx hb hts hf.2.1 hown hW.1 hP q0 he hf.1 j hj (hts _ hlk1) (fun _ h => by rw [hT] at h; exact h) hv hd (k H locs rl hP hD hS hl)
theorem g_alen (hX : Gk D y M d X mc ms) (q0 t0 : Nat) {cA : ClassId} {ty : FieldType} {n a : Nat} {f : Nat → Option Nat} (ha : ws[q0]? = some (a, rfE cA n f)) (ht : (T5 y)[t0]? = some (cA, ty)) (hd : decode M.2.1 pc = .ok (.arraylength, 1)) (k : G l D X (pc + 1) ls (.int (zi (n : Int)) :: st) ws cells slots) : G l D X pc ls (.ref a :: st) ws cells slots := by
  obtain ⟨p, e, R, s, m, args, below, meth, c, Q, A⟩ := X
  obtain ⟨hx, hb, hml, hown, hts, hA, hd1, hfr, hlo, hmc, hms, hW⟩ := id hX
  intro H locs rl hP hD hS hl
  exact va_alen hx hb hW.1 hP q0 t0 ha ht (zi_nat n).symm hd (k H locs rl hP hD hS hl)
theorem g_ast (hX : Gk D y M d X mc ms) (q0 t0 qk ci : Nat) {cA : ClassId} {r : vw_C} {n v j a : Nat} {vs : List Value} {f : Nat → Option Nat} (ha : ws[q0]? = some (a, rfE cA n f)) (ht : (T5 y)[t0]? = some (cA, .object r.1)) (hv : ws[qk]? = some (v, .inr (ci, vs))) (hc : vwCl[ci]? = some r) (hj : j < n) (hn : n ≤ 1000) (hd : decode M.2.1 pc = .ok (.aastore, 1)) (k : G l D X (pc + 1) ls st (ws.set q0 (a, rfE cA n (va_up f j (some v)))) cells slots) : G l D X pc ls (.ref v :: .int (zi (j : Int)) :: .ref a :: st) ws cells slots := by
  obtain ⟨p, e, R, s, m, args, below, meth, c, Q, A⟩ := X
  obtain ⟨hx, hb, hml, hown, hts, hA, hd1, hfr, hlo, hmc, hms, hW⟩ := id hX
  intro H locs rl hP hD hS hl
  refine va_astq hx hb hW.1 hP hD hS q0 t0 qk ci ha ht hv hc (zi_in (by omega) (by omega) (by omega)) hd (fun H1 locs1 h1 h2 h3 => ?_)
  rw [zi_cl (by omega)] at h1 h2
  exact k H1 locs1 rl h1 h2 h3 hl
/-- an array of references told by another function of the same answers within its length -/
theorem g_refs (q0 : Nat) {cA : ClassId} {n a : Nat} {f f' : Nat → Option Nat} (ha : ws[q0]? = some (a, rfE cA n f)) (hf : ∀ i, i < n → f i = f' i) (k : G l D X pc ls st (ws.set q0 (a, rfE cA n f')) cells slots) : G l D X pc ls st ws cells slots := by
  obtain ⟨p, e, R, s, m, args, below, meth, c, Q, A⟩ := X
  intro H locs rl hP hD hS hl
  have h1 : va_at D vwCl (a, rfE cA n f') H := by
    have h2 := hP q0 _ ha
    show H[a]? = some (vp_cell _ _)
    rw [vp_cell_q]
    rw [← arrV_same (c := cA) (N := n) (f := fun j => va_rf (f j)) (g := fun j => va_rf (f' j)) (fun j hj => by show va_rf (f j) = va_rf (f' j); rw [hf j hj])]
    exact h2
  exact k H locs rl (hP.set hD ha h1 (fun _ _ => rfl)) (hD.set ha) hS hl
theorem g_cell {c1 s1 : Nat} (h1 : cells ≤ c1) (h2 : slots ≤ s1) (k : G l D X pc ls st ws c1 s1) : G l D X pc ls st ws cells slots := by
  obtain ⟨p, e, R, s, m, args, below, meth, c, Q, A⟩ := X
  intro H locs rl hP hD hS hl
  exact W.widen (k := c1) (n := s1) h1 h2 (k H locs rl hP hD hS hl)
end GR
