abbrev Cb (D : va_G) (out : (Nat → Nat) → va_W) (A : Nat → Prop) (u : Nat → Nat) (t : State) : Prop := va_P D vwCl (out u) t.heap ∧ va_D A (out u)
/-- a constructor's contract: of the one cell a (as it is new) come the cells out -/
def Ct (l : Launch) (D : va_G) (y : Nat → ClassId) (M : Mt) (d mc ms a sz : Nat) (inp : va_E) (out : (Nat → Nat) → va_W) : Prop := Met l M.1 (mcode M :: TB) ({ frames := d, cells := mc, slots := ms, locals := 64 * d }) (va_Pc [.ref a] (fun U => U.heap.size = sz ∧ va_P D vwCl [(a, inp)] U.heap ∧ va_D (fun _ => True) [(a, inp)] ∧ cW D y U)) (va_Qv (fun _ : Nat → Nat => True) (Cb D out (va_A [(a, inp)] sz)) (va_A [(a, inp)] sz)) mc ms (va_A [(a, inp)] sz)
def Ge (D : va_G) (X : Cw) (mc ms : Nat) (out : (Nat → Nat) → va_W) : Prop := match X with
  | (_, _, _, s, _, args, below, meth, _, Q, A) => Q = MQ below (va_Qv (fun _ : Nat → Nat => True) (Cb D out A) A) args s mc ms A ∧ meth.locks = false ∧ meth.sig.returnType = none
theorem g_ret {l : Launch} {D : va_G} {y : Nat → ClassId} {M : Mt} {X : Cw} {pc d : Nat} {ls : List (Nat × Value)} {ws : va_W} {mc ms : Nat} {out : (Nat → Nat) → va_W} (hX : Gk D y M d X mc ms) (hE : Ge D X mc ms out) (u : Nat → Nat) (hw : ws = out u) (hd : decode M.2.1 pc = .ok (.return_, 1)) : G l D X pc ls [] ws mc ms := by
  obtain ⟨p, e, R, s, m, args, below, meth, c, Q, A⟩ := X
  obtain ⟨hx, hb, hml, hown, hts, hA, hd1, hfr, hlo, hmc, hms, hW⟩ := id hX
  obtain ⟨rfl, hlocks, hr⟩ := hE
  intro H locs rl hP hD hS hl
  subst hw
  exact W.vret hx hb hr (fun t ht hW => ⟨⟨u, rfl, trivial, by rw [ht]; exact hP, hD⟩, hS.F ht⟩) hS.2.2 hd hlocks
theorem Ct_of {l : Launch} {D : va_G} {y : Nat → ClassId} {M : Mt} {d mc ms a sz : Nat} {inp : va_E} {out : (Nat → Nat) → va_W} (hM : MG M) (hret : M.2.2.2 = none) (hn : M.1.name = "<init>") (hd : 1 ≤ d) (hl : 1 ≤ M.2.2.1)
    (h : ∀ X : Cw, Gk D y M d X mc ms → Gi X → Ge D X mc ms out → G l D X 0 [(0, .ref a)] [] [(a, inp)] 0 0) : Ct l D y M d mc ms a sz inp out := by
  obtain ⟨hpl, hc, hini, hne, -⟩ := hM
  refine Met.ofW (cc := M.2.1) (maxL := M.2.2.1) (ret := M.2.2.2) hpl rfl ?_
  intro p e s m args below meth c s₁ B hml hv
  obtain ⟨rfl, hsz, hP, hD0, hN⟩ := hv
  have hts := atoms_spec (ws := mcode M :: TB) B.pre
  have hown : s.vm.findClass M.1.cls = some m.cls := findClass_of_methodNamed B.named
  have hin : meth.name = "<init>" := (name_of_methodNamed B.named B.method).1.trans hn
  subst hsz
  have hD := hD0.self (sz := s.heap.size)
  have he := lv_entry ([.ref a]) (n := M.2.2.1) hl
  rw [lg_entry_eq]
  refine h (p, e, { frames := d, cells := mc, slots := ms, locals := 64 * d }, s, m, [Value.ref a].toArray, below, meth, c, _, va_A [(a, inp)] s.heap.size) ⟨B.exec, B.bytes, hml, hown, fun w hw => hts w (List.mem_cons_of_mem _ hw), fun q hq => Or.inr hq, hd, Nat.le_refl _, Nat.le_refl _, Nat.le_refl _, Nat.le_refl _, hN⟩ hin ⟨rfl, B.notSynchronized, B.returns.trans hret⟩ s.heap [] _ hP hD va_S.rf ?_
  rw [hml]
  exact he
theorem nd_of : ∀ l : List Nat, l.Nodup → va_nd l = true
  | [], _ => rfl
  | a :: l, h => by
    have h1 := List.nodup_cons.mp h
    simp only [va_nd, nd_of l h1.2, Bool.and_true, decide_eq_true_eq]
    exact h1.1
theorem rng_get {α : Type} (wr : List α) (x : α) : (List.range wr.length).map (fun i => (wr ++ [x])[i]?) = wr.map some := by
  apply List.ext_getElem?
  intro i
  by_cases hi : i < wr.length
  · rw [List.getElem?_map, List.getElem?_range hi, List.getElem?_map]
    show some ((wr ++ [x])[i]?) = (wr[i]?).map some
    rw [List.getElem?_append_left hi, List.getElem?_eq_getElem hi]
    rfl
  · rw [List.getElem?_eq_none (by simp; omega), List.getElem?_eq_none (by simp; omega)]
/-- a nest mate's private constructor -/
def LkI (own : String) (idx : Nat) (M : Mt) (host : String) : Prop := Cond.methodLinkNest own idx M.1 host ∈ nestW ∧ Cond.instanceMethod M.1 ∈ TB ∧ (parseMethodDescriptor M.1.desc).map (fun d => d.parameters.length) = some 0 ∧ M.1.name = "<init>" ∧ M.2.2.2 = none ∧ MG M
theorem g_callN {l : Launch} {D : va_G} {y : Nat → ClassId} {M M2 : Mt} {X : Cw} {pc a idx d d2 mc ms mc2 ms2 cells slots : Nat} {host : String} {ls : List (Nat × Value)} {st : List Value} {wr : va_W} {inp : va_E} {out2 : (Nat → Nat) → va_W} (hX : Gk D y M d X mc ms) (hlk : LkI M.1.cls idx M2 host) (hfit : d2 + 1 ≤ d) (hs : (st.map fun v => v.category).sum ≤ 8) (hc : cells + mc2 ≤ mc) (hms : slots + ms2 ≤ ms) (hct : ∀ sz : Nat, Ct l D y M2 d2 mc2 ms2 a sz inp out2) (hd : decode M.2.1 pc = .ok (.invokespecial idx, 3)) (k : ∀ u : Nat → Nat, G l D X (pc + 3) ls st (wr ++ out2 u) (cells + mc2) (slots + ms2)) : G l D X pc ls (.ref a :: st) (wr ++ [(a, inp)]) cells slots := by
  obtain ⟨p, e, R, s, m, args, below, meth, c, Q, A⟩ := X
  obtain ⟨hx, hb, hml, hown, hts, hA, hd1, hfr, hlo, hmc, hms0, hW⟩ := id hX
  obtain ⟨l1, l2, l4, l5, l6, hpl, hco, hini, hne, hm40⟩ := hlk
  intro H locs rl hP hD hS hl
  have hC : [wr.length].map (fun i => (wr ++ [(a, inp)])[i]?) = [(a, inp)].map some := by simp
  have hPc : va_P D vwCl [(a, inp)] H := hP.sub [wr.length] (by simp)
  have hDc := hD.sub (ws' := [(a, inp)]) [wr.length] rfl hC
  have hFc := va_free (wc := [(a, inp)]) hD hS hA [wr.length] hC
  have hdis : ∀ i ∈ List.range wr.length, i ∉ [wr.length] := by
    intro i hi hj
    have h1 := List.mem_range.mp hi
    have h2 := List.mem_singleton.mp hj
    omega
  refine va_callv (va_runIN (As := []) (rest := st) (bytes := M2.2.1) (maxL := M2.2.2.1) ⟨hx, hb, hml, hown, hts⟩ (hct H.size) ⟨va_cnB 0 hts (good_all M2 hco) (show mcode M2 :: TB = Cond.code M2.1 M2.2.1 M2.2.2.1 none :: TB by rw [← l6]) rfl rfl (hW.2.1 _ l1) (hts _ hini) ⟨hne.1, hne.2, l4⟩ ⟨by show d2 + 1 ≤ _; omega, by show 8 + (M2.2.2.1 + 11) + 64 * d2 ≤ _; omega⟩, l5, hts _ l2⟩ ⟨fun a U g mk q => ?_, fun U hU hWU => ⟨rfl, by rw [hU], by rw [hU]; exact hPc, hDc.weaken (fun _ _ _ _ => trivial), hW.warm hWU⟩⟩ rfl rfl (hl.1.trans hml) rfl (by show 2 * 0 + _ ≤ 8; omega) hd ⟨by omega, by omega⟩) hS (fun q _ h => hFc q h) hFc (fun u t H1 locs ht hvm hw hB hz1 hk1 hS => ?_)
  · obtain ⟨q0, q1, qP, qD, qN⟩ := q
    exact ⟨q0, q1, qP, qD, qN.blind (s := U) (U := U.calling g mk a) rfl⟩
  · obtain ⟨hP1, hD1⟩ := hB
    rw [ht] at hP1
    obtain ⟨hP2, hD2⟩ := va_join (wr := wr) (w1 := out2 u) hP hD [wr.length] (List.range wr.length) hC (rng_get wr _) (nd_of _ List.nodup_range) hdis hk1 hFc hP1 hD1
    exact k u H1 locs rl hP2 hD2 hS hl
def LkP (own : String) (idx : Nat) (M : Mt) : Prop := Cond.methodLink own idx M.1 ∈ TB ∧ Cond.instanceMethod M.1 ∈ TB ∧ (parseMethodDescriptor M.1.desc).map (fun d => d.parameters.length) = some 0 ∧ M.1.name = "<init>" ∧ M.2.2.2 = none ∧ MG M
theorem g_call {l : Launch} {D : va_G} {y : Nat → ClassId} {M M2 : Mt} {X : Cw} {pc a idx d d2 mc ms mc2 ms2 cells slots : Nat} {ls : List (Nat × Value)} {st : List Value} {wr : va_W} {inp : va_E} {out2 : (Nat → Nat) → va_W} (hX : Gk D y M d X mc ms) (hlk : LkP M.1.cls idx M2) (hfit : d2 + 1 ≤ d) (hs : (st.map fun v => v.category).sum ≤ 8) (hc : cells + mc2 ≤ mc) (hms : slots + ms2 ≤ ms) (hct : ∀ sz : Nat, Ct l D y M2 d2 mc2 ms2 a sz inp out2) (hd : decode M.2.1 pc = .ok (.invokespecial idx, 3)) (k : ∀ u : Nat → Nat, G l D X (pc + 3) ls st (wr ++ out2 u) (cells + mc2) (slots + ms2)) : G l D X pc ls (.ref a :: st) (wr ++ [(a, inp)]) cells slots := by
  obtain ⟨p, e, R, s, m, args, below, meth, c, Q, A⟩ := X
  obtain ⟨hx, hb, hml, hown, hts, hA, hd1, hfr, hlo, hmc, hms0, hW⟩ := id hX
  obtain ⟨l1, l2, l4, l5, l6, hpl, hco, hini, hne, hm40⟩ := hlk
  intro H locs rl hP hD hS hl
  have hC : [wr.length].map (fun i => (wr ++ [(a, inp)])[i]?) = [(a, inp)].map some := by simp
  have hPc : va_P D vwCl [(a, inp)] H := hP.sub [wr.length] (by simp)
  have hDc := hD.sub (ws' := [(a, inp)]) [wr.length] rfl hC
  have hFc := va_free (wc := [(a, inp)]) hD hS hA [wr.length] hC
  have hdis : ∀ i ∈ List.range wr.length, i ∉ [wr.length] := by
    intro i hi hj
    have h1 := List.mem_range.mp hi
    have h2 := List.mem_singleton.mp hj
    omega
  refine va_callv (va_runI (As := []) (rest := st) (bytes := M2.2.1) (maxL := M2.2.2.1) ⟨hx, hb, hml, hown, hts⟩ (hct H.size) ⟨callB_of 0 hts (good_all M2 hco) (show mcode M2 :: TB = Cond.code M2.1 M2.2.1 M2.2.2.1 none :: TB by rw [← l6]) rfl rfl (hts _ hini) (hts _ l1) ⟨hne.1, hne.2, l4⟩ ⟨by show d2 + 1 ≤ _; omega, by show 8 + (M2.2.2.1 + 11) + 64 * d2 ≤ _; omega⟩, l5, hts _ l2⟩ ⟨fun a U g mk q => ?_, fun U hU hWU => ⟨rfl, by rw [hU], by rw [hU]; exact hPc, hDc.weaken (fun _ _ _ _ => trivial), hW.warm hWU⟩⟩ rfl rfl (hl.1.trans hml) rfl (by show 2 * 0 + _ ≤ 8; omega) hd ⟨by omega, by omega⟩) hS (fun q _ h => hFc q h) hFc (fun u t H1 locs ht hvm hw hB hz1 hk1 hS => ?_)
  · obtain ⟨q0, q1, qP, qD, qN⟩ := q
    exact ⟨q0, q1, qP, qD, qN.blind (s := U) (U := U.calling g mk a) rfl⟩
  · obtain ⟨hP1, hD1⟩ := hB
    rw [ht] at hP1
    obtain ⟨hP2, hD2⟩ := va_join (wr := wr) (w1 := out2 u) hP hD [wr.length] (List.range wr.length) hC (rng_get wr _) (nd_of _ List.nodup_range) hdis hk1 hFc hP1 hD1
    exact k u H1 locs rl hP2 hD2 hS hl
