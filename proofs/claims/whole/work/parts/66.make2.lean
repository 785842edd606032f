abbrev Um : Type := (Nat → Nat) × (Nat → ClassId)
abbrev Cb (D : va_G) (out : Um → va_W) (tyo : Um → List (ClassId × FieldType)) (A : Nat → Prop) (u : Um) (t : State) : Prop := va_P D vwCl (out u) t.heap ∧ va_K D vwCl (tyo u) t ∧ va_D A (out u)
/-- a constructor's contract: of the one cell a (as it is new) come the cells out -/
def Ct (l : Launch) (D : va_G) (M : Mt) (d mc ms a sz : Nat) (inp : va_E) (out : Um → va_W) (tyo : Um → List (ClassId × FieldType)) : Prop := Met l M.1 (mcode M :: TB) ({ frames := d, cells := mc, slots := ms, locals := 64 * d }) (va_Pc [.ref a] (fun U => U.heap.size = sz ∧ va_P D vwCl [(a, inp)] U.heap ∧ va_K D vwCl [] U ∧ va_D (fun _ => True) [(a, inp)] ∧ ∀ w ∈ nestW, va_Nw w U)) (va_Qv (fun _ : Um => True) (Cb D out tyo (va_A [(a, inp)] sz)) (va_A [(a, inp)] sz)) mc ms (va_A [(a, inp)] sz)
def Ge (D : va_G) (X : Cw) (mc ms : Nat) (out : Um → va_W) (tyo : Um → List (ClassId × FieldType)) : Prop := match X with
  | (_, _, _, s, _, args, below, meth, _, Q, A) => Q = MQ below (va_Qv (fun _ : Um => True) (Cb D out tyo A) A) args s mc ms A ∧ meth.locks = false ∧ meth.sig.returnType = none ∧ ∀ w ∈ nestW, va_Nw w s
theorem g_ret {l : Launch} {D : va_G} {M : Mt} {X : Cw} {pc : Nat} {ls : List (Nat × Value)} {ws : va_W} {tys : List (ClassId × FieldType)} {mc ms : Nat} {out : Um → va_W} {tyo : Um → List (ClassId × FieldType)} (hX : Gk M X mc ms) (hE : Ge D X mc ms out tyo) (u : Um) (hw : ws = out u) (ht : tys = tyo u) (hd : decode M.2.1 pc = .ok (.return_, 1)) : G l D X pc ls [] ws tys mc ms := by
  obtain ⟨p, e, R, s, m, args, below, meth, c, Q, A⟩ := X
  obtain ⟨hx, hb, hml, hown, hts, hA, hfr, hlo, hmc, hms⟩ := id hX
  obtain ⟨rfl, hlocks, hr, -⟩ := hE
  intro H locs rl hP hD hK hS hl
  subst hw
  subst ht
  exact W.vret hx hb hr (fun t ht hW => ⟨⟨u, rfl, trivial, by rw [ht]; exact hP, va_K.moved hW.alike hK, hD⟩, hS.F ht⟩) hS.2.2 hd hlocks
theorem Ct_of {l : Launch} {D : va_G} {M : Mt} {d mc ms a sz : Nat} {inp : va_E} {out : Um → va_W} {tyo : Um → List (ClassId × FieldType)} (hM : MG M) (hret : M.2.2.2 = none) (hn : M.1.name = "<init>") (hd : 1 ≤ d) (hl : 1 ≤ M.2.2.1)
    (h : ∀ X : Cw, Gk M X mc ms → Gi X → Ge D X mc ms out tyo → G l D X 0 [(0, .ref a)] [] [(a, inp)] [] 0 0) : Ct l D M d mc ms a sz inp out tyo := by
  obtain ⟨hpl, hc, hini, hne, -⟩ := hM
  refine Met.ofW (cc := M.2.1) (maxL := M.2.2.1) (ret := M.2.2.2) hpl rfl ?_
  intro p e s m args below meth c s₁ B hml hv
  obtain ⟨rfl, hsz, hP, hK, hD0, hN⟩ := hv
  have hts := atoms_spec (ws := mcode M :: TB) B.pre
  have hown : s.vm.findClass M.1.cls = some m.cls := findClass_of_methodNamed B.named
  have hin : meth.name = "<init>" := (name_of_methodNamed B.named B.method).1.trans hn
  subst hsz
  have hD := hD0.self (sz := s.heap.size)
  have he := lv_entry ([.ref a]) (n := M.2.2.1) hl
  rw [lg_entry_eq]
  refine h (p, e, { frames := d, cells := mc, slots := ms, locals := 64 * d }, s, m, [Value.ref a].toArray, below, meth, c, _, va_A [(a, inp)] s.heap.size) ⟨B.exec, B.bytes, hml, hown, fun w hw => hts w (List.mem_cons_of_mem _ hw), fun q hq => Or.inr hq, hd, by show 60 ≤ 64 * d; omega, Nat.le_refl _, Nat.le_refl _⟩ hin ⟨rfl, B.notSynchronized, B.returns.trans hret, hN⟩ s.heap [] _ hP hD hK va_S.rf ?_
  rw [hml]
  exact he
theorem nest_blind {w : Cond} (hw : w ∈ nestW) {s U : State} (hv : U.vm = s.vm) (h : va_Nw w s) : va_Nw w U := by
  have hg := (List.mem_filter.mp hw).2
  cases w <;> first | exact va_Nw.same rfl hv.symm h | (simp [isNest] at hg)
/-- a nest mate's private constructor -/
def LkI (own : String) (idx : Nat) (M : Mt) (host : String) : Prop := Cond.methodLinkNest own idx M.1 host ∈ nestW ∧ Cond.instanceMethod M.1 ∈ TB ∧ (parseMethodDescriptor M.1.desc).map (fun d => d.parameters.length) = some 0 ∧ M.1.name = "<init>" ∧ M.2.2.2 = none ∧ MG M
theorem g_callN {l : Launch} {D : va_G} {M M2 : Mt} {X : Cw} {pc a idx d d2 mc ms mc2 ms2 cells slots : Nat} {host : String} {ls : List (Nat × Value)} {st : List Value} {wr : va_W} {tys : List (ClassId × FieldType)} {inp : va_E} {out out2 : Um → va_W} {tyo tyo2 : Um → List (ClassId × FieldType)} (hX : Gk M X mc ms) (hE : Ge D X mc ms out tyo) (hlk : LkI M.1.cls idx M2 host) (hfit : d2 + 1 ≤ X.2.2.1.frames ∧ 8 + (M2.2.2.1 + 11) + 64 * d2 ≤ X.2.2.1.locals) (isR : List Nat) (hR : isR.map (fun i => (wr ++ [(a, inp)])[i]?) = wr.map some) (hn : va_nd isR = true) (hdis : ∀ i ∈ isR, i ∉ [wr.length]) (hs : (st.map fun v => v.category).sum ≤ 8) (hc : cells + mc2 ≤ mc) (hms : slots + ms2 ≤ ms) (hct : ∀ sz : Nat, Ct l D M2 d2 mc2 ms2 a sz inp out2 tyo2) (hd : decode M.2.1 pc = .ok (.invokespecial idx, 3)) (k : ∀ u : Um, G l D X (pc + 3) ls st (wr ++ out2 u) (tys ++ tyo2 u) (cells + mc2) (slots + ms2)) : G l D X pc ls (.ref a :: st) (wr ++ [(a, inp)]) tys cells slots := by
  obtain ⟨p, e, R, s, m, args, below, meth, c, Q, A⟩ := X
  obtain ⟨hx, hb, hml, hown, hts, hA, hfr, hlo, hmc, hms0⟩ := id hX
  obtain ⟨-, -, -, hN⟩ := hE
  obtain ⟨l1, l2, l4, l5, l6, hpl, hco, hini, hne, -⟩ := hlk
  intro H locs rl hP hD hK hS hl
  have hC : [wr.length].map (fun i => (wr ++ [(a, inp)])[i]?) = [(a, inp)].map some := by simp
  have hPc : va_P D vwCl [(a, inp)] H := hP.sub [wr.length] (by simp)
  have hDc := hD.sub (ws' := [(a, inp)]) [wr.length] rfl hC
  have hFc := va_free (wc := [(a, inp)]) hD hS hA [wr.length] hC
  refine va_callv (va_runIN (As := []) (rest := st) (bytes := M2.2.1) (maxL := M2.2.2.1) ⟨hx, hb, hml, hown, hts⟩ (hct H.size) ⟨va_cnB 0 hts (good_all M2 hco) (show mcode M2 :: TB = Cond.code M2.1 M2.2.1 M2.2.2.1 none :: TB by rw [← l6]) rfl rfl (hN _ l1) (hts _ hini) ⟨hne.1, hne.2, l4⟩ ⟨hfit.1, hfit.2⟩, l5, hts _ l2⟩ ⟨fun a U g mk q => ?_, fun U hU hW => ⟨rfl, by rw [hU], by rw [hU]; exact hPc, va_K.moved hW.alike (hK.sub (tys' := []) [] rfl), hDc.weaken (fun _ _ _ _ => trivial), fun w hw => nest_warm hw hW (hN w hw)⟩⟩ rfl rfl (hl.1.trans hml) rfl (by show 2 * 0 + _ ≤ 8; omega) hd ⟨by omega, by omega⟩) hS (fun q _ h => hFc q h) hFc (fun u t H1 locs ht hvm hw hB hz1 hk1 hS => ?_)
  · obtain ⟨q0, q1, qP, qK, qD, qN⟩ := q
    exact ⟨q0, q1, qP, va_K.moved (u := U) (U := U.calling g mk a) (Vm.Alike.refl U.vm) qK, qD, fun w hw => nest_blind (s := U) (U := U.calling g mk a) hw rfl (qN w hw)⟩
  · obtain ⟨hP1, hK1, hD1⟩ := hB
    rw [ht] at hP1
    have hK1 := va_K.moved hvm.symm hK1
    obtain ⟨hP2, hD2⟩ := va_join (wr := wr) (w1 := out2 u) hP hD [wr.length] isR hC hR hn hdis hk1 hFc hP1 hD1
    exact k u H1 locs rl hP2 hD2 (hK.app hK1) hS hl
def LkP (own : String) (idx : Nat) (M : Mt) : Prop := Cond.methodLink own idx M.1 ∈ TB ∧ Cond.instanceMethod M.1 ∈ TB ∧ (parseMethodDescriptor M.1.desc).map (fun d => d.parameters.length) = some 0 ∧ M.1.name = "<init>" ∧ M.2.2.2 = none ∧ MG M
theorem g_call {l : Launch} {D : va_G} {M M2 : Mt} {X : Cw} {pc a idx d d2 mc ms mc2 ms2 cells slots : Nat} {ls : List (Nat × Value)} {st : List Value} {wr : va_W} {tys : List (ClassId × FieldType)} {inp : va_E} {out out2 : Um → va_W} {tyo tyo2 : Um → List (ClassId × FieldType)} (hX : Gk M X mc ms) (hE : Ge D X mc ms out tyo) (hlk : LkP M.1.cls idx M2) (hfit : d2 + 1 ≤ X.2.2.1.frames ∧ 8 + (M2.2.2.1 + 11) + 64 * d2 ≤ X.2.2.1.locals) (isR : List Nat) (hR : isR.map (fun i => (wr ++ [(a, inp)])[i]?) = wr.map some) (hn : va_nd isR = true) (hdis : ∀ i ∈ isR, i ∉ [wr.length]) (hs : (st.map fun v => v.category).sum ≤ 8) (hc : cells + mc2 ≤ mc) (hms : slots + ms2 ≤ ms) (hct : ∀ sz : Nat, Ct l D M2 d2 mc2 ms2 a sz inp out2 tyo2) (hd : decode M.2.1 pc = .ok (.invokespecial idx, 3)) (k : ∀ u : Um, G l D X (pc + 3) ls st (wr ++ out2 u) (tys ++ tyo2 u) (cells + mc2) (slots + ms2)) : G l D X pc ls (.ref a :: st) (wr ++ [(a, inp)]) tys cells slots := by
  obtain ⟨p, e, R, s, m, args, below, meth, c, Q, A⟩ := X
  obtain ⟨hx, hb, hml, hown, hts, hA, hfr, hlo, hmc, hms0⟩ := id hX
  obtain ⟨-, -, -, hN⟩ := hE
  obtain ⟨l1, l2, l4, l5, l6, hpl, hco, hini, hne, -⟩ := hlk
  intro H locs rl hP hD hK hS hl
  have hC : [wr.length].map (fun i => (wr ++ [(a, inp)])[i]?) = [(a, inp)].map some := by simp
  have hPc : va_P D vwCl [(a, inp)] H := hP.sub [wr.length] (by simp)
  have hDc := hD.sub (ws' := [(a, inp)]) [wr.length] rfl hC
  have hFc := va_free (wc := [(a, inp)]) hD hS hA [wr.length] hC
  refine va_callv (va_runI (As := []) (rest := st) (bytes := M2.2.1) (maxL := M2.2.2.1) ⟨hx, hb, hml, hown, hts⟩ (hct H.size) ⟨callB_of 0 hts (good_all M2 hco) (show mcode M2 :: TB = Cond.code M2.1 M2.2.1 M2.2.2.1 none :: TB by rw [← l6]) rfl rfl (hts _ hini) (hts _ l1) ⟨hne.1, hne.2, l4⟩ ⟨hfit.1, hfit.2⟩, l5, hts _ l2⟩ ⟨fun a U g mk q => ?_, fun U hU hW => ⟨rfl, by rw [hU], by rw [hU]; exact hPc, va_K.moved hW.alike (hK.sub (tys' := []) [] rfl), hDc.weaken (fun _ _ _ _ => trivial), fun w hw => nest_warm hw hW (hN w hw)⟩⟩ rfl rfl (hl.1.trans hml) rfl (by show 2 * 0 + _ ≤ 8; omega) hd ⟨by omega, by omega⟩) hS (fun q _ h => hFc q h) hFc (fun u t H1 locs ht hvm hw hB hz1 hk1 hS => ?_)
  · obtain ⟨q0, q1, qP, qK, qD, qN⟩ := q
    exact ⟨q0, q1, qP, va_K.moved (u := U) (U := U.calling g mk a) (Vm.Alike.refl U.vm) qK, qD, fun w hw => nest_blind (s := U) (U := U.calling g mk a) hw rfl (qN w hw)⟩
  · obtain ⟨hP1, hK1, hD1⟩ := hB
    rw [ht] at hP1
    have hK1 := va_K.moved hvm.symm hK1
    obtain ⟨hP2, hD2⟩ := va_join (wr := wr) (w1 := out2 u) hP hD [wr.length] isR hC hR hn hdis hk1 hFc hP1 hD1
    exact k u H1 locs rl hP2 hD2 (hK.app hK1) hS hl