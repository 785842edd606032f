abbrev Um : Type := (Nat → Nat) × (Nat → ClassId)
abbrev Cb (D : va_G) (out : Um → va_W) (tyo : Um → List (ClassId × FieldType)) (A : Nat → Prop) (u : Um) (t : State) : Prop := va_P D vwCl (out u) t.heap ∧ va_K D vwCl (tyo u) t ∧ va_D A (out u)
/-- a constructor's contract: of the one cell a (as it is new) come the cells out -/
def Ct (l : Launch) (D : va_G) (M : Mt) (d mc ms a sz : Nat) (inp : va_E) (out : Um → va_W) (tyo : Um → List (ClassId × FieldType)) : Prop := Met l M.1 (mcode M :: TB) ({ frames := d, cells := mc, slots := ms, locals := 64 * d }) (va_Pc [.ref a] (fun U => U.heap.size = sz ∧ va_P D vwCl [(a, inp)] U.heap ∧ va_K D vwCl [] U ∧ va_D (fun _ => True) [(a, inp)] ∧ ∀ w ∈ nestW, va_Nw w U)) (va_Qv (fun _ : Um => True) (Cb D out tyo (va_A [(a, inp)] sz)) (va_A [(a, inp)] sz)) mc ms (va_A [(a, inp)] sz)
def Ge (D : va_G) (X : Cw) (mc ms : Nat) (out : Um → va_W) (tyo : Um → List (ClassId × FieldType)) : Prop := match X with
  | (_, _, _, s, _, args, below, meth, _, Q, A) => Q = MQ below (va_Qv (fun _ : Um => True) (Cb D out tyo A) A) args s mc ms A ∧ meth.locks = false ∧ meth.sig.returnType = none ∧ ∀ w ∈ nestW, va_Nw w s
theorem g_ret {l : Launch} {D : va_G} {M : Mt} {X : Cw} {pc : Nat} {ls : List (Nat × Value)} {ws : va_W} {tys : List (ClassId × FieldType)} {mc ms : Nat} {out : Um → va_W} {tyo : Um → List (ClassId × FieldType)} (hX : Gk M X mc ms) (hE : Ge D X mc ms out tyo) (u : Um) (hw : ws = out u) (ht : tys = tyo u) (hd : decode M.2.1 pc = .ok (.return_, 1)) : G l D X pc ls [] ws tys mc ms := by
  obtain ⟨p, e, R, s, m, args, below, meth, c, Q, A⟩ := X
  obtain ⟨hx, hb, hml, hown, hts, hA, hfr, hlo, hmc, hms⟩ := id hX
  obtain ⟨rfl, hlocks, hr, -⟩ := hE
  intro H locs rl hP hD hK hS hl
  subst hw
  subst ht
  exact W.vret hx hb hr (fun t ht hW => ⟨⟨u, rfl, trivial, by rw [ht]; exact hP, va_K.moved hW.alike hK, hD⟩, hS.F ht⟩) hS.2.2 hd hlocks
theorem Ct_of {l : Launch} {D : va_G} {M : Mt} {d mc ms a sz : Nat} {inp : va_E} {out : Um → va_W} {tyo : Um → List (ClassId × FieldType)} (hM : MG M) (hret : M.2.2.2 = none) (hn : M.1.name = "<init>") (hd : 1 ≤ d) (hl : 1 ≤ M.2.2.1)
    (h : ∀ X : Cw, Gk M X mc ms → Gi X → Ge D X mc ms out tyo → G l D X 0 [(0, .ref a)] [] [(a, inp)] [] 0 0) : Ct l D M d mc ms a sz inp out tyo := by
  obtain ⟨hpl, hc, hini, hne, -⟩ := hM
  refine Met.ofW (cc := M.2.1) (maxL := M.2.2.1) (ret := M.2.2.2) hpl rfl ?_
  intro p e s m args below meth c s₁ B hml hv
  obtain ⟨rfl, hsz, hP, hK, hD0, hN⟩ := hv
  have hts := atoms_spec (ws := mcode M :: TB) B.pre
  have hown : s.vm.findClass M.1.cls = some m.cls := findClass_of_methodNamed B.named
  have hin : meth.name = "<init>" := (name_of_methodNamed B.named B.method).1.trans hn
  subst hsz
  have hD := hD0.self (sz := s.heap.size)
  have he := lv_entry ([.ref a]) (n := M.2.2.1) hl
  rw [lg_entry_eq]
  refine h (p, e, { frames := d, cells := mc, slots := ms, locals := 64 * d }, s, m, [Value.ref a].toArray, below, meth, c, _, va_A [(a, inp)] s.heap.size) ⟨B.exec, B.bytes, hml, hown, fun w hw => hts w (List.mem_cons_of_mem _ hw), fun q hq => Or.inr hq, hd, by show 60 ≤ 64 * d; omega, Nat.le_refl _, Nat.le_refl _⟩ hin ⟨rfl, B.notSynchronized, B.returns.trans hret, hN⟩ s.heap [] _ hP hD hK va_S.rf ?_
  rw [hml]
  exact he