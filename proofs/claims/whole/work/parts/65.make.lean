/-! ===== making the cells: a constructor's walk over a list of cells that grows ===== -/
abbrev Cw : Type := Program × Env × Room × State × MethodId × Array Value × List Frame × Method × Code × (State → Prop) × (Nat → Prop)
def G (l : Launch) (D : va_G) (X : Cw) (pc : Nat) (ls : List (Nat × Value)) (st : List Value) (ws : va_W) (tys : List (ClassId × FieldType)) (cells slots : Nat) : Prop := match X with
  | (p, e, R, s, m, args, below, meth, c, Q, A) => ∀ (H : Heap) (locs : List Loc) (rl : Array Slot), va_P D vwCl ws H → va_D A ws → va_K D vwCl tys s → va_S A s.heap H locs → lv_has rl c.maxLocals ls → W p l e R s m args below meth c H locs cells slots Q (F0 m pc rl st)
def Gk (M : Mt) (X : Cw) (mc ms : Nat) : Prop := match X with
  | (p, _, R, s, m, args, _, meth, c, _, A) => p.tables.exec = Jvm.exec ∧ c.code = M.2.1 ∧ c.maxLocals = M.2.2.1 ∧ s.vm.findClass M.1.cls = some m.cls ∧ (∀ w ∈ TB, w.before args s = true) ∧ (∀ q : Nat, s.heap.size ≤ q → A q) ∧ 1 ≤ R.frames ∧ 60 ≤ R.locals ∧ mc ≤ R.cells ∧ ms ≤ R.slots
def Gi (X : Cw) : Prop := match X with
  | (_, _, _, _, _, _, _, meth, _, _, _) => meth.name = "<init>"
section GR
variable {l : Launch} {D : va_G} {M : Mt} {X : Cw} {pc : Nat} {ls : List (Nat × Value)} {st : List Value} {ws : va_W} {tys : List (ClassId × FieldType)} {cells slots mc ms : Nat}
theorem g_al (hX : Gk M X mc ms) {q : Fin 4} {n a : Nat} (i : Nat) (hd : decode M.2.1 pc = .ok (.aload_n q, 1)) (hq : (q : Nat) = n) (hi : ls[i]? = some (n, .ref a)) (k : G l D X (pc + 1) ls (.ref a :: st) ws tys cells slots) : G l D X pc ls st ws tys cells slots := by
  obtain ⟨p, e, R, s, m, args, below, meth, c, Q, A⟩ := X
  obtain ⟨hx, hb, hml, hown, hts, hA, hfr, hlo, hmc, hms⟩ := id hX
  intro H locs rl hP hD hK hS hl
  exact lv_aload_n hx hb hd hq (lv_at hl i hi) (k H locs rl hP hD hK hS hl)
theorem g_ic (hX : Gk M X mc ms) {n : Int} (hd : decode M.2.1 pc = .ok (.iconst n, 1)) (k : G l D X (pc + 1) ls (.int (zi n) :: st) ws tys cells slots) : G l D X pc ls st ws tys cells slots := by
  obtain ⟨p, e, R, s, m, args, below, meth, c, Q, A⟩ := X
  obtain ⟨hx, hb, hml, hown, hts, hA, hfr, hlo, hmc, hms⟩ := id hX
  intro H locs rl hP hD hK hS hl
  exact lv_iconst hx hb hd rfl (k H locs rl hP hD hK hS hl)
theorem g_bp (hX : Gk M X mc ms) {n : Int} (hd : decode M.2.1 pc = .ok (.bipush n, 2)) (hn : (Int8.ofInt n).toInt32 = zi n) (k : G l D X (pc + 2) ls (.int (zi n) :: st) ws tys cells slots) : G l D X pc ls st ws tys cells slots := by
  obtain ⟨p, e, R, s, m, args, below, meth, c, Q, A⟩ := X
  obtain ⟨hx, hb, hml, hown, hts, hA, hfr, hlo, hmc, hms⟩ := id hX
  intro H locs rl hP hD hK hS hl
  exact lv_bipush hx hb hd hn (k H locs rl hP hD hK hS hl)
theorem g_dup (hX : Gk M X mc ms) {a : Nat} (hd : decode M.2.1 pc = .ok (.dup, 1)) (k : G l D X (pc + 1) ls (.ref a :: .ref a :: st) ws tys cells slots) : G l D X pc ls (.ref a :: st) ws tys cells slots := by
  obtain ⟨p, e, R, s, m, args, below, meth, c, Q, A⟩ := X
  obtain ⟨hx, hb, hml, hown, hts, hA, hfr, hlo, hmc, hms⟩ := id hX
  intro H locs rl hP hD hK hS hl
  exact lv_dup hx hb hd rfl (k H locs rl hP hD hK hS hl)
theorem g_obj (hX : Gk M X mc ms) {a idx : Nat} (h1 : Cond.methodLink M.1.cls idx Lib.objectInit ∈ TB) (h2 : Cond.instanceMethod Lib.objectInit ∈ TB) (h3 : Cond.code Lib.objectInit ⟨#[0xb1]⟩ 1 none ∈ TB) (hs : (st.map fun v => v.category).sum ≤ 8) (hd : decode M.2.1 pc = .ok (.invokespecial idx, 3)) (k : G l D X (pc + 3) ls st ws tys cells slots) : G l D X pc ls (.ref a :: st) ws tys cells slots := by
  obtain ⟨p, e, R, s, m, args, below, meth, c, Q, A⟩ := X
  obtain ⟨hx, hb, hml, hown, hts, hA, hfr, hlo, hmc, hms⟩ := id hX
  intro H locs rl hP hD hK hS hl
  refine W.objInit hx hb hown (hts _ h1) (hts _ h2) (hts _ h3) rfl hl.1 rfl hd hfr (by show 2 * 0 + _ + 12 ≤ _; omega) ?_
  exact k H locs rl hP hD hK hS hl
theorem g_new (hX : Gk M X mc ms) {ci N idx : Nat} {C : String} {T : u_T} {ty : Nat → FieldType} (hf : FXk ci C T N ty) (hcl : Cond.classLink M.1.cls idx C ∈ TB) (hin : Cond.instantiable C N ∈ TB) (hini : Cond.initialized C ∈ TB) (fs : List Value) (hfs : ∀ j, j < N → defaultValue (ty j) = vp_V fs j) (hd : decode M.2.1 pc = .ok (.new idx, 3)) (hc : cells + 1 ≤ mc) (hs : slots + N ≤ ms) (k : ∀ q : Nat, G l D X (pc + 3) ls (.ref q :: st) (ws ++ [(q, .inr (ci, fs))]) tys (cells + 1) (slots + N)) : G l D X pc ls st ws tys cells slots := by
  obtain ⟨p, e, R, s, m, args, below, meth, c, Q, A⟩ := X
  obtain ⟨hx, hb, hml, hown, hts, hA, hfr, hlo, hmc, hms⟩ := id hX
  intro H locs rl hP hD hK hS hl
  exact va_new hx hb hts hf.2.1 ty hf.2.2.1 hown (hts _ hcl) (hts _ hin) (hts _ hini) hK hP hD hS hA hf.1 hfs (by omega) (by omega) hd (fun q H1 h1 h2 h3 => k q H1 locs rl h1 h2 hK h3 hl)
theorem g_newI (hX : Gk M X mc ms) {N : Nat} (hN : N ≤ 1000) (harr : Cond.arrayClass .int ∈ TB) (hd : decode M.2.1 pc = .ok (.newarray .int, 2)) (hc : cells + 1 ≤ mc) (hs : slots + N ≤ ms) (k : ∀ (q : Nat) (cA : ClassId), G l D X (pc + 2) ls (.ref q :: st) (ws ++ [(q, .inl (cA, N, .inl (fun _ => 0)))]) (tys ++ [(cA, .int)]) (cells + 1) (slots + N)) : G l D X pc ls (.int (zi (N : Int)) :: st) ws tys cells slots := by
  obtain ⟨p, e, R, s, m, args, below, meth, c, Q, A⟩ := X
  obtain ⟨hx, hb, hml, hown, hts, hA, hfr, hlo, hmc, hms⟩ := id hX
  intro H locs rl hP hD hK hS hl
  refine va_newa (atype := .int) (ty := .int) (a0 := (N, .inl (fun _ => 0))) hx hb (hts _ harr) rfl hK hP hD hS hA (fun cA => rfl) ?_ (by rw [zi_clamp (by omega) (by omega), Int.toNat_natCast]) (by show N * 4 ≤ _; omega) (by omega) (by omega) hd (fun q cA H1 h0 h1 h2 h3 => k q cA H1 locs rl h1 h2 h0 h3 hl)
  intro hneg
  have := zi_in (z := (N : Int)) (n := N + 1) (by omega) (by omega) (by omega)
  exact this (Or.inl hneg)
theorem g_putF (hX : Gk M X mc ms) (hi : Gi X) {ci idx N j q0 : Nat} {C : String} {T : u_T} {ty : Nat → FieldType} {a : Nat} {v : Value} {fs : List Value} (hf : FXk ci C T N ty) (he : ws[q0]? = some (a, .inr (ci, fs))) (hj : j < N) (hlk : Cond.fieldLink M.1.cls idx C (T j).2.1 (T j).2.2.1 ∈ TB) (hT : (T j).1 = C) (hC : C = M.1.cls) (hfin : (T j).2.2.2 = true) (hv : narrow (ty j) v = v) (hft : fits (ty j) v = true) (hl0 : j < fs.length) (hd : decode M.2.1 pc = .ok (.putfield idx, 3)) (k : G l D X (pc + 3) ls st (ws.set q0 (a, .inr (ci, fs.set j v))) tys cells slots) : G l D X pc ls (v :: .ref a :: st) ws tys cells slots := by
  obtain ⟨p, e, R, s, m, args, below, meth, c, Q, A⟩ := X
  obtain ⟨hx, hb, hml, hown, hts, hA, hfr, hlo, hmc, hms⟩ := id hX
  intro H locs rl hP hD hK hS hl
  exact va_putF hx hb hts hf.2.1 ty hf.2.2.1 hf.2.2.2.1 hown hK hP hD hS q0 he hf.1 j hj (hts _ hlk) (fun _ h => by rw [hT] at h; exact h) hfin hi (hT.trans hC) (hf.2.2.1 j hj) hv hft hl0 hd (fun H1 locs1 h1 h2 h3 => k H1 locs1 rl h1 h2 hK h3 hl)
end GR