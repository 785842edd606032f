section GR2
variable {l : Launch} {D : va_G} {M : Mt} {X : Cw} {pc : Nat} {ls : List (Nat × Value)} {st : List Value} {ws : va_W} {tys : List (ClassId × FieldType)} {cells slots mc ms : Nat}
theorem zi_nn {N : Nat} (hN : N ≤ 1000) : ¬ zi (N : Int) < 0 := fun hneg => zi_in (z := (N : Int)) (n := N + 1) (by omega) (by omega) (by omega) (Or.inl hneg)
theorem g_newB (hX : Gk M X mc ms) {N : Nat} (hN : N ≤ 1000) (harr : Cond.arrayClass .byte ∈ TB) (hd : decode M.2.1 pc = .ok (.newarray .byte, 2)) (hc : cells + 1 ≤ mc) (hs : slots + N ≤ ms) (k : ∀ (q : Nat) (cA : ClassId), G l D X (pc + 2) ls (.ref q :: st) (ws ++ [(q, .inl (cA, N, .inl (fun _ => 0)))]) (tys ++ [(cA, .byte)]) (cells + 1) (slots + N)) : G l D X pc ls (.int (zi (N : Int)) :: st) ws tys cells slots := by
  obtain ⟨p, e, R, s, m, args, below, meth, c, Q, A⟩ := X
  obtain ⟨hx, hb, hml, hown, hts, hA, hfr, hlo, hmc, hms⟩ := id hX
  intro H locs rl hP hD hK hS hl
  exact va_newa (atype := .byte) (ty := .byte) (a0 := (N, .inl (fun _ => 0))) hx hb (hts _ harr) rfl hK hP hD hS hA (fun cA => rfl) (zi_nn hN) (by rw [zi_clamp (by omega) (by omega), Int.toNat_natCast]) (by show N * 1 ≤ _; omega) (by omega) (by omega) hd (fun q cA H1 h0 h1 h2 h3 => k q cA H1 locs rl h1 h2 h0 h3 hl)
theorem g_anew (hX : Gk M X mc ms) {N idx : Nat} {C : String} (hN : N ≤ 1000) (hcl : Cond.classLink M.1.cls idx C ∈ TB) (hov : Cond.arrayOver (.object C) ∈ TB) (hd : decode M.2.1 pc = .ok (.anewarray idx, 3)) (hc : cells + 1 ≤ mc) (hs : slots + N ≤ ms) (k : ∀ (q : Nat) (cA : ClassId), G l D X (pc + 3) ls (.ref q :: st) (ws ++ [(q, .inl (cA, N, .inr (.inr (.inr (.inr (fun _ => none))))))]) (tys ++ [(cA, .object C)]) (cells + 1) (slots + N)) : G l D X pc ls (.int (zi (N : Int)) :: st) ws tys cells slots := by
  obtain ⟨p, e, R, s, m, args, below, meth, c, Q, A⟩ := X
  obtain ⟨hx, hb, hml, hown, hts, hA, hfr, hlo, hmc, hms⟩ := id hX
  intro H locs rl hP hD hK hS hl
  exact va_newq hx hb hown (hts _ hcl) (va_AO.of (hts _ hov)) hK hP hD hS hA (zi_nn hN) (by rw [zi_clamp (by omega) (by omega), Int.toNat_natCast]) (by omega) (by omega) (by omega) hd (fun q cA H1 h0 h1 h2 h3 => k q cA H1 locs rl h1 h2 h0 h3 hl)
theorem g_ast (hX : Gk M X mc ms) (q0 t0 qk ci : Nat) {cA : ClassId} {r : vw_C} {n v j a : Nat} {vs : List Value} {f : Nat → Option Nat} (ha : ws[q0]? = some (a, .inl (cA, n, .inr (.inr (.inr (.inr f)))))) (ht : tys[t0]? = some (cA, .object r.1)) (hv : ws[qk]? = some (v, .inr (ci, vs))) (hc : vwCl[ci]? = some r) (hj : j < n) (hn : n ≤ 1000) (hd : decode M.2.1 pc = .ok (.aastore, 1)) (k : G l D X (pc + 1) ls st (ws.set q0 (a, .inl (cA, n, .inr (.inr (.inr (.inr (va_up f j (some v)))))))) tys cells slots) : G l D X pc ls (.ref v :: .int (zi (j : Int)) :: .ref a :: st) ws tys cells slots := by
  obtain ⟨p, e, R, s, m, args, below, meth, c, Q, A⟩ := X
  obtain ⟨hx, hb, hml, hown, hts, hA, hfr, hlo, hmc, hms⟩ := id hX
  intro H locs rl hP hD hK hS hl
  have ej : (zi (j : Int)).toNatClampNeg = j := by rw [zi_clamp (by omega) (by omega), Int.toNat_natCast]
  refine va_astq hx hb hK hP hD hS q0 t0 qk ci ha ht hv hc (zi_in (by omega) (by omega) (by omega)) hd (fun H1 locs1 h1 h2 h3 => ?_)
  rw [ej] at h1 h2
  exact k H1 locs1 rl h1 h2 hK h3 hl
end GR2