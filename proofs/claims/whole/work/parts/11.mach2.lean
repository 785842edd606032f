section KM
variable {E : En} {M : Mt} {X : Cx} {pc : Nat} {ls : List (Option mv)} {st : List mv} {g : Mm}
theorem wr_o (E : En) (g : Mm) (k j : Nat) (v : Int) : ∀ a, a ≠ k → ent E (wr g k j v) a = ent E g a := fun a h => ent_ne (by funext b; simp [wr, h]) rfl
theorem wl_o (E : En) (g : Mm) (k j : Nat) (v : Int64) : ∀ a, a ≠ k → ent E (wl g k j v) a = ent E g a := fun a h => ent_ne rfl (by funext b; simp [wl, h])
theorem fv_get (E : En) (g : Mm) (k : Nat) {n j : Nat} (h : j < n) : ((List.range n).map (fv E g k))[j]? = some (fv E g k j) := by
  simp [List.getElem?_map, List.getElem?_range h]
theorem fv_set {E : En} {g g' : Mm} {k n j : Nat} {v : Value} (h : j < n) (hv : fv E g' k j = v) (ho : ∀ b, b ≠ j → fv E g' k b = fv E g k b) : ((List.range n).map (fv E g k)).set j v = (List.range n).map (fv E g' k) := by
  apply List.ext_getElem?
  intro i
  by_cases hi : i < n
  · by_cases e : i = j
    · subst e
      rw [List.getElem?_set_self (by simpa using hi), fv_get E g' k hi, hv]
    · rw [List.getElem?_set_ne (fun q => e q.symm), fv_get E g k hi, fv_get E g' k hi, ho i e]
  · rw [List.getElem?_eq_none (by simpa using Nat.not_lt.mp hi), List.getElem?_eq_none (by simpa using Nat.not_lt.mp hi)]
theorem k_geti (hX : Xk E M X) {i ci j k : Nat} (hd : decode M.2.1 pc = .ok (.getfield i, 3)) (hf : FLk M.1.cls i ci j) (hk : sk k = ci) (hc : ci < 9) (hq : fk ci j = 0) (kk : V E X (pc + 3) ls (vI (g.1 k j) :: st) g) : V E X pc ls (vR k :: st) g := by
  obtain ⟨p, e, R, s, m, args, below, meth, c, cells, slots, Q, A0⟩ := X
  obtain ⟨hx, hb, hml, hown, hts, hcs, hAA, hfr, hlo, hce, hsl⟩ := id hX
  intro H locs rl hP hS hl
  obtain ⟨C, T, N, ty, ⟨f1, f2, f3, f4, rfl⟩, hj, hlink, hT, hft, -⟩ := hf
  have hk72 : k < 72 := sk_lt hk (by omega)
  refine va_get (C := C) (T := T) (N := nf ci) (ci := ci) (ref := C) (index := i) hx hb hts f2 hown hcs.1 hP k ((wsO_get E g hk72).trans (by rw [ent_obj hk hc])) f1 j hj (hts _ hlink) (by rw [hT]; exact fun _ h => h) (fv_get E g k hj) hd ?_
  have hfv : fv E g k j = tv E (vI (g.1 k j)) := by simp [fv, hk, hq, tv]
  rw [hfv]
  exact kk H locs rl hP hS hl
theorem k_getz (hX : Xk E M X) {i ci j k : Nat} (hd : decode M.2.1 pc = .ok (.getfield i, 3)) (hf : FLk M.1.cls i ci j) (hk : sk k = ci) (hc : ci < 9) (hq : fk ci j = 3) (kk : V E X (pc + 3) ls (vI (g.1 k j) :: st) g) : V E X pc ls (vR k :: st) g := by
  obtain ⟨p, e, R, s, m, args, below, meth, c, cells, slots, Q, A0⟩ := X
  obtain ⟨hx, hb, hml, hown, hts, hcs, hAA, hfr, hlo, hce, hsl⟩ := id hX
  intro H locs rl hP hS hl
  obtain ⟨C, T, N, ty, ⟨f1, f2, f3, f4, rfl⟩, hj, hlink, hT, hft, -⟩ := hf
  have hk72 : k < 72 := sk_lt hk (by omega)
  refine va_get (C := C) (T := T) (N := nf ci) (ci := ci) (ref := C) (index := i) hx hb hts f2 hown hcs.1 hP k ((wsO_get E g hk72).trans (by rw [ent_obj hk hc])) f1 j hj (hts _ hlink) (by rw [hT]; exact fun _ h => h) (fv_get E g k hj) hd ?_
  have hfv : fv E g k j = tv E (vI (g.1 k j)) := by simp [fv, hk, hq, tv]
  rw [hfv]
  exact kk H locs rl hP hS hl
theorem k_getl (hX : Xk E M X) {i ci j k : Nat} (hd : decode M.2.1 pc = .ok (.getfield i, 3)) (hf : FLk M.1.cls i ci j) (hk : sk k = ci) (hc : ci < 9) (hq : fk ci j = 1) (kk : V E X (pc + 3) ls (vL (g.2 k j) :: st) g) : V E X pc ls (vR k :: st) g := by
  obtain ⟨p, e, R, s, m, args, below, meth, c, cells, slots, Q, A0⟩ := X
  obtain ⟨hx, hb, hml, hown, hts, hcs, hAA, hfr, hlo, hce, hsl⟩ := id hX
  intro H locs rl hP hS hl
  obtain ⟨C, T, N, ty, ⟨f1, f2, f3, f4, rfl⟩, hj, hlink, hT, hft, -⟩ := hf
  have hk72 : k < 72 := sk_lt hk (by omega)
  refine va_get (C := C) (T := T) (N := nf ci) (ci := ci) (ref := C) (index := i) hx hb hts f2 hown hcs.1 hP k ((wsO_get E g hk72).trans (by rw [ent_obj hk hc])) f1 j hj (hts _ hlink) (by rw [hT]; exact fun _ h => h) (fv_get E g k hj) hd ?_
  have hfv : fv E g k j = tv E (vL (g.2 k j)) := by simp [fv, hk, hq, tv]
  rw [hfv]
  exact kk H locs rl hP hS hl
theorem k_getr (hX : Xk E M X) {i ci j k t : Nat} (hd : decode M.2.1 pc = .ok (.getfield i, 3)) (hf : FLk M.1.cls i ci j) (hk : sk k = ci) (hc : ci < 9) (hq : fk ci j = 2) (hr : rf k j = t) (kk : V E X (pc + 3) ls (vR t :: st) g) : V E X pc ls (vR k :: st) g := by
  obtain ⟨p, e, R, s, m, args, below, meth, c, cells, slots, Q, A0⟩ := X
  obtain ⟨hx, hb, hml, hown, hts, hcs, hAA, hfr, hlo, hce, hsl⟩ := id hX
  intro H locs rl hP hS hl
  subst hr
  obtain ⟨C, T, N, ty, ⟨f1, f2, f3, f4, rfl⟩, hj, hlink, hT, hft, -⟩ := hf
  have hk72 : k < 72 := sk_lt hk (by omega)
  refine va_get (C := C) (T := T) (N := nf ci) (ci := ci) (ref := C) (index := i) hx hb hts f2 hown hcs.1 hP k ((wsO_get E g hk72).trans (by rw [ent_obj hk hc])) f1 j hj (hts _ hlink) (by rw [hT]; exact fun _ h => h) (fv_get E g k hj) hd ?_
  have hfv : fv E g k j = tv E (vR (rf k j)) := by simp [fv, hk, hq, tv]
  rw [hfv]
  exact kk H locs rl hP hS hl
theorem k_puti (hX : Xk E M X) {i ci j k : Nat} {z : Int} (hd : decode M.2.1 pc = .ok (.putfield i, 3)) (hf : FLk M.1.cls i ci j) (hk : sk k = ci) (hc : ci < 9) (hq : fk ci j = 0) (kk : V E X (pc + 3) ls st (wr g k j z)) : V E X pc ls (vI z :: vR k :: st) g := by
  obtain ⟨p, e, R, s, m, args, below, meth, c, cells, slots, Q, A0⟩ := X
  obtain ⟨hx, hb, hml, hown, hts, hcs, hAA, hfr, hlo, hce, hsl⟩ := id hX
  intro H locs rl hP hS hl
  obtain ⟨C, T, N, ty, ⟨f1, f2, f3, f4, rfl⟩, hj, hlink, hT, hft, hfin⟩ := hf
  have hk72 : k < 72 := sk_lt hk (by omega)
  have hty : ty j = .int := by
    have h1 : ftk (ty j) = 0 := by rw [hft, hq]
    revert h1
    cases ty j <;> simp [ftk]
  refine va_put (C := C) (T := T) (N := nf ci) (ci := ci) (ref := C) (index := i) (ty := .int) hx hb hts f2 ty f3 f4 hown hcs.1 hP (wsO_D hcs.2.1 g hAA) hS k ((wsO_get E g hk72).trans (by rw [ent_obj hk hc])) f1 j hj (hts _ hlink) (by rw [hT]; exact fun _ h => h) (hfin.resolve_right (by omega)) (by rw [f3 j hj, hty]) rfl rfl (by simpa using hj) hd (fun H1 locs1 hP1 _ hS1 => ?_)
  have he : (wsO E g).set k (ea E k, .inr (ci, ((List.range (nf ci)).map (fv E g k)).set j (.int (zi z)))) = wsO E (wr g k j z) := by
    refine wsO_set hk72 ?_ (wr_o E g k j z)
    rw [ent_obj hk hc, fv_set (g' := wr g k j z) hj]
    · simp [fv, hk, hq, wr]
    · intro b hb'
      simp [fv, wr, hb']
  exact kk H1 locs1 rl (he ▸ (show va_P (eD E) vwCl ((wsO E g).set k (ea E k, .inr (ci, ((List.range (nf ci)).map (fv E g k)).set j (.int (zi z))))) H1 from hP1)) hS1 hl
theorem k_putz (hX : Xk E M X) {i ci j k : Nat} {z : Int} (hd : decode M.2.1 pc = .ok (.putfield i, 3)) (hf : FLk M.1.cls i ci j) (hk : sk k = ci) (hc : ci < 9) (hq : fk ci j = 3) (hz : z = 0 ∨ z = 1) (kk : V E X (pc + 3) ls st (wr g k j z)) : V E X pc ls (vI z :: vR k :: st) g := by
  obtain ⟨p, e, R, s, m, args, below, meth, c, cells, slots, Q, A0⟩ := X
  obtain ⟨hx, hb, hml, hown, hts, hcs, hAA, hfr, hlo, hce, hsl⟩ := id hX
  intro H locs rl hP hS hl
  have hz1 : narrow .boolean (.int (zi z)) = .int (zi z) := by rcases hz with rfl | rfl <;> decide +kernel
  have hz2 : fits .boolean (.int (zi z)) = true := by rcases hz with rfl | rfl <;> decide +kernel
  obtain ⟨C, T, N, ty, ⟨f1, f2, f3, f4, rfl⟩, hj, hlink, hT, hft, hfin⟩ := hf
  have hk72 : k < 72 := sk_lt hk (by omega)
  have hty : ty j = .boolean := by
    have h1 : ftk (ty j) = 3 := by rw [hft, hq]
    revert h1
    cases ty j <;> simp [ftk]
  refine va_put (C := C) (T := T) (N := nf ci) (ci := ci) (ref := C) (index := i) (ty := .boolean) hx hb hts f2 ty f3 f4 hown hcs.1 hP (wsO_D hcs.2.1 g hAA) hS k ((wsO_get E g hk72).trans (by rw [ent_obj hk hc])) f1 j hj (hts _ hlink) (by rw [hT]; exact fun _ h => h) (hfin.resolve_right (by omega)) (by rw [f3 j hj, hty]) hz1 hz2 (by simpa using hj) hd (fun H1 locs1 hP1 _ hS1 => ?_)
  have he : (wsO E g).set k (ea E k, .inr (ci, ((List.range (nf ci)).map (fv E g k)).set j (.int (zi z)))) = wsO E (wr g k j z) := by
    refine wsO_set hk72 ?_ (wr_o E g k j z)
    rw [ent_obj hk hc, fv_set (g' := wr g k j z) hj]
    · simp [fv, hk, hq, wr]
    · intro b hb'
      simp [fv, wr, hb']
  exact kk H1 locs1 rl (he ▸ (show va_P (eD E) vwCl ((wsO E g).set k (ea E k, .inr (ci, ((List.range (nf ci)).map (fv E g k)).set j (.int (zi z))))) H1 from hP1)) hS1 hl
theorem k_putl (hX : Xk E M X) {i ci j k : Nat} {z : Int64} (hd : decode M.2.1 pc = .ok (.putfield i, 3)) (hf : FLk M.1.cls i ci j) (hk : sk k = ci) (hc : ci < 9) (hq : fk ci j = 1) (kk : V E X (pc + 3) ls st (wl g k j z)) : V E X pc ls (vL z :: vR k :: st) g := by
  obtain ⟨p, e, R, s, m, args, below, meth, c, cells, slots, Q, A0⟩ := X
  obtain ⟨hx, hb, hml, hown, hts, hcs, hAA, hfr, hlo, hce, hsl⟩ := id hX
  intro H locs rl hP hS hl
  obtain ⟨C, T, N, ty, ⟨f1, f2, f3, f4, rfl⟩, hj, hlink, hT, hft, hfin⟩ := hf
  have hk72 : k < 72 := sk_lt hk (by omega)
  have hty : ty j = .long := by
    have h1 : ftk (ty j) = 1 := by rw [hft, hq]
    revert h1
    cases ty j <;> simp [ftk]
  refine va_put (C := C) (T := T) (N := nf ci) (ci := ci) (ref := C) (index := i) (ty := .long) hx hb hts f2 ty f3 f4 hown hcs.1 hP (wsO_D hcs.2.1 g hAA) hS k ((wsO_get E g hk72).trans (by rw [ent_obj hk hc])) f1 j hj (hts _ hlink) (by rw [hT]; exact fun _ h => h) (hfin.resolve_right (by omega)) (by rw [f3 j hj, hty]) rfl rfl (by simpa using hj) hd (fun H1 locs1 hP1 _ hS1 => ?_)
  have he : (wsO E g).set k (ea E k, .inr (ci, ((List.range (nf ci)).map (fv E g k)).set j (.long z))) = wsO E (wl g k j z) := by
    refine wsO_set hk72 ?_ (wl_o E g k j z)
    rw [ent_obj hk hc, fv_set (g' := wl g k j z) hj]
    · simp [fv, hk, hq, wl]
    · intro b hb'
      simp [fv, wl, hb']
  exact kk H1 locs1 rl (he ▸ (show va_P (eD E) vwCl ((wsO E g).set k (ea E k, .inr (ci, ((List.range (nf ci)).map (fv E g k)).set j (.long z)))) H1 from hP1)) hS1 hl
theorem ln_le (k : Nat) : ln k ≤ 18 := by
  by_cases h : k < 72
  · have h1 : ∀ k, k < 72 → ln k ≤ 18 := by decide +kernel
    exact h1 k h
  · unfold ln
    rw [List.getD_eq_getElem?_getD, List.getElem?_eq_none (by show 72 ≤ k; omega)]
    exact Nat.zero_le _
theorem k_iald (hX : Xk E M X) {k : Nat} {i : Int} (j : Nat) (hd : decode M.2.1 pc = .ok (.iaload, 1)) (hk : sk k = 10) (h0 : 0 ≤ i) {n : Nat} (hln0 : ln k = n) (h1n : i < (n : Int)) (hj : i.toNat = j) (kk : V E X (pc + 1) ls (vI (g.1 k j) :: st) g) : V E X pc ls (vI i :: vR k :: st) g := by
  obtain ⟨p, e, R, s, m, args, below, meth, c, cells, slots, Q, A0⟩ := X
  obtain ⟨hx, hb, hml, hown, hts, hcs, hAA, hfr, hlo, hce, hsl⟩ := id hX
  intro H locs rl hP hS hl
  have hk72 : k < 72 := sk_lt hk (by omega)
  have hln := ln_le k
  have h1 : i < (ln k : Int) := by rw [hln0]; exact h1n
  refine va_iald hx hb hcs.1 hP k 0 ((wsO_get E g hk72).trans (by rw [ent_ints hk (by omega) (by omega)])) rfl (zi_in h0 h1 (by omega)) hd ?_
  rw [zi_clamp h0 (by omega), hj]
  exact kk H locs rl hP hS hl
theorem k_bald (hX : Xk E M X) {k : Nat} {i : Int} (j : Nat) (hd : decode M.2.1 pc = .ok (.baload, 1)) (hk : sk k = 11) (h0 : 0 ≤ i) {n : Nat} (hln0 : ln k = n) (h1n : i < (n : Int)) (hj : i.toNat = j) (kk : V E X (pc + 1) ls (vI (g.1 k j) :: st) g) : V E X pc ls (vI i :: vR k :: st) g := by
  obtain ⟨p, e, R, s, m, args, below, meth, c, cells, slots, Q, A0⟩ := X
  obtain ⟨hx, hb, hml, hown, hts, hcs, hAA, hfr, hlo, hce, hsl⟩ := id hX
  intro H locs rl hP hS hl
  have hk72 : k < 72 := sk_lt hk (by omega)
  have hln := ln_le k
  have h1 : i < (ln k : Int) := by rw [hln0]; exact h1n
  refine va_bald hx hb hcs.1 hP k 1 ((wsO_get E g hk72).trans (by rw [ent_ints hk (by omega) (by omega)])) rfl (zi_in h0 h1 (by omega)) hd ?_
  rw [zi_clamp h0 (by omega), hj]
  exact kk H locs rl hP hS hl
theorem k_iast (hX : Xk E M X) {k : Nat} {i x : Int} (j : Nat) (hd : decode M.2.1 pc = .ok (.iastore, 1)) (hk : sk k = 10) (h0 : 0 ≤ i) {n : Nat} (hln0 : ln k = n) (h1n : i < (n : Int)) (hj : i.toNat = j) (kk : V E X (pc + 1) ls st (wr g k j x)) : V E X pc ls (vI x :: vI i :: vR k :: st) g := by
  obtain ⟨p, e, R, s, m, args, below, meth, c, cells, slots, Q, A0⟩ := X
  obtain ⟨hx, hb, hml, hown, hts, hcs, hAA, hfr, hlo, hce, hsl⟩ := id hX
  intro H locs rl hP hS hl
  have hk72 : k < 72 := sk_lt hk (by omega)
  have hln := ln_le k
  have h1 : i < (ln k : Int) := by rw [hln0]; exact h1n
  refine va_iast hx hb hcs.1 hP (wsO_D hcs.2.1 g hAA) hS k 0 ((wsO_get E g hk72).trans (by rw [ent_ints hk (by omega) (by omega)])) rfl (zi_in h0 h1 (by omega)) hd (fun H1 locs1 hP1 _ hS1 => ?_)
  rw [zi_clamp h0 (by omega), hj] at hP1
  rw [wsO_set (g' := wr g k j x) hk72 ?_ (wr_o E g k j x)] at hP1
  · exact kk H1 locs1 rl hP1 hS1 hl
  · rw [ent_ints hk (by omega) (by omega)]
    congr 4
    funext b
    by_cases hb' : b = j <;> simp [wr, upd, hb']
theorem k_bast (hX : Xk E M X) {k : Nat} {i x : Int} (j : Nat) (hd : decode M.2.1 pc = .ok (.bastore, 1)) (hk : sk k = 11) (h0 : 0 ≤ i) {n : Nat} (hln0 : ln k = n) (h1n : i < (n : Int)) (hj : i.toNat = j) (hx0 : -128 ≤ x ∧ x < 128) (kk : V E X (pc + 1) ls st (wr g k j x)) : V E X pc ls (vI x :: vI i :: vR k :: st) g := by
  obtain ⟨p, e, R, s, m, args, below, meth, c, cells, slots, Q, A0⟩ := X
  obtain ⟨hx, hb, hml, hown, hts, hcs, hAA, hfr, hlo, hce, hsl⟩ := id hX
  intro H locs rl hP hS hl
  have hk72 : k < 72 := sk_lt hk (by omega)
  have hln := ln_le k
  have h1 : i < (ln k : Int) := by rw [hln0]; exact h1n
  refine va_bast hx hb hcs.1 hP (wsO_D hcs.2.1 g hAA) hS k 1 ((wsO_get E g hk72).trans (by rw [ent_ints hk (by omega) (by omega)])) rfl (zi_in h0 h1 (by omega)) hd (fun H1 locs1 hP1 _ hS1 => ?_)
  rw [zi_clamp h0 (by omega), hj, vp_nar_byte, zi_b hx0] at hP1
  rw [wsO_set (g' := wr g k j x) hk72 ?_ (wr_o E g k j x)] at hP1
  · exact kk H1 locs1 rl hP1 hS1 hl
  · rw [ent_ints hk (by omega) (by omega)]
    congr 4
    funext b
    by_cases hb' : b = j <;> simp [wr, upd, hb']
theorem k_aaldL (hX : Xk E M X) {k q : Nat} {i : Int} (j : Nat) (hd : decode M.2.1 pc = .ok (.aaload, 1)) (hk : sk k = 12) (h0 : 0 ≤ i) {n : Nat} (hln0 : ln k = n) (h1n : i < (n : Int)) (hj : i.toNat = j) (hq : ra k + j = q) (kk : V E X (pc + 1) ls (vR q :: st) g) : V E X pc ls (vI i :: vR k :: st) g := by
  obtain ⟨p, e, R, s, m, args, below, meth, c, cells, slots, Q, A0⟩ := X
  obtain ⟨hx, hb, hml, hown, hts, hcs, hAA, hfr, hlo, hce, hsl⟩ := id hX
  intro H locs rl hP hS hl
  have hk72 : k < 72 := sk_lt hk (by omega)
  have hln := ln_le k
  have h1 : i < (ln k : Int) := by rw [hln0]; exact h1n
  refine va_aldq (C := RX2) hx hb hcs.1 hP k 2 ((wsO_get E g hk72).trans (by rw [ent_refs hk (by omega)])) rfl (zi_in h0 h1 (by omega)) hd ?_
  rw [zi_clamp h0 (by omega), hj, hq]
  exact kk H locs rl hP hS hl
theorem k_aaldP (hX : Xk E M X) {k q : Nat} {i : Int} (j : Nat) (hd : decode M.2.1 pc = .ok (.aaload, 1)) (hk : sk k = 13) (h0 : 0 ≤ i) {n : Nat} (hln0 : ln k = n) (h1n : i < (n : Int)) (hj : i.toNat = j) (hq : ra k + j = q) (kk : V E X (pc + 1) ls (vR q :: st) g) : V E X pc ls (vI i :: vR k :: st) g := by
  obtain ⟨p, e, R, s, m, args, below, meth, c, cells, slots, Q, A0⟩ := X
  obtain ⟨hx, hb, hml, hown, hts, hcs, hAA, hfr, hlo, hce, hsl⟩ := id hX
  intro H locs rl hP hS hl
  have hk72 : k < 72 := sk_lt hk (by omega)
  have hln := ln_le k
  have h1 : i < (ln k : Int) := by rw [hln0]; exact h1n
  refine va_aldq (C := RX4) hx hb hcs.1 hP k 3 ((wsO_get E g hk72).trans (by rw [ent_refs hk (by omega)])) rfl (zi_in h0 h1 (by omega)) hd ?_
  rw [zi_clamp h0 (by omega), hj, hq]
  exact kk H locs rl hP hS hl
theorem k_aaldI (hX : Xk E M X) {k q : Nat} {i : Int} (j : Nat) (hd : decode M.2.1 pc = .ok (.aaload, 1)) (hk : sk k = 14) (h0 : 0 ≤ i) {n : Nat} (hln0 : ln k = n) (h1n : i < (n : Int)) (hj : i.toNat = j) (hq : ra k + j = q) (kk : V E X (pc + 1) ls (vR q :: st) g) : V E X pc ls (vI i :: vR k :: st) g := by
  obtain ⟨p, e, R, s, m, args, below, meth, c, cells, slots, Q, A0⟩ := X
  obtain ⟨hx, hb, hml, hown, hts, hcs, hAA, hfr, hlo, hce, hsl⟩ := id hX
  intro H locs rl hP hS hl
  have hk72 : k < 72 := sk_lt hk (by omega)
  have hln := ln_le k
  have h1 : i < (ln k : Int) := by rw [hln0]; exact h1n
  have hin := zi_in h0 h1 (by omega)
  have hlt : (zi i).toNatClampNeg < ln k := Nat.not_le.mp fun q => hin (Or.inr q)
  have hcell : H[ea E k]? = some (arrV (ey E 14) (ln k) (fun j => va_rf (some (ea E (ra k + j))))) := hP k (ea E k, .inl (ey E 14, ln k, .inr (.inr (.inr (.inr (fun j => some (ea E (ra k + j)))))))) ((wsO_get E g hk72).trans (by rw [ent_refs hk (by omega)]))
  refine W.aald (v := .ref (ea E q)) (ty := .array .int) hx hb hcell ((hcs.1.2 4 _ rfl).1 (ln k) _) rfl (fun q => by cases q) (by rw [arrV_size]; exact hin) ?_ rfl rfl hd (kk H locs rl hP hS hl)
  rw [arrV_read _ _ hlt, zi_clamp h0 (by omega), hj, hq]
  rfl
theorem k_alen (hX : Xk E M X) {k t : Nat} (hd : decode M.2.1 pc = .ok (.arraylength, 1)) (hk : sk k = t) (ht : t = 10 ∨ t = 12 ∨ t = 13) {z : Int} (hz : (ln k : Int) = z) (kk : V E X (pc + 1) ls (vI z :: st) g) : V E X pc ls (vR k :: st) g := by
  obtain ⟨p, e, R, s, m, args, below, meth, c, cells, slots, Q, A0⟩ := X
  obtain ⟨hx, hb, hml, hown, hts, hcs, hAA, hfr, hlo, hce, hsl⟩ := id hX
  intro H locs rl hP hS hl
  subst hz
  have hk72 : k < 72 := sk_lt hk (by omega)
  have hw : W p (eL E) e R s m args below meth c H locs cells slots Q (F0 m (pc + 1) rl (.int (Int32.ofNat (ln k)) :: st.map (tv E))) := by
    rw [← zi_nat]
    exact kk H locs rl hP hS hl
  rcases ht with rfl | rfl | rfl
  · exact va_alen hx hb hcs.1 hP k 0 ((wsO_get E g hk72).trans (by rw [ent_ints hk (by omega) (by omega)])) rfl rfl hd hw
  · exact va_alen hx hb hcs.1 hP k 2 ((wsO_get E g hk72).trans (by rw [ent_refs hk (by omega)])) rfl rfl hd hw
  · exact va_alen hx hb hcs.1 hP k 3 ((wsO_get E g hk72).trans (by rw [ent_refs hk (by omega)])) rfl rfl hd hw
theorem k_clen (hX : Xk E M X) (hd : decode M.2.1 pc = .ok (.arraylength, 1)) (kk : V E X (pc + 1) ls (vI 5 :: st) g) : V E X pc ls (vR 900 :: st) g := by
  obtain ⟨p, e, R, s, m, args, below, meth, c, cells, slots, Q, A0⟩ := X
  obtain ⟨hx, hb, hml, hown, hts, hcs, hAA, hfr, hlo, hce, hsl⟩ := id hX
  intro H locs rl hP hS hl
  exact va_tlen (t := ea E 900) hx hb (hT := by
    obtain ⟨-, -, -, h4, -⟩ := hcs
    exact h4) (A := A0) hS (v := zi 5) rfl hd (kk H locs rl hP hS hl)
theorem k_cld (hX : Xk E M X) {i : Int} (j : Nat) (hd : decode M.2.1 pc = .ok (.iaload, 1)) (h0 : 0 ≤ i) (h1 : i < 5) (hj : i.toNat = j) (kk : V E X (pc + 1) ls (vI (lgt j) :: st) g) : V E X pc ls (vI i :: vR 900 :: st) g := by
  obtain ⟨p, e, R, s, m, args, below, meth, c, cells, slots, Q, A0⟩ := X
  obtain ⟨hx, hb, hml, hown, hts, hcs, hAA, hfr, hlo, hce, hsl⟩ := id hX
  intro H locs rl hP hS hl
  refine va_ti (A := A0) hx hb (hcs.2.2.2.1) hS (zi_in h0 h1 (by omega)) (v := .int (zi (lgt j))) ?_ hd (kk H locs rl hP hS hl)
  rw [zi_clamp h0 (by omega), hj]
theorem k_gsL (hX : Xk E M X) {i : Nat} (hd : decode M.2.1 pc = .ok (.getstatic i, 3)) (hf : Cond.fieldLink M.1.cls i "DyeLots" "LIGHTS" "[I" ∈ TB) (kk : V E X (pc + 3) ls (vR 900 :: st) g) : V E X pc ls st g := by
  obtain ⟨p, e, R, s, m, args, below, meth, c, cells, slots, Q, A0⟩ := X
  obtain ⟨hx, hb, hml, hown, hts, hcs, hAA, hfr, hlo, hce, hsl⟩ := id hX
  intro H locs rl hP hS hl
  exact va_gets (A := A0) hx hb hcs.2.2.1 hS hown (hts _ hf) (fun _ h => h) hd (kk H locs rl hP hS hl)
theorem k_gsLN (hX : Xk E M X) {i : Nat} {host : String} (hd : decode M.2.1 pc = .ok (.getstatic i, 3)) (hf : Cond.fieldLinkNest M.1.cls i "DyeLots" "LIGHTS" "[I" host ∈ nestW) (kk : V E X (pc + 3) ls (vR 900 :: st) g) : V E X pc ls st g := by
  obtain ⟨p, e, R, s, m, args, below, meth, c, cells, slots, Q, A0⟩ := X
  obtain ⟨hx, hb, hml, hown, hts, hcs, hAA, hfr, hlo, hce, hsl⟩ := id hX
  intro H locs rl hP hS hl
  exact va_getsN (A := A0) hx hb hcs.2.2.1 hS hown (va_Nw.use rfl (hcs.2.2.2.2.2.2.2.2 _ hf)) (fun _ h => h) hd (kk H locs rl hP hS hl)
theorem k_ldcs (hX : Xk E M X) {i : Nat} (hd : decode M.2.1 pc = .ok (.ldc i, 2)) (hf : (M.1.cls = "DyeLots$Page" ∧ i = 23) ∨ (M.1.cls = "DyeLots$Work" ∧ i = 43)) (kk : V E X (pc + 2) ls (vR 901 :: st) g) : V E X pc ls st g := by
  obtain ⟨p, e, R, s, m, args, below, meth, c, cells, slots, Q, A0⟩ := X
  obtain ⟨hx, hb, hml, hown, hts, hcs, hAA, hfr, hlo, hce, hsl⟩ := id hX
  intro H locs rl hP hS hl
  obtain ⟨-, -, -, -, -, -, h7, h8, -⟩ := hcs
  rcases hf with ⟨h1, rfl⟩ | ⟨h1, rfl⟩
  · exact va_ldcS (own := M.1.cls) hx hb hown (by rw [h1]; exact h7) hd (kk H locs rl hP hS hl)
  · exact va_ldcS (own := M.1.cls) hx hb hown (by rw [h1]; exact h8) hd (kk H locs rl hP hS hl)
theorem k_csS (hX : Xk E M X) {i : Nat} (hd : decode M.2.1 pc = .ok (.getstatic i, 3)) (hf : Cond.fieldLink M.1.cls i "java/lang/String" "COMPACT_STRINGS" "Z" ∈ TB) (kk : V E X (pc + 3) ls (vI 1 :: st) g) : V E X pc ls st g := by
  obtain ⟨p, e, R, s, m, args, below, meth, c, cells, slots, Q, A0⟩ := X
  obtain ⟨hx, hb, hml, hown, hts, hcs, hAA, hfr, hlo, hce, hsl⟩ := id hX
  intro H locs rl hP hS hl
  exact va_gets (A := A0) hx hb hcs.2.2.2.2.1 hS hown (hts _ hf) (fun _ h => h) hd (kk H locs rl hP hS hl)
theorem k_cod (hX : Xk E M X) {i : Nat} (hd : decode M.2.1 pc = .ok (.getfield i, 3)) (hf : Cond.fieldLink M.1.cls i "java/lang/String" "coder" "B" ∈ TB) (kk : V E X (pc + 3) ls (vI 0 :: st) g) : V E X pc ls (vR 901 :: st) g := by
  obtain ⟨p, e, R, s, m, args, below, meth, c, cells, slots, Q, A0⟩ := X
  obtain ⟨hx, hb, hml, hown, hts, hcs, hAA, hfr, hlo, hce, hsl⟩ := id hX
  intro H locs rl hP hS hl
  exact vk_getf (A := A0) hx hb (hcs.2.2.2.2.2.1.1 0 (by decide)).2.1 hS hown (hts _ hf) (fun _ h => h) hd (kk H locs rl hP hS hl)
theorem k_val (hX : Xk E M X) {i : Nat} (hd : decode M.2.1 pc = .ok (.getfield i, 3)) (hf : Cond.fieldLink M.1.cls i "java/lang/String" "value" "[B" ∈ TB) (kk : V E X (pc + 3) ls (vR 902 :: st) g) : V E X pc ls (vR 901 :: st) g := by
  obtain ⟨p, e, R, s, m, args, below, meth, c, cells, slots, Q, A0⟩ := X
  obtain ⟨hx, hb, hml, hown, hts, hcs, hAA, hfr, hlo, hce, hsl⟩ := id hX
  intro H locs rl hP hS hl
  exact vk_getf (A := A0) hx hb (hcs.2.2.2.2.2.1.1 0 (by decide)).2.2.1 hS hown (hts _ hf) (fun _ h => h) hd (kk H locs rl hP hS hl)
theorem k_vlen (hX : Xk E M X) (hd : decode M.2.1 pc = .ok (.arraylength, 1)) (kk : V E X (pc + 1) ls (vI 5 :: st) g) : V E X pc ls (vR 902 :: st) g := by
  obtain ⟨p, e, R, s, m, args, below, meth, c, cells, slots, Q, A0⟩ := X
  obtain ⟨hx, hb, hml, hown, hts, hcs, hAA, hfr, hlo, hce, hsl⟩ := id hX
  intro H locs rl hP hS hl
  exact va_tlen (t := ea E 902) (A := A0) hx hb (hcs.2.2.2.2.2.1.1 0 (by decide)).2.2.2 hS (v := zi 5) rfl hd (kk H locs rl hP hS hl)
theorem k_vld (hX : Xk E M X) {i : Int} (j : Nat) (hd : decode M.2.1 pc = .ok (.baload, 1)) (h0 : 0 ≤ i) (h1 : i < 5) (hj : i.toNat = j) (kk : V E X (pc + 1) ls (vI (pbs j) :: st) g) : V E X pc ls (vI i :: vR 902 :: st) g := by
  obtain ⟨p, e, R, s, m, args, below, meth, c, cells, slots, Q, A0⟩ := X
  obtain ⟨hx, hb, hml, hown, hts, hcs, hAA, hfr, hlo, hce, hsl⟩ := id hX
  intro H locs rl hP hS hl
  refine va_tb (t := ea E 902) (A := A0) hx hb (hcs.2.2.2.2.2.1.1 0 (by decide)).2.2.2 hS (zi_in h0 h1 (by decide)) (v := .int (zi (pbs j))) ?_ hd (kk H locs rl hP hS hl)
  rw [zi_clamp h0 (by omega), hj]
  have hj5 : j < 5 := by omega
  have : ∀ j, j < 5 → (([[112, 98, 115, 99, 104]] : List (List Int32)).getD 0 []).getD j 0 = zi (pbs j) := by decide +kernel
  exact congrArg Value.int (this j hj5)
theorem rest_le {st : List mv} (h : 2 * st.length ≤ 8) : ((st.map (tv E)).map fun v => v.category).sum ≤ 8 := by
  have h1 : ∀ l : List mv, ((l.map (tv E)).map fun v => v.category).sum ≤ 2 * l.length := by
    intro l
    induction l with
    | nil => simp
    | cons a l ih =>
      have h2 : (tv E a).category ≤ 2 := by rcases lv_cat (tv E a) with h | h <;> omega
      simp only [List.map_cons, List.sum_cons, List.length_cons]
      omega
  exact Nat.le_trans (h1 st) h
/-- the words that a stack takes -/
def scat : List mv → Nat
  | [] => 0
  | .inr (.inl _) :: l => scat l + 2
  | _ :: l => scat l + 1
theorem scat_eq (E : En) : ∀ st : List mv, ((st.map (tv E)).map fun v => v.category).sum = scat st
  | [] => rfl
  | .inl z :: l => by
    rw [List.map_cons, List.map_cons, List.sum_cons, scat_eq E l]
    show 1 + scat l = scat l + 1
    omega
  | .inr (.inl x) :: l => by
    rw [List.map_cons, List.map_cons, List.sum_cons, scat_eq E l]
    show 2 + scat l = scat l + 2
    omega
  | .inr (.inr k) :: l => by
    rw [List.map_cons, List.map_cons, List.sum_cons, scat_eq E l]
    show 1 + scat l = scat l + 1
    omega
theorem k_max (hX : Xk E M X) {i : Nat} {a b : Int} (hd : decode M.2.1 pc = .ok (.invokestatic i, 3)) (hf : Cond.methodLink M.1.cls i Lib.Math.max.name ∈ TB) (ha : bd a) (hb0 : bd b) (hr : scat st ≤ 8) (kk : V E X (pc + 3) ls (vI (max a b) :: st) g) : V E X pc ls (vI b :: vI a :: st) g := by
  obtain ⟨p, e, R, s, m, args, below, meth, c, cells, slots, Q, A0⟩ := X
  obtain ⟨hx, hb, hml, hown, hts, hcs, hAA, hfr, hlo, hce, hsl⟩ := id hX
  intro H locs rl hP hS hl
  refine va_mmax hx hb hl.1.symm hown (hts _ hf) (hts _ tw_max_s) (hts _ tw_math) (hts _ tw_max_c) hfr (by rw [scat_eq]; omega) hce hsl hd ?_
  have he : (if zi a < zi b then zi b else zi a) = zi (max a b) := by
    by_cases h : a < b
    · rw [if_pos ((zi_lt ha hb0).mpr h)]; congr 1; omega
    · rw [if_neg (fun q => h ((zi_lt ha hb0).mp q))]; congr 1; omega
  rw [he]
  exact kk H locs rl hP hS hl
theorem k_min (hX : Xk E M X) {i : Nat} {a b : Int} (hd : decode M.2.1 pc = .ok (.invokestatic i, 3)) (hf : Cond.methodLink M.1.cls i Lib.Math.min.name ∈ TB) (ha : bd a) (hb0 : bd b) (hr : scat st ≤ 8) (kk : V E X (pc + 3) ls (vI (min a b) :: st) g) : V E X pc ls (vI b :: vI a :: st) g := by
  obtain ⟨p, e, R, s, m, args, below, meth, c, cells, slots, Q, A0⟩ := X
  obtain ⟨hx, hb, hml, hown, hts, hcs, hAA, hfr, hlo, hce, hsl⟩ := id hX
  intro H locs rl hP hS hl
  refine va_mmin hx hb hl.1.symm hown (hts _ hf) (hts _ tw_min_s) (hts _ tw_math) (hts _ tw_min_c) hfr (by rw [scat_eq]; omega) hce hsl hd ?_
  have he : (if zi b < zi a then zi b else zi a) = zi (min a b) := by
    by_cases h : b < a
    · rw [if_pos ((zi_lt hb0 ha).mpr h)]; congr 1; omega
    · rw [if_neg (fun q => h ((zi_lt hb0 ha).mp q))]; congr 1; omega
  rw [he]
  exact kk H locs rl hP hS hl
theorem k_abs (hX : Xk E M X) {i : Nat} {a : Int} (hd : decode M.2.1 pc = .ok (.invokestatic i, 3)) (hf : Cond.methodLink M.1.cls i Lib.Math.abs.name ∈ TB) (ha : bd a) (hr : scat st ≤ 8) (kk : V E X (pc + 3) ls (vI (a.natAbs : Int) :: st) g) : V E X pc ls (vI a :: st) g := by
  obtain ⟨p, e, R, s, m, args, below, meth, c, cells, slots, Q, A0⟩ := X
  obtain ⟨hx, hb, hml, hown, hts, hcs, hAA, hfr, hlo, hce, hsl⟩ := id hX
  intro H locs rl hP hS hl
  refine va_mabs hx hb hl.1.symm hown (hts _ hf) (hts _ tw_abs_s) (hts _ tw_math) (hts _ tw_abs_c) hfr (by rw [scat_eq]; omega) hce hsl hd ?_
  have he : (if 0 ≤ zi a then zi a else 0 - zi a) = zi (a.natAbs : Int) := by
    have h0 : bd 0 := by decide
    have h1 := zi_le h0 ha
    rw [zi_0] at h1
    by_cases h : 0 ≤ a
    · rw [if_pos (h1.mpr h)]; congr 1; omega
    · rw [if_neg (fun q => h (h1.mp q)), ← zi_0, zi_sub]; congr 1; omega
  rw [he]
  exact kk H locs rl hP hS hl
theorem k_acopy (hX : Xk E M X) {i : Nat} (hd : decode M.2.1 pc = .ok (.invokestatic i, 3)) (hf : Cond.methodLink M.1.cls i arraycopyName ∈ TB) (hr : scat st ≤ 8) (kk : V E X (pc + 3) ls st (fun a b => if a = 27 ∧ b < 5 then g.1 26 b else g.1 a b, g.2)) : V E X pc ls (vI 5 :: vI 0 :: vR 27 :: vI 0 :: vR 26 :: st) g := by
  obtain ⟨p, e, R, s, m, args, below, meth, c, cells, slots, Q, A0⟩ := X
  obtain ⟨hx, hb, hml, hown, hts, hcs, hAA, hfr, hlo, hce, hsl⟩ := id hX
  intro H locs rl hP hS hl
  have z0 : (zi 0).toNatClampNeg = 0 := by decide
  have z5 : (zi 5).toNatClampNeg = 5 := by decide
  refine va_copyi (ty := .int) hx hb hl.1.symm hown (hts _ hf) (hts _ tw_ac_n) (hts _ tw_ac_s) (hts _ tw_ac_i) hcs.1 hP (wsO_D hcs.2.1 g hAA) hS 26 27 0 0 ((wsO_get E g (by decide)).trans (by rw [ent_ints (k := 26) (t := 10) rfl (by decide) (by decide)])) ((wsO_get E g (by decide)).trans (by rw [ent_ints (k := 27) (t := 10) rfl (by decide) (by decide)])) rfl rfl rfl (by decide) (by decide) (by decide) (by rw [z0, z5]; decide) (by rw [z0, z5]; decide) (fun _ _ => rfl) hfr ?_ hd (fun H1 locs1 hP1 _ hS1 => ?_)
  · rw [scat_eq]
    have : nativeFrameWords "java/lang/System" "arraycopy" 5 + 11 ≤ 50 := by decide +kernel
    omega
  · rw [z0, z5] at hP1
    rw [wsO_set (E := E) (g := g) (k := 27) (g' := (fun a b => if a = 27 ∧ b < 5 then g.1 26 b else g.1 a b, g.2)) (by decide) ?_ (fun a ha => ent_ne (by funext b; simp [ha]) rfl)] at hP1
    · exact kk H1 locs1 rl hP1 hS1 hl
    · rw [ent_ints (k := 27) (t := 10) rfl (by decide) (by decide)]
      congr 4
      funext b
      by_cases hb' : b < 5 <;> simp [va_cpy, hb']
theorem k_iret {d : Nat} {post : Option mv → Mm → Prop} (hX : Wk E M X d post) {z : Int} (hd : decode M.2.1 pc = .ok (.ireturn, 1)) (hr : M.2.2.2 = some .int) (hp : post (some (vI z)) g) : V E X pc ls [vI z] g := by
  obtain ⟨p, e, R, s, m, args, below, meth, c, cells, slots, Q, A0⟩ := X
  obtain ⟨⟨hx, hb, hml, hown, hts, hcs, hAA, hfr, hlo, hce, hsl⟩, ⟨rfl, hlocks, rfl⟩, hrt, -⟩ := id hX
  intro H locs rl hP hS hl
  exact W.iret hx hb (hrt.trans hr) (fun t ht hw => ⟨⟨some (vI z), g, rfl, hp, by rw [ht]; exact hP⟩, hS.F ht⟩) hS.2.2 hd hlocks
theorem k_zret {d : Nat} {post : Option mv → Mm → Prop} (hX : Wk E M X d post) {z : Int} (hd : decode M.2.1 pc = .ok (.ireturn, 1)) (hr : M.2.2.2 = some .boolean) (hz : z = 0 ∨ z = 1) (hp : post (some (vI z)) g) : V E X pc ls [vI z] g := by
  obtain ⟨p, e, R, s, m, args, below, meth, c, cells, slots, Q, A0⟩ := X
  obtain ⟨⟨hx, hb, hml, hown, hts, hcs, hAA, hfr, hlo, hce, hsl⟩, ⟨rfl, hlocks, rfl⟩, hrt, -⟩ := id hX
  intro H locs rl hP hS hl
  exact W.zret hx hb (hrt.trans hr) (by rcases hz with rfl | rfl <;> decide +kernel) (fun t ht hw => ⟨⟨some (vI z), g, rfl, hp, by rw [ht]; exact hP⟩, hS.F ht⟩) hS.2.2 hd hlocks
theorem k_lret {d : Nat} {post : Option mv → Mm → Prop} (hX : Wk E M X d post) {z : Int64} (hd : decode M.2.1 pc = .ok (.lreturn, 1)) (hr : M.2.2.2 = some .long) (hp : post (some (vL z)) g) : V E X pc ls [vL z] g := by
  obtain ⟨p, e, R, s, m, args, below, meth, c, cells, slots, Q, A0⟩ := X
  obtain ⟨⟨hx, hb, hml, hown, hts, hcs, hAA, hfr, hlo, hce, hsl⟩, ⟨rfl, hlocks, rfl⟩, hrt, -⟩ := id hX
  intro H locs rl hP hS hl
  exact W.lret hx hb (hrt.trans hr) (fun t ht hw => ⟨⟨some (vL z), g, rfl, hp, by rw [ht]; exact hP⟩, hS.F ht⟩) hS.2.2 hd hlocks
theorem k_vret {d : Nat} {post : Option mv → Mm → Prop} (hX : Wk E M X d post) (hd : decode M.2.1 pc = .ok (.return_, 1)) (hr : M.2.2.2 = none) (hp : post none g) : V E X pc ls [] g := by
  obtain ⟨p, e, R, s, m, args, below, meth, c, cells, slots, Q, A0⟩ := X
  obtain ⟨⟨hx, hb, hml, hown, hts, hcs, hAA, hfr, hlo, hce, hsl⟩, ⟨rfl, hlocks, rfl⟩, hrt, -⟩ := id hX
  intro H locs rl hP hS hl
  exact W.vret hx hb (hrt.trans hr) (fun t ht hw => ⟨⟨none, g, rfl, hp, by rw [ht]; exact hP⟩, hS.F ht⟩) hS.2.2 hd hlocks
theorem Pq_blind (E : En) (as : List mv) (g : Mm) : FrameBlind (Pq E as g) := fun a U fr mk h => ⟨h.1, h.2.1, h.2.2.blind rfl rfl⟩
/-- what of a call goes on -/
theorem k_run {p : Program} {e : Env} {R : Room} {s : State} {m : MethodId} {args : Array Value} {below : List Frame} {meth : Method} {c : Code} {cells slots : Nat} {Q : State → Prop} {A0 : Nat → Prop} {H : Heap} {locs : List Loc} {rl : Array Slot} {st0 rest : List mv} {a : Array Value} {post : Option mv → Mm → Prop}
    (hr : va_Run p (eL E) e R s m args below meth c H locs cells slots 0 0 (F0 m pc rl (st0.map (tv E))) (rest.map (tv E)) (Qq E post a) (wA E)) (hS : va_S A0 s.heap H locs) (hAA : ∀ q, wA E q → A0 q) (hl : lv_has rl c.maxLocals (asc E 0 ls))
    (kk : ∀ (r : Option mv) (g' : Mm), post r g' → V E (p, e, R, s, m, args, below, meth, c, cells, slots, Q, A0) (pc + 3) ls (r.toList ++ rest) g') : W p (eL E) e R s m args below meth c H locs cells slots Q (F0 m pc rl (st0.map (tv E))) := by
  intro T hT X
  obtain ⟨v, st₀, t, T', L, h0, X', hL, e1, e2, ⟨⟨r, g', hv, hp, hP'⟩, hz, hk⟩, stp⟩ := hr T hT X
  rw [h0] at hz hk
  have hv2 : v = r.map (tv E) := Outcome.returned.inj hv
  subst hv2
  obtain ⟨t2, a1, b1⟩ := kk r g' hp T'.heap (locs ++ L) rl (by rw [e1]; exact hP')
    ⟨Nat.le_trans hS.1 (by rw [e1]; exact hz), fun q h1 h2 => by rw [e1, hk q (Nat.lt_of_lt_of_le h1 hS.1) (fun z => h2 (hAA q z))]; exact hS.2.1 q h1 h2, fun q hq => by
      rcases List.mem_append.mp hq with h | h
      · exact hS.2.2 q h
      · exact hAA _ (hL q h)⟩ hl T' rfl X'
  refine ⟨t2, stp t2 ?_, b1⟩
  cases r with
  | none => exact a1
  | some w => exact a1
theorem cs_call {A0 : Nat → Prop} {s : State} {H : Heap} {locs : List Loc} (hcs : cs E A0 s) (hAA : ∀ q, wA E q → A0 q) (hS : va_S A0 s.heap H locs) (hP : va_P (eD E) vwCl (wsO E g) H) (as : List mv) : ∀ U : State, U.heap = H → s.WarmedH U.vm → Pq E as g (as.map (tv E)).toArray U :=
  fun U hU hW => ⟨rfl, by rw [hU]; exact hP, hcs.go hW (fun a h1 h2 => by rw [hU]; exact hS.2.1 a h1 h2) hAA⟩
def fitR (d2 : Nat) (M2 : Mt) (X : Cx) : Prop := d2 + 1 ≤ X.2.2.1.frames ∧ 8 + (M2.2.2.1 + 11) + 64 * d2 ≤ X.2.2.1.locals
theorem fit_of {d d2 : Nat} {M2 : Mt} {post : Option mv → Mm → Prop} (hX : Wk E M X d post) (h : d2 < d) (hM : MG M2) : fitR d2 M2 X := by
  have h1 := hM.2.2.2.2
  unfold fitR
  rw [hX.2.2.2]
  show d2 + 1 ≤ d ∧ 8 + (M2.2.2.1 + 11) + 64 * d2 ≤ 64 * d
  omega
theorem good_all (M2 : Mt) (h : mcode M2 ∈ TB) : GoodIn TB (mcode M2 :: TB) := fun w hw => by
  rcases List.mem_cons.mp hw with rfl | hw
  · exact ⟨h, good_of_word (TB_good _ h)⟩
  · exact ⟨hw, good_of_word (TB_good _ hw)⟩
theorem k_callV (hX : Xk E M X) {i n d2 k ci : Nat} {M2 : Mt} {as rest st0 : List mv} {q : Option mv → Mm → Prop} {C : vw_C} (hd : decode M.2.1 pc = .ok (.invokevirtual i, 3)) (hlk : LkV M.1.cls i M2 n) (hfit : fitR d2 M2 X) (hn : as.length = n) (hk : sk k = ci) (hc : ci < 9) (hC : vwCl[ci]? = some C) (hC2 : C.1 = M2.1.cls) (hst : as.reverse ++ vR k :: rest = st0) (hr : scat rest ≤ 8) (hok : Ok E d2 M2 (vR k :: as) g q) (kk : ∀ (r : Option mv) (g' : Mm), q r g' → V E X (pc + 3) ls (r.toList ++ rest) g') : V E X pc ls st0 g := by
  obtain ⟨p, e, R, s, m, args, below, meth, c, cells, slots, Q, A0⟩ := X
  obtain ⟨hx, hb, hml, hown, hts, hcs, hAA, hfr, hlo, hce, hsl⟩ := id hX
  intro H locs rl hP hS hl
  subst hst
  have hk72 : k < 72 := sk_lt hk (by omega)
  obtain ⟨l1, l2, l3, l4, hpl, hco, hini, hne, -⟩ := hlk
  refine k_run (va_runV (As := as.map (tv E)) (b := ea E k) (C := M2.1.cls) (n := n) (bytes := M2.2.1) (maxL := M2.2.2.1) (ret := M2.2.2.2) ⟨hx, hb, hml, hown, hts⟩ hok ⟨callB_of n hts (good_all M2 hco) rfl rfl rfl (hts _ hini) (hts _ l1) ⟨hne.1, hne.2, l4⟩ hfit, hts _ l2, hts _ l3⟩ ⟨Pq_blind E _ _, ?_, cs_call hcs hAA hS hP (vR k :: as)⟩ rfl (by simpa using hn) (hl.1.trans hml) ?_ ?_ hd ⟨hce, hsl⟩) hS hAA hl kk
  · rw [← hC2]
    exact va_recv hcs.1 hP (q0 := k) hC ((wsO_get E g hk72).trans (by rw [ent_obj hk hc]))
  · simp [tv]
  · show 2 * 0 + _ ≤ 8
    rw [scat_eq]; omega
theorem k_callS (hX : Xk E M X) {i n d2 : Nat} {M2 : Mt} {as rest st0 : List mv} {q : Option mv → Mm → Prop} (hd : decode M.2.1 pc = .ok (.invokestatic i, 3)) (hlk : LkS M.1.cls i M2 n) (hfit : fitR d2 M2 X) (hn : as.length = n) (hst : as.reverse ++ rest = st0) (hr : scat rest ≤ 8) (hok : Ok E d2 M2 as g q) (kk : ∀ (r : Option mv) (g' : Mm), q r g' → V E X (pc + 3) ls (r.toList ++ rest) g') : V E X pc ls st0 g := by
  obtain ⟨p, e, R, s, m, args, below, meth, c, cells, slots, Q, A0⟩ := X
  obtain ⟨hx, hb, hml, hown, hts, hcs, hAA, hfr, hlo, hce, hsl⟩ := id hX
  intro H locs rl hP hS hl
  subst hst
  obtain ⟨l1, l2, l4, hpl, hco, hini, hne, -⟩ := hlk
  refine k_run (va_runS (As := as.map (tv E)) (n := n) (bytes := M2.2.1) (maxL := M2.2.2.1) (ret := M2.2.2.2) ⟨hx, hb, hml, hown, hts⟩ hok ⟨callB_of n hts (good_all M2 hco) rfl rfl rfl (hts _ hini) (hts _ l1) ⟨hne.1, hne.2, l4⟩ hfit, hts _ l2⟩ ⟨Pq_blind E _ _, cs_call hcs hAA hS hP as⟩ rfl (by simpa using hn) (hl.1.trans hml) ?_ ?_ hd ⟨hce, hsl⟩) hS hAA hl kk
  · simp
  · show 2 * 0 + _ ≤ 8
    rw [scat_eq]; omega
theorem k_callN (hX : Xk E M X) {i n d2 : Nat} {M2 : Mt} {host : String} {as rest st0 : List mv} {q : Option mv → Mm → Prop} (hd : decode M.2.1 pc = .ok (.invokestatic i, 3)) (hlk : LkN M.1.cls i M2 host n) (hfit : fitR d2 M2 X) (hn : as.length = n) (hst : as.reverse ++ rest = st0) (hr : scat rest ≤ 8) (hok : Ok E d2 M2 as g q) (kk : ∀ (r : Option mv) (g' : Mm), q r g' → V E X (pc + 3) ls (r.toList ++ rest) g') : V E X pc ls st0 g := by
  obtain ⟨p, e, R, s, m, args, below, meth, c, cells, slots, Q, A0⟩ := X
  obtain ⟨hx, hb, hml, hown, hts, hcs, hAA, hfr, hlo, hce, hsl⟩ := id hX
  intro H locs rl hP hS hl
  subst hst
  obtain ⟨l1, l2, l4, hpl, hco, hini, hne, -⟩ := hlk
  refine k_run (va_runSN (As := as.map (tv E)) (n := n) (bytes := M2.2.1) (maxL := M2.2.2.1) (ret := M2.2.2.2) ⟨hx, hb, hml, hown, hts⟩ hok ⟨va_cnB n hts (good_all M2 hco) rfl rfl rfl (hcs.2.2.2.2.2.2.2.2 _ l1) (hts _ hini) ⟨hne.1, hne.2, l4⟩ hfit, hts _ l2, trivial⟩ ⟨Pq_blind E _ _, cs_call hcs hAA hS hP as⟩ rfl (by simpa using hn) (hl.1.trans hml) ?_ ?_ hd ⟨hce, hsl⟩) hS hAA hl kk
  · simp
  · show 2 * 0 + _ ≤ 8
    rw [scat_eq]; omega
theorem k_callT (hX : Xk E M X) {i n d2 : Nat} {M2 : Mt} {as rest st0 : List mv} {q : Option mv → Mm → Prop} (hd : decode M.2.1 pc = .ok (.invokevirtual i, 3)) (hlk : LkV M.1.cls i M2 n) (hfit : fitR d2 M2 X) (hn : as.length = n) (hC2 : M2.1.cls = "java/lang/String") (hst : as.reverse ++ vR 901 :: rest = st0) (hr : scat rest ≤ 8) (hok : Ok E d2 M2 (vR 901 :: as) g q) (kk : ∀ (r : Option mv) (g' : Mm), q r g' → V E X (pc + 3) ls (r.toList ++ rest) g') : V E X pc ls st0 g := by
  obtain ⟨p, e, R, s, m, args, below, meth, c, cells, slots, Q, A0⟩ := X
  obtain ⟨hx, hb, hml, hown, hts, hcs, hAA, hfr, hlo, hce, hsl⟩ := id hX
  intro H locs rl hP hS hl
  subst hst
  obtain ⟨l1, l2, l3, l4, hpl, hco, hini, hne, -⟩ := hlk
  refine k_run (va_runV (As := as.map (tv E)) (b := ea E 901) (C := M2.1.cls) (n := n) (bytes := M2.2.1) (maxL := M2.2.2.1) (ret := M2.2.2.2) ⟨hx, hb, hml, hown, hts⟩ hok ⟨callB_of n hts (good_all M2 hco) rfl rfl rfl (hts _ hini) (hts _ l1) ⟨hne.1, hne.2, l4⟩ hfit, hts _ l2, hts _ l3⟩ ⟨Pq_blind E _ _, ?_, cs_call hcs hAA hS hP (vR 901 :: as)⟩ rfl (by simpa using hn) (hl.1.trans hml) ?_ ?_ hd ⟨hce, hsl⟩) hS hAA hl kk
  · rw [hC2]
    exact vk_recv (i := 0) (A := A0) hcs.2.2.2.2.2.1 (by decide) hS
  · simp [tv]
  · show 2 * 0 + _ ≤ 8
    rw [scat_eq]; omega
/-- a method that answers v and changes nothing -/
abbrev Fn (E : En) (d : Nat) (M : Mt) (as : List mv) (g : Mm) (v : mv) : Prop := Ok E d M as g (fun r g' => r = some v ∧ g' = g)
/-- a method that answers nothing and leaves the memory g1 -/
abbrev Pr (E : En) (d : Nat) (M : Mt) (as : List mv) (g g1 : Mm) : Prop := Ok E d M as g (fun r g' => r = none ∧ g' = g1)
/-- a method that answers v and leaves the memory g1 -/
abbrev Fp (E : En) (d : Nat) (M : Mt) (as : List mv) (g : Mm) (v : mv) (g1 : Mm) : Prop := Ok E d M as g (fun r g' => r = some v ∧ g' = g1)
theorem k_join2 {a b : Int} (J : Nat) (P : Int → Prop) (hJ : ∀ z, P z → V E X J ls (vI z :: st) g) (h : (∀ z, P z → V E X J ls (vI z :: st) g) → V E X pc ls (vI b :: vI a :: st) g) : V E X pc ls (vI b :: vI a :: st) g := h hJ
theorem k_join1 {a : Int} (J : Nat) (P : Int → Prop) (hJ : ∀ z, P z → V E X J ls (vI z :: st) g) (h : (∀ z, P z → V E X J ls (vI z :: st) g) → V E X pc ls (vI a :: st) g) : V E X pc ls (vI a :: st) g := h hJ
theorem k_cut2 {a b : Int} (J : Nat) (hJ : V E X J ls st g) (h : V E X J ls st g → V E X pc ls (vI b :: vI a :: st) g) : V E X pc ls (vI b :: vI a :: st) g := h hJ
theorem k_cut1 {a : Int} (J : Nat) (hJ : V E X J ls st g) (h : V E X J ls st g → V E X pc ls (vI a :: st) g) : V E X pc ls (vI a :: st) g := h hJ
theorem k_callVf (hX : Xk E M X) {i n d2 : Nat} {M2 : Mt} {ci : Nat} {C : vw_C} {k : Nat} {as rest st0 : List mv} {v : mv} (hd : decode M.2.1 pc = .ok (.invokevirtual i, 3)) (hlk : LkV M.1.cls i M2 n) (hfit : fitR d2 M2 X) (hn : as.length = n) (hk : sk k = ci) (hc : ci < 9) (hC : vwCl[ci]? = some C) (hC2 : C.1 = M2.1.cls) (hst : as.reverse ++ vR k :: rest = st0) (hr : scat rest ≤ 8) (hok : Fn E d2 M2 (vR k :: as) g v) (kk : V E X (pc + 3) ls (v :: rest) g) : V E X pc ls st0 g :=
  k_callV hX hd hlk hfit hn hk hc hC hC2 hst hr hok (fun r g2 hq => by obtain ⟨rfl, rfl⟩ := hq; exact kk)
theorem k_callVp (hX : Xk E M X) {i n d2 : Nat} {M2 : Mt} {ci : Nat} {C : vw_C} {k : Nat} {as rest st0 : List mv} {g1 : Mm} (hd : decode M.2.1 pc = .ok (.invokevirtual i, 3)) (hlk : LkV M.1.cls i M2 n) (hfit : fitR d2 M2 X) (hn : as.length = n) (hk : sk k = ci) (hc : ci < 9) (hC : vwCl[ci]? = some C) (hC2 : C.1 = M2.1.cls) (hst : as.reverse ++ vR k :: rest = st0) (hr : scat rest ≤ 8) (hok : Pr E d2 M2 (vR k :: as) g g1) (kk : V E X (pc + 3) ls (rest) g1) : V E X pc ls st0 g :=
  k_callV hX hd hlk hfit hn hk hc hC hC2 hst hr hok (fun r g2 hq => by obtain ⟨rfl, rfl⟩ := hq; exact kk)
theorem k_callVq (hX : Xk E M X) {i n d2 : Nat} {M2 : Mt} {ci : Nat} {C : vw_C} {k : Nat} {as rest st0 : List mv} {v : mv} {g1 : Mm} (hd : decode M.2.1 pc = .ok (.invokevirtual i, 3)) (hlk : LkV M.1.cls i M2 n) (hfit : fitR d2 M2 X) (hn : as.length = n) (hk : sk k = ci) (hc : ci < 9) (hC : vwCl[ci]? = some C) (hC2 : C.1 = M2.1.cls) (hst : as.reverse ++ vR k :: rest = st0) (hr : scat rest ≤ 8) (hok : Fp E d2 M2 (vR k :: as) g v g1) (kk : V E X (pc + 3) ls (v :: rest) g1) : V E X pc ls st0 g :=
  k_callV hX hd hlk hfit hn hk hc hC hC2 hst hr hok (fun r g2 hq => by obtain ⟨rfl, rfl⟩ := hq; exact kk)
theorem k_callSf (hX : Xk E M X) {i n d2 : Nat} {M2 : Mt}  {as rest st0 : List mv} {v : mv} (hd : decode M.2.1 pc = .ok (.invokestatic i, 3)) (hlk : LkS M.1.cls i M2 n) (hfit : fitR d2 M2 X) (hn : as.length = n) (hst : as.reverse ++ rest = st0) (hr : scat rest ≤ 8) (hok : Fn E d2 M2 (as) g v) (kk : V E X (pc + 3) ls (v :: rest) g) : V E X pc ls st0 g :=
  k_callS hX hd hlk hfit hn hst hr hok (fun r g2 hq => by obtain ⟨rfl, rfl⟩ := hq; exact kk)
theorem k_callSp (hX : Xk E M X) {i n d2 : Nat} {M2 : Mt}  {as rest st0 : List mv} {g1 : Mm} (hd : decode M.2.1 pc = .ok (.invokestatic i, 3)) (hlk : LkS M.1.cls i M2 n) (hfit : fitR d2 M2 X) (hn : as.length = n) (hst : as.reverse ++ rest = st0) (hr : scat rest ≤ 8) (hok : Pr E d2 M2 (as) g g1) (kk : V E X (pc + 3) ls (rest) g1) : V E X pc ls st0 g :=
  k_callS hX hd hlk hfit hn hst hr hok (fun r g2 hq => by obtain ⟨rfl, rfl⟩ := hq; exact kk)
theorem k_callSq (hX : Xk E M X) {i n d2 : Nat} {M2 : Mt}  {as rest st0 : List mv} {v : mv} {g1 : Mm} (hd : decode M.2.1 pc = .ok (.invokestatic i, 3)) (hlk : LkS M.1.cls i M2 n) (hfit : fitR d2 M2 X) (hn : as.length = n) (hst : as.reverse ++ rest = st0) (hr : scat rest ≤ 8) (hok : Fp E d2 M2 (as) g v g1) (kk : V E X (pc + 3) ls (v :: rest) g1) : V E X pc ls st0 g :=
  k_callS hX hd hlk hfit hn hst hr hok (fun r g2 hq => by obtain ⟨rfl, rfl⟩ := hq; exact kk)
theorem k_callNf (hX : Xk E M X) {i n d2 : Nat} {M2 : Mt} {host : String} {as rest st0 : List mv} {v : mv} (hd : decode M.2.1 pc = .ok (.invokestatic i, 3)) (hlk : LkN M.1.cls i M2 host n) (hfit : fitR d2 M2 X) (hn : as.length = n) (hst : as.reverse ++ rest = st0) (hr : scat rest ≤ 8) (hok : Fn E d2 M2 (as) g v) (kk : V E X (pc + 3) ls (v :: rest) g) : V E X pc ls st0 g :=
  k_callN hX hd hlk hfit hn hst hr hok (fun r g2 hq => by obtain ⟨rfl, rfl⟩ := hq; exact kk)
theorem k_callNp (hX : Xk E M X) {i n d2 : Nat} {M2 : Mt} {host : String} {as rest st0 : List mv} {g1 : Mm} (hd : decode M.2.1 pc = .ok (.invokestatic i, 3)) (hlk : LkN M.1.cls i M2 host n) (hfit : fitR d2 M2 X) (hn : as.length = n) (hst : as.reverse ++ rest = st0) (hr : scat rest ≤ 8) (hok : Pr E d2 M2 (as) g g1) (kk : V E X (pc + 3) ls (rest) g1) : V E X pc ls st0 g :=
  k_callN hX hd hlk hfit hn hst hr hok (fun r g2 hq => by obtain ⟨rfl, rfl⟩ := hq; exact kk)
theorem k_callNq (hX : Xk E M X) {i n d2 : Nat} {M2 : Mt} {host : String} {as rest st0 : List mv} {v : mv} {g1 : Mm} (hd : decode M.2.1 pc = .ok (.invokestatic i, 3)) (hlk : LkN M.1.cls i M2 host n) (hfit : fitR d2 M2 X) (hn : as.length = n) (hst : as.reverse ++ rest = st0) (hr : scat rest ≤ 8) (hok : Fp E d2 M2 (as) g v g1) (kk : V E X (pc + 3) ls (v :: rest) g1) : V E X pc ls st0 g :=
  k_callN hX hd hlk hfit hn hst hr hok (fun r g2 hq => by obtain ⟨rfl, rfl⟩ := hq; exact kk)
theorem k_callTf (hX : Xk E M X) {i n d2 : Nat} {M2 : Mt}  {as rest st0 : List mv} {v : mv} (hd : decode M.2.1 pc = .ok (.invokevirtual i, 3)) (hlk : LkV M.1.cls i M2 n) (hfit : fitR d2 M2 X) (hn : as.length = n) (hC2 : M2.1.cls = "java/lang/String") (hst : as.reverse ++ vR 901 :: rest = st0) (hr : scat rest ≤ 8) (hok : Fn E d2 M2 (vR 901 :: as) g v) (kk : V E X (pc + 3) ls (v :: rest) g) : V E X pc ls st0 g :=
  k_callT hX hd hlk hfit hn hC2 hst hr hok (fun r g2 hq => by obtain ⟨rfl, rfl⟩ := hq; exact kk)
theorem k_callTp (hX : Xk E M X) {i n d2 : Nat} {M2 : Mt}  {as rest st0 : List mv} {g1 : Mm} (hd : decode M.2.1 pc = .ok (.invokevirtual i, 3)) (hlk : LkV M.1.cls i M2 n) (hfit : fitR d2 M2 X) (hn : as.length = n) (hC2 : M2.1.cls = "java/lang/String") (hst : as.reverse ++ vR 901 :: rest = st0) (hr : scat rest ≤ 8) (hok : Pr E d2 M2 (vR 901 :: as) g g1) (kk : V E X (pc + 3) ls (rest) g1) : V E X pc ls st0 g :=
  k_callT hX hd hlk hfit hn hC2 hst hr hok (fun r g2 hq => by obtain ⟨rfl, rfl⟩ := hq; exact kk)
theorem k_callTq (hX : Xk E M X) {i n d2 : Nat} {M2 : Mt}  {as rest st0 : List mv} {v : mv} {g1 : Mm} (hd : decode M.2.1 pc = .ok (.invokevirtual i, 3)) (hlk : LkV M.1.cls i M2 n) (hfit : fitR d2 M2 X) (hn : as.length = n) (hC2 : M2.1.cls = "java/lang/String") (hst : as.reverse ++ vR 901 :: rest = st0) (hr : scat rest ≤ 8) (hok : Fp E d2 M2 (vR 901 :: as) g v g1) (kk : V E X (pc + 3) ls (v :: rest) g1) : V E X pc ls st0 g :=
  k_callT hX hd hlk hfit hn hC2 hst hr hok (fun r g2 hq => by obtain ⟨rfl, rfl⟩ := hq; exact kk)
theorem sk_P6 {p : Nat} (h : p < 5) : sk (6 + p) = 4 := by
  have h1 : ∀ p, p < 5 → sk (6 + p) = 4 := by decide +kernel
  exact h1 p h
theorem sk_P17 {p : Nat} (h : p < 5) : sk (17 + p) = 4 := by
  have h1 : ∀ p, p < 5 → sk (17 + p) = 4 := by decide +kernel
  exact h1 p h
theorem sk_L11 {p : Nat} (h : p < 3) : sk (11 + p) = 2 := by
  have h1 : ∀ p, p < 3 → sk (11 + p) = 2 := by decide +kernel
  exact h1 p h
theorem sk_L22 {p : Nat} (h : p < 3) : sk (22 + p) = 2 := by
  have h1 : ∀ p, p < 3 → sk (22 + p) = 2 := by decide +kernel
  exact h1 p h
theorem sk_A33 {p : Nat} (h : p < 5) : sk (33 + p) = 10 := by
  have h1 : ∀ p, p < 5 → sk (33 + p) = 10 := by decide +kernel
  exact h1 p h
theorem ln_A33 {p : Nat} (h : p < 5) : ln (33 + p) = 6 := by
  have h1 : ∀ p, p < 5 → ln (33 + p) = 6 := by decide +kernel
  exact h1 p h
theorem sk_A39 {p : Nat} (h : p < 5) : sk (39 + p) = 10 := by
  have h1 : ∀ p, p < 5 → sk (39 + p) = 10 := by decide +kernel
  exact h1 p h
theorem ln_A39 {p : Nat} (h : p < 5) : ln (39 + p) = 6 := by
  have h1 : ∀ p, p < 5 → ln (39 + p) = 6 := by decide +kernel
  exact h1 p h
end KM
