def mmI (A : St) (p : Nat) (a b : Int) : Int := if A 7 p = -1 ∨ A 7 p = s2 A p a b then 1 else 0
theorem mmI_01 (A : St) (p : Nat) (a b : Int) : mmI A p a b = 0 ∨ mmI A p a b = 1 := by unfold mmI; split <;> omega
/-- in how many ways the parts ahead can be, if part p has tone x -/
def ahd (A : St) (T : Nat → Int) (M : Nat) : Nat → Int → Int
  | 0, _ => 1
  | p + 1, x => sm (fun o => if mmI A p (T o) x = 1 then ahd A T M p (T o) else 0) M
/-- in how many ways the r parts behind part p can be, if it has tone x -/
def bhd (A : St) (T : Nat → Int) (M : Nat) : Nat → Nat → Int → Int
  | 0, _, _ => 1
  | r + 1, p, x => sm (fun o => if mmI A p x (T o) = 1 then bhd A T M r (p + 1) (T o) else 0) M
abbrev nM_ (A : St) : Nat := (nmT (A 12 2)).toNat
theorem ahd_bd (A : St) (T : Nat → Int) {M : Nat} (hM : M ≤ 6) : ∀ (p : Nat) (x : Int), 0 ≤ ahd A T M p x ∧ ahd A T M p x ≤ 6 ^ p
  | 0, x => by simp [ahd]
  | p + 1, x => by
    have h := sm_bd (f := fun o => if mmI A p (T o) x = 1 then ahd A T M p (T o) else 0) (a := 0) (b := 6 ^ p) (n := M) (fun o _ => by
      have h1 := ahd_bd A T hM p (T o)
      split
      · exact h1
      · have : (0 : Int) ≤ 6 ^ p := Int.le_trans h1.1 h1.2
        omega)
    have h2 : (0 : Int) ≤ 6 ^ p := Int.le_trans (ahd_bd A T hM p x).1 (ahd_bd A T hM p x).2
    have h3 : (M : Int) * 6 ^ p ≤ 6 * 6 ^ p := Int.mul_le_mul_of_nonneg_right (by omega) h2
    rw [Int.pow_succ, ahd]
    omega
theorem bhd_bd (A : St) (T : Nat → Int) {M : Nat} (hM : M ≤ 6) : ∀ (r p : Nat) (x : Int), 0 ≤ bhd A T M r p x ∧ bhd A T M r p x ≤ 6 ^ r
  | 0, p, x => by simp [bhd]
  | r + 1, p, x => by
    have h := sm_bd (f := fun o => if mmI A p x (T o) = 1 then bhd A T M r (p + 1) (T o) else 0) (a := 0) (b := 6 ^ r) (n := M) (fun o _ => by
      have h1 := bhd_bd A T hM r (p + 1) (T o)
      split
      · exact h1
      · have : (0 : Int) ≤ 6 ^ r := Int.le_trans h1.1 h1.2
        omega)
    have h2 : (0 : Int) ≤ 6 ^ r := Int.le_trans (bhd_bd A T hM r p x).1 (bhd_bd A T hM r p x).2
    have h3 : (M : Int) * 6 ^ r ≤ 6 * 6 ^ r := Int.mul_le_mul_of_nonneg_right (by omega) h2
    rw [Int.pow_succ, bhd]
    omega
theorem pc_lt {n : Int} (h0 : 0 ≤ n) (h3 : n ≤ 3) {i : Nat} (hi : (i : Int) < nmT n) : (pcA n i : Int) < n ∧ (pcB n i : Int) < n := by
  rcases (show n = 0 ∨ n = 1 ∨ n = 2 ∨ n = 3 by omega) with rfl | rfl | rfl | rfl
  · simp [nmT] at hi; omega
  · simp [pcA, pcB]
  · simp [nmT] at hi
    rcases (show i = 0 ∨ i = 1 ∨ i = 2 by omega) with rfl | rfl | rfl <;> decide
  · simp [nmT] at hi
    rcases (show i = 0 ∨ i = 1 ∨ i = 2 ∨ i = 3 ∨ i = 4 ∨ i = 5 by omega) with rfl | rfl | rfl | rfl | rfl | rfl <;> decide
theorem tC_bd {A : St} {n : Int} (hW : WW A n) {i : Nat} (hi : (i : Int) < nmT (A 12 2)) : 0 ≤ tC A i ∧ tC A i ≤ 40 := by
  obtain ⟨⟨hw1, hw2, hw3, hw4, -⟩, -, hwl⟩ := hW
  have h := pc_lt hw3 hw4 hi
  have h1 := (hwl (pcA (A 12 2) i) h.1).1
  have h2 := (hwl (pcB (A 12 2) i) h.2).1
  unfold tC
  omega
theorem nm_bd {A : St} {n : Int} (hW : WW A n) : 0 ≤ nmT (A 12 2) ∧ nmT (A 12 2) ≤ 6 ∧ nM_ A ≤ 6 ∧ ((nM_ A : Nat) : Int) = nmT (A 12 2) := by
  have h := kfT_end hW.1.2.2.1 hW.1.2.2.2.1
  unfold nM_
  omega
/-- what the guesses' object holds, whatever of the rows is counted; nothing outside it is changed -/
def uI (A : St) (g h : Mm) : Prop := h.1 30 3 = nmT (A 12 2) ∧ h.1 30 4 = A 12 0 ∧ (∀ i : Nat, (i : Int) < nmT (A 12 2) → h.1 31 i = tC A i) ∧ (∀ a, (a < 30 ∨ 43 < a) → h.1 a = g.1 a) ∧ h.2 = g.2
theorem CW_u {A : St} {g h : Mm} {n : Int} (hC : CW A g) (hW : WW A n) (hu : uI A g h) : CW A h := CW_fr hC (fun a h1 h2 => hu.2.2.2.1 a (by omega)) ⟨rfl, rfl, rfl⟩ (fun _ _ _ _ => rfl) (fun _ _ _ _ _ => rfl) hW.1.2.1 hW.1.2.2.2.1
theorem uI_w {A : St} {g h : Mm} (hu : uI A g h) {k i : Nat} {v : Int} (hk : 32 ≤ k ∧ k ≤ 43) : uI A g (wr h k i v) := ⟨by rw [wr_off (by omega)]; exact hu.1, by rw [wr_off (by omega)]; exact hu.2.1, fun j hj => by rw [wr_off (by omega)]; exact hu.2.2.1 j hj, fun a ha => by rw [wr_off (by omega)]; exact hu.2.2.2.1 a ha, hu.2.2.2.2⟩
set_option maxRecDepth 100000 in
set_option maxHeartbeats 4000000 in
theorem cU_mm (E : En) {A : St} {g : Mm} {n : Int} (hC : CW A g) (hW : WW A n) {p i j : Nat} (hp : (p : Int) + 1 < A 12 0) (hi : (i : Int) < nmT (A 12 2)) (hj : (j : Int) < nmT (A 12 2)) (hti : g.1 31 i = tC A i) (htj : g.1 31 j = tC A j) : Fn E 3 mX1_mayMeet [vR 30, vR 3, vI (p : Int), vI (i : Int), vI (j : Int)] g (vI (mmI A p (tC A i) (tC A j))) := by
  obtain ⟨⟨hw1, hw2, hw3, hw4, hw5, hw6, hw7, hw8⟩, hwp, hwl⟩ := id hW
  have nb := nm_bd hW
  have b1 := tC_bd hW (i := i) (by omega)
  have b2 := tC_bd hW (i := j) (by omega)
  have b3 := s2_bd (A := A) (p := p) (a := tC A i) (b := tC A j) (c := 40) (by omega)
  obtain ⟨e0, e1, e2, e3, e4, e5, e6, e7⟩ := hC.2.1 p (by omega)
  obtain ⟨-, -, -, -, -, -, -, w7⟩ := hwp p (by omega)
  refine Ok_of gmX1_mayMeet (by omega) (Nat.le_of_ble_eq_true rfl) (fun X hX => ?_)
  show V E X 0 [some (vR 30), some (vR 3), some (vI (p : Int)), some (vI (i : Int)), some (vI (j : Int)), none] [] g
  refine k_aload_n hX.1 dX1_mayMeet_0 rfl rfl ?_
  refine k_getr (t := 4) hX.1 dX1_mayMeet_1 flX1_60 rfl (by decide) rfl rfl ?_
  refine k_iload_n hX.1 dX1_mayMeet_4 rfl rfl ?_
  refine k_aaldP (j := p) (q := 6 + p) hX.1 dX1_mayMeet_5 rfl (by omega) (n := 5) rfl (by omega) (by omega) rfl ?_
  refine k_geti hX.1 dX1_mayMeet_6 flX1_64 (sk_P6 (by omega)) (by decide) rfl ?_
  refine k_istore hX.1 dX1_mayMeet_9 (by decide) rfl rfl ?_
  try simp only [List.set_cons_zero, List.set_cons_succ]
  refine k_iload hX.1 dX1_mayMeet_11 rfl ?_
  refine k_iconst hX.1 dX1_mayMeet_13 ?_
  refine k_icmp_eq (tgt := 40) hX.1 dX1_mayMeet_14 (by decide) (by omega) (by omega) (fun c_14 => ?_) (fun c_14 => ?_)
  · skip
    refine k_iconst hX.1 dX1_mayMeet_40 ?_
    refine k_goto (tgt := 45) hX.1 dX1_mayMeet_41 (by decide) ?_
    refine k_zret hX dX1_mayMeet_45 rfl (by omega) ?_
    refine ⟨?_, rfl⟩
    congr 2
    unfold mmI
    first | rw [if_pos (by omega)] | rw [if_neg (by omega)]
  · skip
    refine k_iload hX.1 dX1_mayMeet_17 rfl ?_
    refine k_aload_n hX.1 dX1_mayMeet_19 rfl rfl ?_
    refine k_iload_n hX.1 dX1_mayMeet_20 rfl rfl ?_
    refine k_aload_n hX.1 dX1_mayMeet_21 rfl rfl ?_
    refine k_getr (t := 31) hX.1 dX1_mayMeet_22 flX1_9 rfl (by decide) rfl rfl ?_
    refine k_iload_n hX.1 dX1_mayMeet_25 rfl rfl ?_
    refine k_iald (j := i) hX.1 dX1_mayMeet_26 rfl (by omega) (n := 6) rfl (by omega) (by omega) ?_
    refine k_top hti ?_
    refine k_aload_n hX.1 dX1_mayMeet_27 rfl rfl ?_
    refine k_getr (t := 31) hX.1 dX1_mayMeet_28 flX1_9 rfl (by decide) rfl rfl ?_
    refine k_iload hX.1 dX1_mayMeet_31 rfl ?_
    refine k_iald (j := j) hX.1 dX1_mayMeet_33 rfl (by omega) (n := 6) rfl (by omega) (by omega) ?_
    refine k_top htj ?_
    refine k_callVf (d2 := 2) (n := 3) (as := [_, _, _]) hX.1 dX1_mayMeet_34 lkX1_69 (fit_of hX (by omega) gmX6_seenWith) rfl rfl (by decide) rfl rfl rfl (Nat.le_of_ble_eq_true rfl) (cW_seenWith E hC hW (p := p) (by omega) (by omega) (by omega)) ?_
    refine k_icmp_ne (tgt := 44) hX.1 dX1_mayMeet_37 (by decide) (by omega) (by omega) (fun c_37 => ?_) (fun c_37 => ?_)
    · skip
      refine k_iconst hX.1 dX1_mayMeet_44 ?_
      refine k_zret hX dX1_mayMeet_45 rfl (by omega) ?_
      refine ⟨?_, rfl⟩
      congr 2
      unfold mmI
      first | rw [if_pos (by omega)] | rw [if_neg (by omega)]
    · skip
      refine k_iconst hX.1 dX1_mayMeet_40 ?_
      refine k_goto (tgt := 45) hX.1 dX1_mayMeet_41 (by decide) ?_
      refine k_zret hX dX1_mayMeet_45 rfl (by omega) ?_
      refine ⟨?_, rfl⟩
      congr 2
      unfold mmI
      first | rw [if_pos (by omega)] | rw [if_neg (by omega)]

set_option maxRecDepth 100000 in
set_option maxHeartbeats 4000000 in
theorem lp_ca2 (E : En) {A : St} {g h : Mm} {n : Int} (hC : CW A g) (hW : WW A n) (hu : uI A g h) {p1 i : Nat} (hp : (p1 : Int) + 1 < A 12 0) (hi : (i : Int) < nmT (A 12 2)) {k : Mm} (hk : uI A g k) (hr : ∀ i : Nat, (i : Int) < nmT (A 12 2) → k.1 (33 + p1) i = ahd A (tC A) (nM_ A) p1 (tC A i)) {X : Cx} (hX : Wk E mX1_countAhead X 4 (fun r g' => r = none ∧ g'.2 = h.2 ∧ (∀ a, a ≠ 33 + (p1 + 1) → g'.1 a = h.1 a) ∧ ∀ i : Nat, (i : Int) < nmT (A 12 2) → g'.1 (33 + (p1 + 1)) i = ahd A (tC A) (nM_ A) (p1 + 1) (tC A i))) : ∀ (m : Nat) (o : Nat) (s : Int), m + o = nM_ A ∧ s = sm (fun o => if mmI A p1 (tC A o) (tC A i) = 1 then ahd A (tC A) (nM_ A) p1 (tC A o) else 0) o → V E X 73 [some (vR 30), some (vR 3), some (vI ((p1 + 1 : Nat) : Int)), some (vI (i : Int)), some (vI (ahd A (tC A) (nM_ A) (p1 + 1) (tC A i))), some (vI ((nM_ A : Nat) : Int))] [] k → V E X 24 [some (vR 30), some (vR 3), some (vI (((p1 + 1 : Nat) : Int))), some (vI (i : Int)), some (vI s), some (vI (o : Int))] [] k := by
  obtain ⟨⟨hw1, hw2, hw3, hw4, hw5, hw6, hw7, hw8⟩, hwp, hwl⟩ := id hW
  have nb := nm_bd hW
  have hCk := CW_u hC hW hk
  intro m
  induction m with
  | zero =>
    intro o s ⟨hm, hs⟩ hx
    obtain rfl : o = nM_ A := by omega
    subst hs
    refine k_iload_n hX.1 dX1_countAhead_24 rfl rfl ?_
    refine k_if_le (tgt := 73) hX.1 dX1_countAhead_25 (by decide) (by omega) (fun c_25 => ?_) (fun c_25 => ?_)
    · skip
      exact absurd c_25 (by omega)
    · skip
      refine k_iload hX.1 dX1_countAhead_28 rfl ?_
      refine k_aload_n hX.1 dX1_countAhead_30 rfl rfl ?_
      refine k_geti hX.1 dX1_countAhead_31 flX1_41 rfl (by decide) rfl ?_
      refine k_top (b := nmT (A 12 2)) hk.1 ?_
      refine k_icmp_ge (tgt := 73) hX.1 dX1_countAhead_34 (by decide) (by omega) (by omega) (fun c_34 => ?_) (fun c_34 => ?_)
      · skip
        exact hx
      · skip
        exact absurd c_34 (by omega)
  | succ m ih =>
    intro o s ⟨hm, hs⟩ hx
    refine k_iload_n hX.1 dX1_countAhead_24 rfl rfl ?_
    refine k_if_le (tgt := 73) hX.1 dX1_countAhead_25 (by decide) (by omega) (fun c_25 => ?_) (fun c_25 => ?_)
    · skip
      exact absurd c_25 (by omega)
    · skip
      refine k_iload hX.1 dX1_countAhead_28 rfl ?_
      refine k_aload_n hX.1 dX1_countAhead_30 rfl rfl ?_
      refine k_geti hX.1 dX1_countAhead_31 flX1_41 rfl (by decide) rfl ?_
      refine k_top (b := nmT (A 12 2)) hk.1 ?_
      refine k_icmp_ge (tgt := 73) hX.1 dX1_countAhead_34 (by decide) (by omega) (by omega) (fun c_34 => ?_) (fun c_34 => ?_)
      · skip
        exact absurd c_34 (by omega)
      · skip
        refine k_aload_n hX.1 dX1_countAhead_37 rfl rfl ?_
        refine k_aload_n hX.1 dX1_countAhead_38 rfl rfl ?_
        refine k_iload_n hX.1 dX1_countAhead_39 rfl rfl ?_
        refine k_iconst hX.1 dX1_countAhead_40 ?_
        refine k_isub hX.1 dX1_countAhead_41 ?_
        refine k_top (b := (p1 : Int)) (by omega) ?_
        refine k_iload hX.1 dX1_countAhead_42 rfl ?_
        refine k_iload_n hX.1 dX1_countAhead_44 rfl rfl ?_
        refine k_callVf (d2 := 3) (n := 4) (as := [_, _, _, _]) hX.1 dX1_countAhead_45 lkX1_56 (fit_of hX (by omega) gmX1_mayMeet) rfl rfl (by decide) rfl rfl rfl (Nat.le_of_ble_eq_true rfl) (cU_mm E hCk hW (p := p1) (i := o) (j := i) (by omega) (by omega) hi (hk.2.2.1 o (by omega)) (hk.2.2.1 i hi)) ?_
        refine k_if_eq (tgt := 67) hX.1 dX1_countAhead_48 (by decide) (by have := mmI_01 A p1 (tC A o) (tC A i); omega) (fun c_48 => ?_) (fun c_48 => ?_)
        · skip
          refine k_iinc hX.1 dX1_countAhead_67 rfl (by decide) rfl rfl ?_
          try simp only [List.set_cons_zero, List.set_cons_succ]
          refine k_goto (tgt := 24) hX.1 dX1_countAhead_70 (by decide) ?_
          exact ih (o + 1) _ ⟨by omega, by
            have z := mmI_01 A p1 (tC A o) (tC A i)
            rw [sm, hs]
            first | (rw [if_pos (by omega)]) | (rw [if_neg (by omega)]; omega)⟩ hx
        · skip
          refine k_iload hX.1 dX1_countAhead_51 rfl ?_
          refine k_aload_n hX.1 dX1_countAhead_53 rfl rfl ?_
          refine k_getr (t := 32) hX.1 dX1_countAhead_54 flX1_17 rfl (by decide) rfl rfl ?_
          refine k_iload_n hX.1 dX1_countAhead_57 rfl rfl ?_
          refine k_iconst hX.1 dX1_countAhead_58 ?_
          refine k_isub hX.1 dX1_countAhead_59 ?_
          refine k_aaldI (j := p1) (q := 33 + p1) hX.1 dX1_countAhead_60 rfl (by omega) (n := 5) rfl (by omega) (by omega) rfl ?_
          refine k_iload hX.1 dX1_countAhead_61 rfl ?_
          refine k_iald (j := o) hX.1 dX1_countAhead_63 (sk_A33 (by omega)) (by omega) (n := 6) (ln_A33 (by omega)) (by omega) (by omega) ?_
          refine k_top (b := ahd A (tC A) (nM_ A) p1 (tC A o)) (hr o (by omega)) ?_
          refine k_iadd hX.1 dX1_countAhead_64 ?_
          refine k_istore hX.1 dX1_countAhead_65 (by decide) rfl rfl ?_
          try simp only [List.set_cons_zero, List.set_cons_succ]
          refine k_iinc hX.1 dX1_countAhead_67 rfl (by decide) rfl rfl ?_
          try simp only [List.set_cons_zero, List.set_cons_succ]
          refine k_goto (tgt := 24) hX.1 dX1_countAhead_70 (by decide) ?_
          exact ih (o + 1) _ ⟨by omega, by
            have z := mmI_01 A p1 (tC A o) (tC A i)
            rw [sm, hs]
            first | (rw [if_pos (by omega)]) | (rw [if_neg (by omega)]; omega)⟩ hx

set_option maxRecDepth 100000 in
set_option maxHeartbeats 4000000 in
theorem lp_ca1 (E : En) {A : St} {g h : Mm} {n : Int} (hC : CW A g) (hW : WW A n) (hu : uI A g h) {p : Nat} (hp : (p : Int) < A 12 0) (hr : ∀ q : Nat, q + 1 = p → ∀ i : Nat, (i : Int) < nmT (A 12 2) → h.1 (33 + q) i = ahd A (tC A) (nM_ A) q (tC A i)) {X : Cx} (hX : Wk E mX1_countAhead X 4 (fun r g' => r = none ∧ g'.2 = h.2 ∧ (∀ a, a ≠ 33 + p → g'.1 a = h.1 a) ∧ ∀ i : Nat, (i : Int) < nmT (A 12 2) → g'.1 (33 + p) i = ahd A (tC A) (nM_ A) p (tC A i))) : ∀ (m : Nat) (i : Nat) (k : Mm), m + i = nM_ A ∧ uI A g k ∧ k.2 = h.2 ∧ (∀ a, a ≠ 33 + p → k.1 a = h.1 a) ∧ (∀ j : Nat, j < i → k.1 (33 + p) j = ahd A (tC A) (nM_ A) p (tC A j)) → V E X 2 [some (vR 30), some (vR 3), some (vI (p : Int)), some (vI (i : Int)), none, none] [] k := by
  obtain ⟨⟨hw1, hw2, hw3, hw4, hw5, hw6, hw7, hw8⟩, hwp, hwl⟩ := id hW
  have nb := nm_bd hW
  intro m
  induction m with
  | zero =>
    intro i k ⟨hm, hk, h2, hf, hd⟩
    obtain rfl : i = nM_ A := by omega
    refine k_iload_n hX.1 dX1_countAhead_2 rfl rfl ?_
    refine k_aload_n hX.1 dX1_countAhead_3 rfl rfl ?_
    refine k_geti hX.1 dX1_countAhead_4 flX1_41 rfl (by decide) rfl ?_
    refine k_top (b := nmT (A 12 2)) hk.1 ?_
    refine k_icmp_ge (tgt := 89) hX.1 dX1_countAhead_7 (by decide) (by omega) (by omega) (fun c_7 => ?_) (fun c_7 => ?_)
    · skip
      refine k_vret hX dX1_countAhead_89 rfl ?_
      exact ⟨rfl, h2, hf, fun j hj => hd j (by omega)⟩
    · skip
      exact absurd c_7 (by omega)
  | succ m ih =>
    intro i k ⟨hm, hk, h2, hf, hd⟩
    refine k_iload_n hX.1 dX1_countAhead_2 rfl rfl ?_
    refine k_aload_n hX.1 dX1_countAhead_3 rfl rfl ?_
    refine k_geti hX.1 dX1_countAhead_4 flX1_41 rfl (by decide) rfl ?_
    refine k_top (b := nmT (A 12 2)) hk.1 ?_
    refine k_icmp_ge (tgt := 89) hX.1 dX1_countAhead_7 (by decide) (by omega) (by omega) (fun c_7 => ?_) (fun c_7 => ?_)
    · skip
      exact absurd c_7 (by omega)
    · skip
      refine k_iload_n hX.1 dX1_countAhead_10 rfl rfl ?_
      refine k_if_ne (tgt := 18) hX.1 dX1_countAhead_11 (by decide) (by omega) (fun c_11 => ?_) (fun c_11 => ?_)
      · skip
        obtain ⟨p1, rfl⟩ : ∃ p1, p = p1 + 1 := ⟨p - 1, by omega⟩
        refine k_iconst hX.1 dX1_countAhead_18 ?_
        refine k_istore hX.1 dX1_countAhead_19 (by decide) rfl rfl ?_
        try simp only [List.set_cons_zero, List.set_cons_succ]
        refine k_iconst hX.1 dX1_countAhead_21 ?_
        refine k_istore hX.1 dX1_countAhead_22 (by decide) rfl rfl ?_
        try simp only [List.set_cons_zero, List.set_cons_succ]
        refine lp_ca2 E hC hW hu (p1 := p1) (i := i) (by omega) (by omega) hk (fun j hj => by rw [hf (33 + p1) (by omega)]; exact hr p1 rfl j hj) hX (nM_ A) 0 0 ⟨by omega, rfl⟩ ?_
        refine k_aload_n hX.1 dX1_countAhead_73 rfl rfl ?_
        refine k_getr (t := 32) hX.1 dX1_countAhead_74 flX1_17 rfl (by decide) rfl rfl ?_
        refine k_iload_n hX.1 dX1_countAhead_77 rfl rfl ?_
        refine k_aaldI (j := (p1 + 1)) (q := 33 + (p1 + 1)) hX.1 dX1_countAhead_78 rfl (by omega) (n := 5) rfl (by omega) (by omega) rfl ?_
        refine k_iload_n hX.1 dX1_countAhead_79 rfl rfl ?_
        refine k_iload hX.1 dX1_countAhead_80 rfl ?_
        refine k_iast (j := i) hX.1 dX1_countAhead_82 (sk_A33 (by omega)) (by omega) (n := 6) (ln_A33 (by omega)) (by omega) (by omega) ?_
        refine k_iinc hX.1 dX1_countAhead_83 rfl (by decide) rfl rfl ?_
        try simp only [List.set_cons_zero, List.set_cons_succ]
        refine k_goto (tgt := 2) hX.1 dX1_countAhead_86 (by decide) ?_
        exact k_sub (by repeat first | exact trivial | refine And.intro rfl ?_) (ih (i + 1) _ ⟨by omega, uI_w hk (by omega), h2, fun a ha => by rw [wr_off ha]; exact hf a ha, fun j hj => by
          by_cases e : j = i
          · subst e; rw [wr_at]
          · rw [wr_1, if_neg (by omega)]; exact hd j (by omega)⟩)
      · skip
        have hp0 : p = 0 := by omega
        refine k_iconst hX.1 dX1_countAhead_14 ?_
        refine k_goto (tgt := 19) hX.1 dX1_countAhead_15 (by decide) ?_
        refine k_istore hX.1 dX1_countAhead_19 (by decide) rfl rfl ?_
        try simp only [List.set_cons_zero, List.set_cons_succ]
        refine k_iconst hX.1 dX1_countAhead_21 ?_
        refine k_istore hX.1 dX1_countAhead_22 (by decide) rfl rfl ?_
        try simp only [List.set_cons_zero, List.set_cons_succ]
        refine k_iload_n hX.1 dX1_countAhead_24 rfl rfl ?_
        refine k_if_le (tgt := 73) hX.1 dX1_countAhead_25 (by decide) (by omega) (fun c_25 => ?_) (fun c_25 => ?_)
        · skip
          refine k_aload_n hX.1 dX1_countAhead_73 rfl rfl ?_
          refine k_getr (t := 32) hX.1 dX1_countAhead_74 flX1_17 rfl (by decide) rfl rfl ?_
          refine k_iload_n hX.1 dX1_countAhead_77 rfl rfl ?_
          refine k_aaldI (j := p) (q := 33 + p) hX.1 dX1_countAhead_78 rfl (by omega) (n := 5) rfl (by omega) (by omega) rfl ?_
          refine k_iload_n hX.1 dX1_countAhead_79 rfl rfl ?_
          refine k_iload hX.1 dX1_countAhead_80 rfl ?_
          refine k_iast (j := i) hX.1 dX1_countAhead_82 (sk_A33 (by omega)) (by omega) (n := 6) (ln_A33 (by omega)) (by omega) (by omega) ?_
          refine k_iinc hX.1 dX1_countAhead_83 rfl (by decide) rfl rfl ?_
          try simp only [List.set_cons_zero, List.set_cons_succ]
          refine k_goto (tgt := 2) hX.1 dX1_countAhead_86 (by decide) ?_
          exact k_sub (by repeat first | exact trivial | refine And.intro rfl ?_) (ih (i + 1) _ ⟨by omega, uI_w hk (by omega), h2, fun a ha => by rw [wr_off ha]; exact hf a ha, fun j hj => by
            by_cases e : j = i
            · subst e; rw [wr_at]; rw [hp0]; rfl
            · rw [wr_1, if_neg (by omega)]; exact hd j (by omega)⟩)
        · skip
          exact absurd c_25 (by omega)

set_option maxRecDepth 100000 in
set_option maxHeartbeats 4000000 in
theorem cU_ca (E : En) {A : St} {g h : Mm} {n : Int} (hC : CW A g) (hW : WW A n) (hu : uI A g h) {p : Nat} (hp : (p : Int) < A 12 0) (hr : ∀ q : Nat, q + 1 = p → ∀ i : Nat, (i : Int) < nmT (A 12 2) → h.1 (33 + q) i = ahd A (tC A) (nM_ A) q (tC A i)) : Ok E 4 mX1_countAhead [vR 30, vR 3, vI (p : Int)] h (fun r g' => r = none ∧ g'.2 = h.2 ∧ (∀ a, a ≠ 33 + p → g'.1 a = h.1 a) ∧ ∀ i : Nat, (i : Int) < nmT (A 12 2) → g'.1 (33 + p) i = ahd A (tC A) (nM_ A) p (tC A i)) := by
  refine Ok_of gmX1_countAhead (by omega) (Nat.le_of_ble_eq_true rfl) (fun X hX => ?_)
  show V E X 0 [some (vR 30), some (vR 3), some (vI (p : Int)), none, none, none] [] h
  refine k_iconst hX.1 dX1_countAhead_0 ?_
  refine k_istore_n hX.1 dX1_countAhead_1 rfl (by decide) rfl rfl ?_
  try simp only [List.set_cons_zero, List.set_cons_succ]
  exact lp_ca1 E hC hW hu hp hr hX (nM_ A) 0 h ⟨by omega, hu, rfl, fun _ _ => rfl, fun j hj => absurd hj (Nat.not_lt_zero j)⟩
