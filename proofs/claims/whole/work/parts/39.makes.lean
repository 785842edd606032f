/-! ===== makes, and ways to be ===== -/
def nmT (n : Int) : Int := if n = 0 then 0 else if n = 1 then 1 else if n = 2 then 3 else 6
def kfT (n a : Int) : Int := if a = 0 then 0 else if a = 1 then n - 1 else 2 * n - 3
def pcA (n : Int) (i : Nat) : Nat := if n ≤ 1 then 0 else if n = 2 then (if i = 2 then 1 else 0) else (if i = 3 ∨ i = 4 then 1 else if i = 5 then 2 else 0)
def pcB (n : Int) (i : Nat) : Nat := if n ≤ 1 then 0 else if n = 2 then (if i = 0 then 0 else 1) else (if i = 0 then 0 else if i = 1 ∨ i = 3 then 1 else 2)
/-- the tone of the class's make i -/
def tC (A : St) (i : Nat) : Int := A 8 (pcA (A 12 2) i) + A 8 (pcB (A 12 2) i)
theorem tC_at {A : St} {a b i : Nat} (hab : a ≤ b) (hb : (b : Int) < A 12 2) (h3 : A 12 2 ≤ 3) (hi : (i : Int) = kfT (A 12 2) a + b) : tC A i = A 8 a + A 8 b := by
  unfold tC
  generalize A 12 2 = n at *
  rcases (show n = 1 ∨ n = 2 ∨ n = 3 by omega) with rfl | rfl | rfl
  · obtain rfl : a = 0 := by omega
    obtain rfl : b = 0 := by omega
    obtain rfl : i = 0 := by simp [kfT] at hi; omega
    rfl
  · rcases (show (a = 0 ∧ b = 0) ∨ (a = 0 ∧ b = 1) ∨ (a = 1 ∧ b = 1) by omega) with ⟨rfl, rfl⟩ | ⟨rfl, rfl⟩ | ⟨rfl, rfl⟩
    · obtain rfl : i = 0 := by simp [kfT] at hi; omega
      rfl
    · obtain rfl : i = 1 := by simp [kfT] at hi; omega
      rfl
    · obtain rfl : i = 2 := by simp [kfT] at hi; omega
      rfl
  · rcases (show (a = 0 ∧ b = 0) ∨ (a = 0 ∧ b = 1) ∨ (a = 0 ∧ b = 2) ∨ (a = 1 ∧ b = 1) ∨ (a = 1 ∧ b = 2) ∨ (a = 2 ∧ b = 2) by omega) with ⟨rfl, rfl⟩ | ⟨rfl, rfl⟩ | ⟨rfl, rfl⟩ | ⟨rfl, rfl⟩ | ⟨rfl, rfl⟩ | ⟨rfl, rfl⟩
    · obtain rfl : i = 0 := by simp [kfT] at hi; omega
      rfl
    · obtain rfl : i = 1 := by simp [kfT] at hi; omega
      rfl
    · obtain rfl : i = 2 := by simp [kfT] at hi; omega
      rfl
    · obtain rfl : i = 3 := by simp [kfT] at hi; omega
      rfl
    · obtain rfl : i = 4 := by simp [kfT] at hi; omega
      rfl
    · obtain rfl : i = 5 := by simp [kfT] at hi; omega
      rfl
theorem kfT_bd {n a : Int} (h0 : 0 ≤ a) (h1 : a < n) (h3 : n ≤ 3) : 0 ≤ kfT n a ∧ kfT n a + n ≤ 6 ∧ kfT n (a + 1) + (a + 1) = kfT n a + n := by
  rcases (show a = 0 ∨ a = 1 ∨ a = 2 by omega) with rfl | rfl | rfl <;> simp [kfT] <;> omega
theorem kfT_end {n : Int} (h0 : 0 ≤ n) (h3 : n ≤ 3) : kfT n n + n = nmT n ∧ 0 ≤ nmT n ∧ nmT n ≤ 6 := by
  rcases (show n = 0 ∨ n = 1 ∨ n = 2 ∨ n = 3 by omega) with rfl | rfl | rfl | rfl <;> decide
def lI (A : St) (g : Mm) (k : Int) (h : Mm) : Prop := h.1 30 3 = k ∧ (∀ i : Nat, (i : Int) < k → h.1 31 i = tC A i) ∧ h.1 30 4 = g.1 30 4 ∧ (∀ a, a ≠ 30 → a ≠ 31 → h.1 a = g.1 a) ∧ h.2 = g.2
set_option maxRecDepth 100000 in
set_option maxHeartbeats 4000000 in
theorem lp_lm2 (E : En) {A : St} {g : Mm} {n : Int} (hC : CW A g) (hW : WW A n) {a : Nat} (ha : (a : Int) < A 12 2) {X : Cx} (hX : Wk E mX1_listMakes X 1 (fun r g' => r = none ∧ lI A g (nmT (A 12 2)) g')) : ∀ (m : Nat) (b : Nat) (h : Mm), (m : Int) + b = A 12 2 ∧ a ≤ b ∧ lI A g (kfT (A 12 2) a + b) h → (∀ h1 : Mm, lI A g (kfT (A 12 2) a + A 12 2) h1 → V E X 78 [some (vR 30), some (vR 3), some (vI (a : Int)), some (vI (A 12 2))] [] h1) → V E X 17 [some (vR 30), some (vR 3), some (vI (a : Int)), some (vI (b : Int))] [] h := by
  obtain ⟨⟨hc1, hc2, hc3⟩, hcp, hcl⟩ := id hC
  obtain ⟨⟨hw1, hw2, hw3, hw4, hw5, hw6, hw7, hw8⟩, hwp, hwl⟩ := id hW
  intro m
  induction m with
  | zero =>
    intro b h ⟨hm, hab, hi⟩ hk
    obtain hb : (b : Int) = A 12 2 := by omega
    refine k_iload_n hX.1 dX1_listMakes_17 rfl rfl ?_
    refine k_aload_n hX.1 dX1_listMakes_18 rfl rfl ?_
    refine k_geti hX.1 dX1_listMakes_19 flX1_44 rfl (by decide) rfl ?_
    refine k_top (b := A 12 2) (by rw [hi.2.2.2.1 3 (by omega) (by omega)]; exact hc2) ?_
    refine k_icmp_ge (tgt := 78) hX.1 dX1_listMakes_22 (by decide) (by omega) (by omega) (fun c_22 => ?_) (fun c_22 => ?_)
    · skip
      rw [hb] at hi ⊢
      exact hk h hi
    · skip
      exact absurd c_22 (by omega)
  | succ m ih =>
    intro b h ⟨hm, hab, hi⟩ hk
    have kb := kfT_bd (n := A 12 2) (a := (a : Int)) (by omega) ha hw4
    obtain ⟨i, hi0⟩ : ∃ i : Nat, kfT (A 12 2) a + b = (i : Int) := ⟨(kfT (A 12 2) a + b).toNat, by omega⟩
    refine k_iload_n hX.1 dX1_listMakes_17 rfl rfl ?_
    refine k_aload_n hX.1 dX1_listMakes_18 rfl rfl ?_
    refine k_geti hX.1 dX1_listMakes_19 flX1_44 rfl (by decide) rfl ?_
    refine k_top (b := A 12 2) (by rw [hi.2.2.2.1 3 (by omega) (by omega)]; exact hc2) ?_
    refine k_icmp_ge (tgt := 78) hX.1 dX1_listMakes_22 (by decide) (by omega) (by omega) (fun c_22 => ?_) (fun c_22 => ?_)
    · skip
      exact absurd c_22 (by omega)
    · skip
      refine k_aload_n hX.1 dX1_listMakes_25 rfl rfl ?_
      refine k_geti hX.1 dX1_listMakes_26 flX1_41 rfl (by decide) rfl ?_
      refine k_top (b := kfT (A 12 2) a + b) hi.1 ?_
      refine k_bipush hX.1 dX1_listMakes_29 (by decide) ?_
      refine k_icmp_ge (tgt := 78) hX.1 dX1_listMakes_31 (by decide) (by omega) (by omega) (fun c_31 => ?_) (fun c_31 => ?_)
      · skip
        exact absurd c_31 (by omega)
      · skip
        refine k_aload_n hX.1 dX1_listMakes_34 rfl rfl ?_
        refine k_getr (t := 31) hX.1 dX1_listMakes_35 flX1_9 rfl (by decide) rfl rfl ?_
        refine k_aload_n hX.1 dX1_listMakes_38 rfl rfl ?_
        refine k_geti hX.1 dX1_listMakes_39 flX1_41 rfl (by decide) rfl ?_
        refine k_top (b := kfT (A 12 2) a + b) hi.1 ?_
        refine k_aload_n hX.1 dX1_listMakes_42 rfl rfl ?_
        refine k_getr (t := 5) hX.1 dX1_listMakes_43 flX1_47 rfl (by decide) rfl rfl ?_
        refine k_iload_n hX.1 dX1_listMakes_46 rfl rfl ?_
        refine k_aaldL (j := a) (q := 11 + a) hX.1 dX1_listMakes_47 rfl (by omega) (n := 3) rfl (by omega) (by omega) rfl ?_
        refine k_geti hX.1 dX1_listMakes_48 flX1_51 (sk_L11 (by omega)) (by decide) rfl ?_
        refine k_top (b := A 8 a) (by rw [hi.2.2.2.1 (11 + a) (by omega) (by omega)]; exact (hcl a (by omega)).1) ?_
        refine k_aload_n hX.1 dX1_listMakes_51 rfl rfl ?_
        refine k_getr (t := 5) hX.1 dX1_listMakes_52 flX1_47 rfl (by decide) rfl rfl ?_
        refine k_iload_n hX.1 dX1_listMakes_55 rfl rfl ?_
        refine k_aaldL (j := b) (q := 11 + b) hX.1 dX1_listMakes_56 rfl (by omega) (n := 3) rfl (by omega) (by omega) rfl ?_
        refine k_geti hX.1 dX1_listMakes_57 flX1_51 (sk_L11 (by omega)) (by decide) rfl ?_
        refine k_top (b := A 8 b) (by rw [hi.2.2.2.1 (11 + b) (by omega) (by omega)]; exact (hcl b (by omega)).1) ?_
        refine k_iadd hX.1 dX1_listMakes_60 ?_
        refine k_iast (j := i) hX.1 dX1_listMakes_61 rfl (by omega) (n := 6) rfl (by omega) (by omega) ?_
        refine k_aload_n hX.1 dX1_listMakes_62 rfl rfl ?_
        refine k_dupR hX.1 dX1_listMakes_63 ?_
        refine k_geti hX.1 dX1_listMakes_64 flX1_41 rfl (by decide) rfl ?_
        refine k_top (b := kfT (A 12 2) a + b) (by rw [wr_off (by omega)]; exact hi.1) ?_
        refine k_iconst hX.1 dX1_listMakes_67 ?_
        refine k_iadd hX.1 dX1_listMakes_68 ?_
        refine k_puti hX.1 dX1_listMakes_69 flX1_41 rfl (by decide) rfl ?_
        refine k_iinc hX.1 dX1_listMakes_72 rfl (by decide) rfl rfl ?_
        try simp only [List.set_cons_zero, List.set_cons_succ]
        refine k_goto (tgt := 17) hX.1 dX1_listMakes_75 (by decide) ?_
        refine ih (b + 1) _ ⟨by omega, by omega, ?_, fun q hq => ?_, ?_, fun q h1 h2 => ?_, hi.2.2.2.2⟩ hk
        · rw [wr_at]; omega
        · rw [wr_off (by omega), wr_1]
          by_cases e : q = i
          · rw [if_pos ⟨rfl, e⟩, e]; exact (tC_at hab (by omega) hw4 (by omega)).symm
          · rw [if_neg (by omega)]; exact hi.2.1 q (by omega)
        · rw [wr_1, if_neg (by omega), wr_off (by omega)]; exact hi.2.2.1
        · rw [wr_off h1, wr_off h2]; exact hi.2.2.2.1 q h1 h2

set_option maxRecDepth 100000 in
set_option maxHeartbeats 4000000 in
theorem lp_lm1 (E : En) {A : St} {g : Mm} {n : Int} (hC : CW A g) (hW : WW A n) {X : Cx} (hX : Wk E mX1_listMakes X 1 (fun r g' => r = none ∧ lI A g (nmT (A 12 2)) g')) : ∀ (m : Nat) (a : Nat) (h : Mm), (m : Int) + a = A 12 2 ∧ lI A g (kfT (A 12 2) a + a) h → V E X 7 [some (vR 30), some (vR 3), some (vI (a : Int)), none] [] h := by
  obtain ⟨⟨hc1, hc2, hc3⟩, hcp, hcl⟩ := id hC
  obtain ⟨⟨hw1, hw2, hw3, hw4, hw5, hw6, hw7, hw8⟩, hwp, hwl⟩ := id hW
  intro m
  induction m with
  | zero =>
    intro a h ⟨hm, hi⟩
    obtain hb : (a : Int) = A 12 2 := by omega
    rw [hb, (kfT_end hw3 hw4).1] at hi
    refine k_iload_n hX.1 dX1_listMakes_7 rfl rfl ?_
    refine k_aload_n hX.1 dX1_listMakes_8 rfl rfl ?_
    refine k_geti hX.1 dX1_listMakes_9 flX1_44 rfl (by decide) rfl ?_
    refine k_top (b := A 12 2) (by rw [hi.2.2.2.1 3 (by omega) (by omega)]; exact hc2) ?_
    refine k_icmp_ge (tgt := 84) hX.1 dX1_listMakes_12 (by decide) (by omega) (by omega) (fun c_12 => ?_) (fun c_12 => ?_)
    · skip
      refine k_vret hX dX1_listMakes_84 rfl ?_
      exact ⟨rfl, hi⟩
    · skip
      exact absurd c_12 (by omega)
  | succ m ih =>
    intro a h ⟨hm, hi⟩
    refine k_iload_n hX.1 dX1_listMakes_7 rfl rfl ?_
    refine k_aload_n hX.1 dX1_listMakes_8 rfl rfl ?_
    refine k_geti hX.1 dX1_listMakes_9 flX1_44 rfl (by decide) rfl ?_
    refine k_top (b := A 12 2) (by rw [hi.2.2.2.1 3 (by omega) (by omega)]; exact hc2) ?_
    refine k_icmp_ge (tgt := 84) hX.1 dX1_listMakes_12 (by decide) (by omega) (by omega) (fun c_12 => ?_) (fun c_12 => ?_)
    · skip
      exact absurd c_12 (by omega)
    · skip
      refine k_iload_n hX.1 dX1_listMakes_15 rfl rfl ?_
      refine k_istore_n hX.1 dX1_listMakes_16 rfl (by decide) rfl rfl ?_
      try simp only [List.set_cons_zero, List.set_cons_succ]
      refine lp_lm2 E hC hW (a := a) (by omega) hX (A 12 2 - a).toNat a h ⟨by omega, Nat.le_refl a, hi⟩ (fun h1 hi1 => ?_)
      refine k_iinc hX.1 dX1_listMakes_78 rfl (by decide) rfl rfl ?_
      refine k_goto (tgt := 7) hX.1 dX1_listMakes_81 (by decide) ?_
      have kb := kfT_bd (n := A 12 2) (a := (a : Int)) (by omega) (by omega) hw4
      exact k_sub (by repeat first | exact trivial | refine And.intro rfl ?_) (ih (a + 1) h1 ⟨by omega, by rw [show ((a + 1 : Nat) : Int) = (a : Int) + 1 from rfl, kb.2.2]; exact hi1⟩)

set_option maxRecDepth 100000 in
set_option maxHeartbeats 4000000 in
theorem cU_lm (E : En) {A : St} {g : Mm} {n : Int} (hC : CW A g) (hW : WW A n) : Ok E 1 mX1_listMakes [vR 30, vR 3] g (fun r g' => r = none ∧ lI A g (nmT (A 12 2)) g') := by
  obtain ⟨⟨hc1, hc2, hc3⟩, hcp, hcl⟩ := id hC
  obtain ⟨⟨hw1, hw2, hw3, hw4, hw5, hw6, hw7, hw8⟩, hwp, hwl⟩ := id hW
  refine Ok_of gmX1_listMakes (by omega) (Nat.le_of_ble_eq_true rfl) (fun X hX => ?_)
  show V E X 0 [some (vR 30), some (vR 3), none, none] [] g
  refine k_aload_n hX.1 dX1_listMakes_0 rfl rfl ?_
  refine k_iconst hX.1 dX1_listMakes_1 ?_
  refine k_puti hX.1 dX1_listMakes_2 flX1_41 rfl (by decide) rfl ?_
  refine k_iconst hX.1 dX1_listMakes_5 ?_
  refine k_istore_n hX.1 dX1_listMakes_6 rfl (by decide) rfl rfl ?_
  try simp only [List.set_cons_zero, List.set_cons_succ]
  exact lp_lm1 E hC hW hX (A 12 2).toNat 0 _ ⟨by omega, by rw [wr_at]; rfl, fun i hq => by simp [kfT] at hq; omega, by rw [wr_1, if_neg (by omega)], fun a h1 h2 => wr_off h1, rfl⟩
