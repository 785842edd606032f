theorem wNeed_bd {A : St} {n : Int} (hW : WW A n) {m : Nat} (hm : (m : Int) ≤ A 12 0) : 0 ≤ wNeed A m ∧ wNeed A m ≤ 45 := by
  obtain ⟨⟨hw1, hw2, -⟩, hwp, -⟩ := hW
  have h := sm_bd (f := fun p => if A 2 p = -1 then A 1 p else 0) (a := 0) (b := 9) (n := m) (fun p hp => by
    obtain ⟨-, ⟨h1, h2⟩, -⟩ := hwp p (by omega)

    split <;> omega)
  unfold wNeed
  omega
theorem wTold_bd {A : St} {n : Int} (hW : WW A n) {m : Nat} (hm : (m : Int) ≤ A 12 0) : 0 ≤ wTold A m ∧ wTold A m ≤ 90 := by
  obtain ⟨⟨hw1, hw2, -⟩, hwp, -⟩ := hW
  have h := sm_bd (f := fun p => if A 6 p = -1 then 0 else A 6 p) (a := 0) (b := 18) (n := m) (fun p hp => by
    obtain ⟨-, -, h2, h3, h4, h5, h6, h7⟩ := hwp p (by omega)

    split <;> omega)
  unfold wTold
  omega
theorem wOf_bd {A : St} {n : Int} (hW : WW A n) {m : Nat} (hm : (m : Int) ≤ A 12 0) : 0 ≤ wOf A m ∧ wOf A m ≤ 45 := by
  obtain ⟨⟨hw1, hw2, -⟩, hwp, -⟩ := hW
  have h := sm_bd (f := fun p => if A 6 p = -1 then 0 else A 1 p) (a := 0) (b := 9) (n := m) (fun p hp => by
    obtain ⟨-, ⟨h1, h2⟩, -⟩ := hwp p (by omega)

    split <;> omega)
  unfold wOf
  omega
theorem wProd_bd {A : St} {n : Int} (hW : WW A n) {m : Nat} (hm : (m : Int) ≤ A 12 0) : 0 ≤ wNeed A m * wTold A m ∧ wNeed A m * wTold A m ≤ 4050 := by
  have h1 := wNeed_bd hW hm
  have h2 := wTold_bd hW hm
  refine ⟨Int.mul_nonneg h1.1 h2.1, ?_⟩
  exact Int.mul_le_mul h1.2 h2.2 h2.1 (by decide)
set_option maxRecDepth 100000 in
set_option maxHeartbeats 4000000 in
theorem lp_ballsWanted (E : En) {A : St} {g : Mm} {n : Int} (hC : CW A g) (hW : WW A n) {t : Nat} (ht : (t : Int) < A 12 2) {b : Int} (hb : b = 0 ∨ b = 1) {X : Cx} (hX : Wk E mX6_ballsWanted X 2 (fun r g' => r = some (vI (want A t b)) ∧ g' = g)) : ∀ (m : Nat) (p : Nat) (o q f : Int), m + p = (A 12 0).toNat ∧ o = wNeed A p ∧ q = wTold A p ∧ f = wOf A p → V E X 11 [some (vR 3), some (vI (t : Int)), some (vI b), some (vI o), some (vI q), some (vI f), some (vI (p : Int)), none] [] g := by
  have hC0 := hC
  obtain ⟨⟨hc1, hc2, hc3⟩, hcp, hcl⟩ := hC
  obtain ⟨⟨hw1, hw2, hw3, hw4, hw5, hw6, hw7, hw8⟩, hwp, hwl⟩ := id hW
  obtain ⟨l0, l1, l2⟩ := hcl (t) (by omega)
  obtain ⟨⟨la, lb⟩, ⟨lc, ld⟩, ⟨le, lf⟩⟩ := hwl (t) (by omega)
  intro m
  induction m with
  | zero =>
    intro p o q f hm
    obtain ⟨h1, rfl, rfl, rfl⟩ := hm
    obtain rfl : p = (A 12 0).toNat := by omega
    have b1 := wNeed_bd hW (m := (A 12 0).toNat) (by omega)
    have b2 := wTold_bd hW (m := (A 12 0).toNat) (by omega)
    have b3 := wOf_bd hW (m := (A 12 0).toNat) (by omega)
    have b4 := wProd_bd hW (m := (A 12 0).toNat) (by omega)
    refine k_iload hX.1 dX6_ballsWanted_11 rfl ?_
    refine k_aload_n hX.1 dX6_ballsWanted_13 rfl rfl ?_
    refine k_geti hX.1 dX6_ballsWanted_14 flX6_37 rfl (by decide) rfl ?_
    refine k_icmp_ge (tgt := 82) hX.1 dX6_ballsWanted_17 (by decide) (by omega) (by omega) (fun c_17 => ?_) (fun c_17 => ?_)
    · skip
      refine k_iload_n hX.1 dX6_ballsWanted_82 rfl rfl ?_
      refine k_if_eq (tgt := 104) hX.1 dX6_ballsWanted_83 (by decide) (by omega) (fun c_83 => ?_) (fun c_83 => ?_)
      · skip
        refine k_iconst hX.1 dX6_ballsWanted_104 ?_
        refine k_iload_n hX.1 dX6_ballsWanted_105 rfl rfl ?_
        refine k_aload_n hX.1 dX6_ballsWanted_106 rfl rfl ?_
        refine k_getr (t := 5) hX.1 dX6_ballsWanted_107 flX6_19 rfl (by decide) rfl rfl ?_
        refine k_iload_n hX.1 dX6_ballsWanted_110 rfl rfl ?_
        refine k_aaldL (j := t) (q := 11 + t) hX.1 dX6_ballsWanted_111 rfl (by omega) (n := 3) rfl (by omega) (by omega) rfl ?_
        refine k_callVf (d2 := 1) (n := 0) (as := []) hX.1 dX6_ballsWanted_112 lkX6_76 (fit_of hX (by omega) gmX2_rows) rfl (sk_L11 (by omega)) (by decide) rfl rfl rfl (Nat.le_of_ble_eq_true rfl) (cL_rows E g (t := t) (by omega)) ?_
        refine k_isub hX.1 dX6_ballsWanted_115 ?_
        have b5 : 0 ≤ (wNeed A (A 12 0).toNat * wTold A (A 12 0).toNat + wOf A (A 12 0).toNat - 1) / wOf A (A 12 0).toNat → True := fun _ => trivial
        refine k_max hX.1 dX6_ballsWanted_116 lkX6_143 (by omega) (by omega) (Nat.le_of_ble_eq_true rfl) ?_
        refine k_istore hX.1 dX6_ballsWanted_119 (by decide) rfl rfl ?_
        try simp only [List.set_cons_zero, List.set_cons_succ]
        refine k_iload hX.1 dX6_ballsWanted_121 rfl ?_
        refine k_iconst hX.1 dX6_ballsWanted_123 ?_
        refine k_iadd hX.1 dX6_ballsWanted_124 ?_
        refine k_iconst hX.1 dX6_ballsWanted_125 ?_
        refine k_isub hX.1 dX6_ballsWanted_126 ?_
        refine k_iconst hX.1 dX6_ballsWanted_127 ?_
        refine k_idiv hX.1 dX6_ballsWanted_128 (by omega) (by omega) ?_
        refine k_iret hX dX6_ballsWanted_129 rfl ?_
        refine ⟨?_, rfl⟩
        first
          | (have hr : wRows A b = wNeed A (A 12 0).toNat := by unfold wRows; rw [if_pos (by omega)]
             unfold want rws; rw [hr, l1, l2]; congr 2; split <;> omega)
          | (have hr : wRows A b = (wNeed A (A 12 0).toNat * wTold A (A 12 0).toNat + wOf A (A 12 0).toNat - 1) / wOf A (A 12 0).toNat := by unfold wRows; rw [if_neg (by omega)]
             unfold want rws; rw [hr, l1, l2]; congr 2; split <;> omega)
      · skip
        refine k_iload hX.1 dX6_ballsWanted_86 rfl ?_
        refine k_if_le (tgt := 104) hX.1 dX6_ballsWanted_88 (by decide) (by omega) (fun c_88 => ?_) (fun c_88 => ?_)
        · skip
          refine k_iconst hX.1 dX6_ballsWanted_104 ?_
          refine k_iload_n hX.1 dX6_ballsWanted_105 rfl rfl ?_
          refine k_aload_n hX.1 dX6_ballsWanted_106 rfl rfl ?_
          refine k_getr (t := 5) hX.1 dX6_ballsWanted_107 flX6_19 rfl (by decide) rfl rfl ?_
          refine k_iload_n hX.1 dX6_ballsWanted_110 rfl rfl ?_
          refine k_aaldL (j := t) (q := 11 + t) hX.1 dX6_ballsWanted_111 rfl (by omega) (n := 3) rfl (by omega) (by omega) rfl ?_
          refine k_callVf (d2 := 1) (n := 0) (as := []) hX.1 dX6_ballsWanted_112 lkX6_76 (fit_of hX (by omega) gmX2_rows) rfl (sk_L11 (by omega)) (by decide) rfl rfl rfl (Nat.le_of_ble_eq_true rfl) (cL_rows E g (t := t) (by omega)) ?_
          refine k_isub hX.1 dX6_ballsWanted_115 ?_
          have b5 : 0 ≤ (wNeed A (A 12 0).toNat * wTold A (A 12 0).toNat + wOf A (A 12 0).toNat - 1) / wOf A (A 12 0).toNat → True := fun _ => trivial
          refine k_max hX.1 dX6_ballsWanted_116 lkX6_143 (by omega) (by omega) (Nat.le_of_ble_eq_true rfl) ?_
          refine k_istore hX.1 dX6_ballsWanted_119 (by decide) rfl rfl ?_
          try simp only [List.set_cons_zero, List.set_cons_succ]
          refine k_iload hX.1 dX6_ballsWanted_121 rfl ?_
          refine k_iconst hX.1 dX6_ballsWanted_123 ?_
          refine k_iadd hX.1 dX6_ballsWanted_124 ?_
          refine k_iconst hX.1 dX6_ballsWanted_125 ?_
          refine k_isub hX.1 dX6_ballsWanted_126 ?_
          refine k_iconst hX.1 dX6_ballsWanted_127 ?_
          refine k_idiv hX.1 dX6_ballsWanted_128 (by omega) (by omega) ?_
          refine k_iret hX dX6_ballsWanted_129 rfl ?_
          refine ⟨?_, rfl⟩
          first
            | (have hr : wRows A b = wNeed A (A 12 0).toNat := by unfold wRows; rw [if_pos (by omega)]
               unfold want rws; rw [hr, l1, l2]; congr 2; split <;> omega)
            | (have hr : wRows A b = (wNeed A (A 12 0).toNat * wTold A (A 12 0).toNat + wOf A (A 12 0).toNat - 1) / wOf A (A 12 0).toNat := by unfold wRows; rw [if_neg (by omega)]
               unfold want rws; rw [hr, l1, l2]; congr 2; split <;> omega)
        · skip
          refine k_iload_n hX.1 dX6_ballsWanted_91 rfl rfl ?_
          refine k_iload hX.1 dX6_ballsWanted_92 rfl ?_
          refine k_imul hX.1 dX6_ballsWanted_94 ?_
          refine k_iload hX.1 dX6_ballsWanted_95 rfl ?_
          refine k_iadd hX.1 dX6_ballsWanted_97 ?_
          refine k_iconst hX.1 dX6_ballsWanted_98 ?_
          refine k_isub hX.1 dX6_ballsWanted_99 ?_
          refine k_iload hX.1 dX6_ballsWanted_100 rfl ?_
          refine k_idiv hX.1 dX6_ballsWanted_102 (by omega) (by omega) ?_
          have b6 : 0 ≤ (wNeed A (A 12 0).toNat * wTold A (A 12 0).toNat + wOf A (A 12 0).toNat - 1) / wOf A (A 12 0).toNat ∧ (wNeed A (A 12 0).toNat * wTold A (A 12 0).toNat + wOf A (A 12 0).toNat - 1) / wOf A (A 12 0).toNat ≤ 5000 := ⟨Int.ediv_nonneg (by omega) (by omega), Int.le_trans (Int.ediv_le_self _ (by omega)) (by omega)⟩
          refine k_istore_n hX.1 dX6_ballsWanted_103 rfl (by decide) rfl rfl ?_
          try simp only [List.set_cons_zero, List.set_cons_succ]
          refine k_iconst hX.1 dX6_ballsWanted_104 ?_
          refine k_iload_n hX.1 dX6_ballsWanted_105 rfl rfl ?_
          refine k_aload_n hX.1 dX6_ballsWanted_106 rfl rfl ?_
          refine k_getr (t := 5) hX.1 dX6_ballsWanted_107 flX6_19 rfl (by decide) rfl rfl ?_
          refine k_iload_n hX.1 dX6_ballsWanted_110 rfl rfl ?_
          refine k_aaldL (j := t) (q := 11 + t) hX.1 dX6_ballsWanted_111 rfl (by omega) (n := 3) rfl (by omega) (by omega) rfl ?_
          refine k_callVf (d2 := 1) (n := 0) (as := []) hX.1 dX6_ballsWanted_112 lkX6_76 (fit_of hX (by omega) gmX2_rows) rfl (sk_L11 (by omega)) (by decide) rfl rfl rfl (Nat.le_of_ble_eq_true rfl) (cL_rows E g (t := t) (by omega)) ?_
          refine k_isub hX.1 dX6_ballsWanted_115 ?_
          have b5 : 0 ≤ (wNeed A (A 12 0).toNat * wTold A (A 12 0).toNat + wOf A (A 12 0).toNat - 1) / wOf A (A 12 0).toNat → True := fun _ => trivial
          refine k_max hX.1 dX6_ballsWanted_116 lkX6_143 (by omega) (by omega) (Nat.le_of_ble_eq_true rfl) ?_
          refine k_istore hX.1 dX6_ballsWanted_119 (by decide) rfl rfl ?_
          try simp only [List.set_cons_zero, List.set_cons_succ]
          refine k_iload hX.1 dX6_ballsWanted_121 rfl ?_
          refine k_iconst hX.1 dX6_ballsWanted_123 ?_
          refine k_iadd hX.1 dX6_ballsWanted_124 ?_
          refine k_iconst hX.1 dX6_ballsWanted_125 ?_
          refine k_isub hX.1 dX6_ballsWanted_126 ?_
          refine k_iconst hX.1 dX6_ballsWanted_127 ?_
          refine k_idiv hX.1 dX6_ballsWanted_128 (by omega) (by omega) ?_
          refine k_iret hX dX6_ballsWanted_129 rfl ?_
          refine ⟨?_, rfl⟩
          first
            | (have hr : wRows A b = wNeed A (A 12 0).toNat := by unfold wRows; rw [if_pos (by omega)]
               unfold want rws; rw [hr, l1, l2]; congr 2; split <;> omega)
            | (have hr : wRows A b = (wNeed A (A 12 0).toNat * wTold A (A 12 0).toNat + wOf A (A 12 0).toNat - 1) / wOf A (A 12 0).toNat := by unfold wRows; rw [if_neg (by omega)]
               unfold want rws; rw [hr, l1, l2]; congr 2; split <;> omega)
    · skip
      exact absurd c_17 (by omega)
  | succ m ih =>
    intro p o q f hm
    obtain ⟨e0, e1, e2, e3, e4, e5, e6, e7⟩ := hcp (p) (by omega)
    obtain ⟨⟨ek1, ek2⟩, ⟨er1, er2⟩, ew2, ew3, ew4, ew5, ew6, ew7⟩ := hwp (p) (by omega)
    refine k_iload hX.1 dX6_ballsWanted_11 rfl ?_
    refine k_aload_n hX.1 dX6_ballsWanted_13 rfl rfl ?_
    refine k_geti hX.1 dX6_ballsWanted_14 flX6_37 rfl (by decide) rfl ?_
    refine k_icmp_ge (tgt := 82) hX.1 dX6_ballsWanted_17 (by decide) (by omega) (by omega) (fun c_17 => ?_) (fun c_17 => ?_)
    · skip
      exact absurd c_17 (by omega)
    · skip
      refine k_aload_n hX.1 dX6_ballsWanted_20 rfl rfl ?_
      refine k_getr (t := 4) hX.1 dX6_ballsWanted_21 flX6_11 rfl (by decide) rfl rfl ?_
      refine k_iload hX.1 dX6_ballsWanted_24 rfl ?_
      refine k_aaldP (j := p) (q := 6 + p) hX.1 dX6_ballsWanted_26 rfl (by omega) (n := 5) rfl (by omega) (by omega) rfl ?_
      refine k_astore hX.1 dX6_ballsWanted_27 (by decide) rfl rfl ?_
      try simp only [List.set_cons_zero, List.set_cons_succ]
      refine k_aload hX.1 dX6_ballsWanted_29 rfl ?_
      refine k_callVf (d2 := 1) (n := 0) (as := []) hX.1 dX6_ballsWanted_31 lkX6_120 (fit_of hX (by omega) gmX4_isKnitted) rfl (sk_P6 (by omega)) (by decide) rfl rfl rfl (Nat.le_of_ble_eq_true rfl) (cP_isKnitted E g (by omega) (by omega)) ?_
      refine k_if_ne (tgt := 48) hX.1 dX6_ballsWanted_34 (by decide) (by split <;> omega) (fun c_34 => ?_) (fun c_34 => ?_)
      · skip
        have h0 : ¬ A 2 p = -1 := by
          intro z; exact c_34 (if_pos (by omega))
        refine k_aload hX.1 dX6_ballsWanted_48 rfl ?_
        refine k_getz hX.1 dX6_ballsWanted_50 flX6_139 (sk_P6 (by omega)) (by decide) rfl ?_
        refine k_if_eq (tgt := 76) hX.1 dX6_ballsWanted_53 (by decide) (by rw [e6]; split <;> omega) (fun c_53 => ?_) (fun c_53 => ?_)
        · skip
          have h1 : A 6 p = -1 := by
            apply Classical.byContradiction; intro z; rw [e6, if_neg z] at c_53; exact absurd c_53 (by decide)
          refine k_iinc hX.1 dX6_ballsWanted_76 rfl (by decide) rfl rfl ?_
          try simp only [List.set_cons_zero, List.set_cons_succ]
          refine k_goto (tgt := 11) hX.1 dX6_ballsWanted_79 (by decide) ?_
          exact k_sub (by repeat first | exact trivial | refine And.intro rfl ?_) (ih (p + 1) _ _ _ ⟨by omega, by obtain ⟨-, rfl, -, -⟩ := hm; simp only [wNeed, sm]; first | (rw [if_pos h0]; omega) | (rw [if_neg h0]; omega), by obtain ⟨-, -, rfl, -⟩ := hm; simp only [wTold, sm]; first | (rw [if_pos h1]; omega) | (rw [if_neg h1]; omega) | (rw [if_pos (by omega)]; omega), by obtain ⟨-, -, -, rfl⟩ := hm; simp only [wOf, sm]; first | (rw [if_pos h1]; omega) | (rw [if_neg h1]; omega) | (rw [if_pos (by omega)]; omega)⟩)
        · skip
          have h1 : ¬ A 6 p = -1 := by
            intro z; exact c_53 (e6.trans (if_pos z))
          refine k_iload hX.1 dX6_ballsWanted_56 rfl ?_
          refine k_aload hX.1 dX6_ballsWanted_58 rfl ?_
          refine k_geti hX.1 dX6_ballsWanted_60 flX6_85 (sk_P6 (by omega)) (by decide) rfl ?_
          refine k_iadd hX.1 dX6_ballsWanted_63 ?_
          refine k_istore hX.1 dX6_ballsWanted_64 (by decide) rfl rfl ?_
          try simp only [List.set_cons_zero, List.set_cons_succ]
          refine k_iload hX.1 dX6_ballsWanted_66 rfl ?_
          refine k_aload hX.1 dX6_ballsWanted_68 rfl ?_
          refine k_geti hX.1 dX6_ballsWanted_70 flX6_69 (sk_P6 (by omega)) (by decide) rfl ?_
          refine k_iadd hX.1 dX6_ballsWanted_73 ?_
          refine k_istore hX.1 dX6_ballsWanted_74 (by decide) rfl rfl ?_
          try simp only [List.set_cons_zero, List.set_cons_succ]
          refine k_iinc hX.1 dX6_ballsWanted_76 rfl (by decide) rfl rfl ?_
          try simp only [List.set_cons_zero, List.set_cons_succ]
          refine k_goto (tgt := 11) hX.1 dX6_ballsWanted_79 (by decide) ?_
          exact k_sub (by repeat first | exact trivial | refine And.intro rfl ?_) (ih (p + 1) _ _ _ ⟨by omega, by obtain ⟨-, rfl, -, -⟩ := hm; simp only [wNeed, sm]; first | (rw [if_pos h0]; omega) | (rw [if_neg h0]; omega), by obtain ⟨-, -, rfl, -⟩ := hm; simp only [wTold, sm]; first | (rw [if_pos h1]; omega) | (rw [if_neg h1]; omega) | (rw [if_pos (by omega)]; omega), by obtain ⟨-, -, -, rfl⟩ := hm; simp only [wOf, sm]; first | (rw [if_pos h1]; omega) | (rw [if_neg h1]; omega) | (rw [if_pos (by omega)]; omega)⟩)
      · skip
        have h0 : A 2 p = -1 := by
          apply Classical.byContradiction; intro z; rw [if_neg (by omega)] at c_34; exact absurd c_34 (by decide)
        refine k_iload_n hX.1 dX6_ballsWanted_37 rfl rfl ?_
        refine k_aload hX.1 dX6_ballsWanted_38 rfl ?_
        refine k_geti hX.1 dX6_ballsWanted_40 flX6_69 (sk_P6 (by omega)) (by decide) rfl ?_
        refine k_iadd hX.1 dX6_ballsWanted_43 ?_
        refine k_istore_n hX.1 dX6_ballsWanted_44 rfl (by decide) rfl rfl ?_
        try simp only [List.set_cons_zero, List.set_cons_succ]
        refine k_goto (tgt := 76) hX.1 dX6_ballsWanted_45 (by decide) ?_
        refine k_iinc hX.1 dX6_ballsWanted_76 rfl (by decide) rfl rfl ?_
        try simp only [List.set_cons_zero, List.set_cons_succ]
        refine k_goto (tgt := 11) hX.1 dX6_ballsWanted_79 (by decide) ?_
        exact k_sub (by repeat first | exact trivial | refine And.intro rfl ?_) (ih (p + 1) _ _ _ ⟨by omega, by obtain ⟨-, rfl, -, -⟩ := hm; simp only [wNeed, sm]; first | (rw [if_pos h0]; omega) | (rw [if_neg h0]; omega), by obtain ⟨-, -, rfl, -⟩ := hm; simp only [wTold, sm]; first | (rw [if_pos h1]; omega) | (rw [if_neg h1]; omega) | (rw [if_pos (by omega)]; omega), by obtain ⟨-, -, -, rfl⟩ := hm; simp only [wOf, sm]; first | (rw [if_pos h1]; omega) | (rw [if_neg h1]; omega) | (rw [if_pos (by omega)]; omega)⟩)

set_option maxRecDepth 100000 in
set_option maxHeartbeats 4000000 in
theorem cW_ballsWanted (E : En) {A : St} {g : Mm} {n : Int} (hC : CW A g) (hW : WW A n) {t : Nat} (ht : (t : Int) < A 12 2) {b : Int} (hb : b = 0 ∨ b = 1) : Fn E 2 mX6_ballsWanted [vR 3, vI (t : Int), vI b] g (vI (want A t b)) := by
  have hC0 := hC
  obtain ⟨⟨hc1, hc2, hc3⟩, hcp, hcl⟩ := hC
  obtain ⟨⟨hw1, hw2, hw3, hw4, hw5, hw6, hw7, hw8⟩, hwp, hwl⟩ := id hW
  refine Ok_of gmX6_ballsWanted (by omega) (Nat.le_of_ble_eq_true rfl) (fun X hX => ?_)
  show V E X 0 [some (vR 3), some (vI (t : Int)), some (vI b), none, none, none, none, none] [] g
  refine k_iconst hX.1 dX6_ballsWanted_0 ?_
  refine k_istore_n hX.1 dX6_ballsWanted_1 rfl (by decide) rfl rfl ?_
  try simp only [List.set_cons_zero, List.set_cons_succ]
  refine k_iconst hX.1 dX6_ballsWanted_2 ?_
  refine k_istore hX.1 dX6_ballsWanted_3 (by decide) rfl rfl ?_
  try simp only [List.set_cons_zero, List.set_cons_succ]
  refine k_iconst hX.1 dX6_ballsWanted_5 ?_
  refine k_istore hX.1 dX6_ballsWanted_6 (by decide) rfl rfl ?_
  try simp only [List.set_cons_zero, List.set_cons_succ]
  refine k_iconst hX.1 dX6_ballsWanted_8 ?_
  refine k_istore hX.1 dX6_ballsWanted_9 (by decide) rfl rfl ?_
  try simp only [List.set_cons_zero, List.set_cons_succ]
  exact lp_ballsWanted E hC0 hW ht hb hX (A 12 0).toNat 0 0 0 0 ⟨by omega, rfl, rfl, rfl⟩

set_option maxRecDepth 100000 in
set_option maxHeartbeats 4000000 in
theorem cW_tellPart (E : En) {A : St} {g : Mm} {n : Int} (hC : CW A g) (hW : WW A n) {p : Nat} (hp : (p : Int) < A 12 0) {q : Int} (hq : 0 ≤ q ∧ q ≤ 8) : Fn E 4 mX6_tellPart [vR 3, vI (p : Int), vI q] g (vI (pn A p q)) := by
  have hC0 := hC
  obtain ⟨⟨hc1, hc2, hc3⟩, hcp, hcl⟩ := hC
  obtain ⟨⟨hw1, hw2, hw3, hw4, hw5, hw6, hw7, hw8⟩, hwp, hwl⟩ := id hW
  obtain ⟨e0, e1, e2, e3, e4, e5, e6, e7⟩ := hcp (p) (by omega)
  obtain ⟨⟨ek1, ek2⟩, ⟨er1, er2⟩, ew2, ew3, ew4, ew5, ew6, ew7⟩ := hwp (p) (by omega)
  refine Ok_of gmX6_tellPart (by omega) (Nat.le_of_ble_eq_true rfl) (fun X hX => ?_)
  show V E X 0 [some (vR 3), some (vI (p : Int)), some (vI q), none] [] g
  refine k_aload_n hX.1 dX6_tellPart_0 rfl rfl ?_
  refine k_getr (t := 4) hX.1 dX6_tellPart_1 flX6_11 rfl (by decide) rfl rfl ?_
  refine k_iload_n hX.1 dX6_tellPart_4 rfl rfl ?_
  refine k_aaldP (j := p) (q := 6 + p) hX.1 dX6_tellPart_5 rfl (by omega) (n := 5) rfl (by omega) (by omega) rfl ?_
  refine k_astore_n hX.1 dX6_tellPart_6 rfl (by decide) rfl rfl ?_
  try simp only [List.set_cons_zero, List.set_cons_succ]
  refine k_iload_n hX.1 dX6_tellPart_7 rfl rfl ?_
  rcases (show q = 0 ∨ q = 1 ∨ q = 2 ∨ q = 3 ∨ q = 4 ∨ q = 5 ∨ q = 6 ∨ q = 7 ∨ (¬ q = 0 ∧ ¬ q = 1 ∧ ¬ q = 2 ∧ ¬ q = 3 ∧ ¬ q = 4 ∧ ¬ q = 5 ∧ ¬ q = 6 ∧ ¬ q = 7) by omega) with s_8 | s_8 | s_8 | s_8 | s_8 | s_8 | s_8 | s_8 | s_8
  · refine k_tableIn (tgt := 56) (off := 48) hX.1 dX6_tellPart_8 (by omega) (by omega) (by omega) (by rw [s_8]; rfl) (by decide) ?_
    skip
    refine k_aload_n hX.1 dX6_tellPart_56 rfl rfl ?_
    refine k_geti hX.1 dX6_tellPart_57 flX6_117 (sk_P6 (by omega)) (by decide) rfl ?_
    refine k_iret hX dX6_tellPart_60 rfl ?_
    refine ⟨?_, rfl⟩
    simp [pn, s_8, e0, e1, e2, e3, e4, e5, e7]
  · refine k_tableIn (tgt := 61) (off := 53) hX.1 dX6_tellPart_8 (by omega) (by omega) (by omega) (by rw [s_8]; rfl) (by decide) ?_
    skip
    refine k_aload_n hX.1 dX6_tellPart_61 rfl rfl ?_
    refine k_geti hX.1 dX6_tellPart_62 flX6_69 (sk_P6 (by omega)) (by decide) rfl ?_
    refine k_iret hX dX6_tellPart_65 rfl ?_
    refine ⟨?_, rfl⟩
    simp [pn, s_8, e0, e1, e2, e3, e4, e5, e7]
  · refine k_tableIn (tgt := 66) (off := 58) hX.1 dX6_tellPart_8 (by omega) (by omega) (by omega) (by rw [s_8]; rfl) (by decide) ?_
    skip
    refine k_aload_n hX.1 dX6_tellPart_66 rfl rfl ?_
    refine k_callVf (d2 := 1) (n := 0) (as := []) hX.1 dX6_tellPart_67 lkX6_114 (fit_of hX (by omega) gmX4_light) rfl (sk_P6 (by omega)) (by decide) rfl rfl rfl (Nat.le_of_ble_eq_true rfl) (cP_light E g (by omega) (by omega)) ?_
    refine k_iret hX dX6_tellPart_70 rfl ?_
    refine ⟨?_, rfl⟩
    simp [pn, s_8, e0, e1, e2, e3, e4, e5, e7]
  · refine k_tableIn (tgt := 71) (off := 63) hX.1 dX6_tellPart_8 (by omega) (by omega) (by omega) (by rw [s_8]; rfl) (by decide) ?_
    skip
    refine k_aload_n hX.1 dX6_tellPart_71 rfl rfl ?_
    refine k_geti hX.1 dX6_tellPart_72 flX6_79 (sk_P6 (by omega)) (by decide) rfl ?_
    refine k_iret hX dX6_tellPart_75 rfl ?_
    refine ⟨?_, rfl⟩
    simp [pn, s_8, e0, e1, e2, e3, e4, e5, e7]
  · refine k_tableIn (tgt := 76) (off := 68) hX.1 dX6_tellPart_8 (by omega) (by omega) (by omega) (by rw [s_8]; rfl) (by decide) ?_
    skip
    refine k_aload_n hX.1 dX6_tellPart_76 rfl rfl ?_
    refine k_geti hX.1 dX6_tellPart_77 flX6_82 (sk_P6 (by omega)) (by decide) rfl ?_
    refine k_iret hX dX6_tellPart_80 rfl ?_
    refine ⟨?_, rfl⟩
    simp [pn, s_8, e0, e1, e2, e3, e4, e5, e7]
  · refine k_tableIn (tgt := 81) (off := 73) hX.1 dX6_tellPart_8 (by omega) (by omega) (by omega) (by rw [s_8]; rfl) (by decide) ?_
    skip
    refine k_aload_n hX.1 dX6_tellPart_81 rfl rfl ?_
    refine k_iload_n hX.1 dX6_tellPart_82 rfl rfl ?_
    refine k_callVf (d2 := 2) (n := 1) (as := [_]) hX.1 dX6_tellPart_83 lkX6_124 (fit_of hX (by omega) gmX6_tone) rfl rfl (by decide) rfl rfl rfl (Nat.le_of_ble_eq_true rfl) (cW_tone E hC0 hW hp) ?_
    refine k_iret hX dX6_tellPart_86 rfl ?_
    refine ⟨?_, rfl⟩
    simp [pn, s_8, e0, e1, e2, e3, e4, e5, e7]
  · refine k_tableIn (tgt := 87) (off := 79) hX.1 dX6_tellPart_8 (by omega) (by omega) (by omega) (by rw [s_8]; rfl) (by decide) ?_
    skip
    refine k_aload_n hX.1 dX6_tellPart_87 rfl rfl ?_
    refine k_iload_n hX.1 dX6_tellPart_88 rfl rfl ?_
    refine k_callVf (d2 := 3) (n := 1) (as := [_]) hX.1 dX6_tellPart_89 lkX6_130 (fit_of hX (by omega) gmX6_seenNext) rfl rfl (by decide) rfl rfl rfl (Nat.le_of_ble_eq_true rfl) (cW_seenNext E hC0 hW hp) ?_
    refine k_iret hX dX6_tellPart_92 rfl ?_
    refine ⟨?_, rfl⟩
    simp [pn, s_8, e0, e1, e2, e3, e4, e5, e7]
  · refine k_tableIn (tgt := 93) (off := 85) hX.1 dX6_tellPart_8 (by omega) (by omega) (by omega) (by rw [s_8]; rfl) (by decide) ?_
    skip
    refine k_aload_n hX.1 dX6_tellPart_93 rfl rfl ?_
    refine k_geti hX.1 dX6_tellPart_94 flX6_85 (sk_P6 (by omega)) (by decide) rfl ?_
    refine k_aload_n hX.1 dX6_tellPart_97 rfl rfl ?_
    refine k_geti hX.1 dX6_tellPart_98 flX6_88 (sk_P6 (by omega)) (by decide) rfl ?_
    refine k_iadd hX.1 dX6_tellPart_101 ?_
    refine k_iret hX dX6_tellPart_102 rfl ?_
    refine ⟨?_, rfl⟩
    simp [pn, s_8, e0, e1, e2, e3, e4, e5, e7]
  · refine k_tableOut (tgt := 103) hX.1 dX6_tellPart_8 (by omega) (by omega) (by decide) ?_
    skip
    refine k_aload_n hX.1 dX6_tellPart_103 rfl rfl ?_
    refine k_geti hX.1 dX6_tellPart_104 flX6_133 (sk_P6 (by omega)) (by decide) rfl ?_
    refine k_iret hX dX6_tellPart_107 rfl ?_
    refine ⟨?_, rfl⟩
    simp [pn, s_8, e0, e1, e2, e3, e4, e5, e7]

def cA (A : St) (q : Int) : Int := if q = 0 then A 12 0 else if q = 1 then A 12 1 else if q = 2 then A 12 2 else if q = 3 then kC A else if q = 4 then sAll A else if q = 5 then lS A 1 else if q = 6 then lS A 2 else fC A
set_option maxRecDepth 100000 in
set_option maxHeartbeats 4000000 in
theorem cW_tellAll (E : En) {A : St} {g : Mm} {n : Int} (hC : CW A g) (hW : WW A n) {q : Int} (hq : 0 ≤ q ∧ q ≤ 7) : Fn E 5 mX6_tellAll [vR 3, vI q] g (vI (cA A q)) := by
  have hC0 := hC
  obtain ⟨⟨hc1, hc2, hc3⟩, hcp, hcl⟩ := hC
  obtain ⟨⟨hw1, hw2, hw3, hw4, hw5, hw6, hw7, hw8⟩, hwp, hwl⟩ := id hW
  refine Ok_of gmX6_tellAll (by omega) (Nat.le_of_ble_eq_true rfl) (fun X hX => ?_)
  show V E X 0 [some (vR 3), some (vI q)] [] g
  refine k_iload_n hX.1 dX6_tellAll_0 rfl rfl ?_
  rcases (show q = 0 ∨ q = 1 ∨ q = 2 ∨ q = 3 ∨ q = 4 ∨ q = 5 ∨ q = 6 ∨ (¬ q = 0 ∧ ¬ q = 1 ∧ ¬ q = 2 ∧ ¬ q = 3 ∧ ¬ q = 4 ∧ ¬ q = 5 ∧ ¬ q = 6) by omega) with s_1 | s_1 | s_1 | s_1 | s_1 | s_1 | s_1 | s_1
  · refine k_tableIn (tgt := 44) (off := 43) hX.1 dX6_tellAll_1 (by omega) (by omega) (by omega) (by rw [s_1]; rfl) (by decide) ?_
    skip
    refine k_aload_n hX.1 dX6_tellAll_44 rfl rfl ?_
    refine k_geti hX.1 dX6_tellAll_45 flX6_37 rfl (by decide) rfl ?_
    refine k_iret hX dX6_tellAll_48 rfl ?_
    refine ⟨?_, rfl⟩
    simp [cA, s_1, hc1, hc2, hc3]
  · refine k_tableIn (tgt := 49) (off := 48) hX.1 dX6_tellAll_1 (by omega) (by omega) (by omega) (by rw [s_1]; rfl) (by decide) ?_
    skip
    refine k_aload_n hX.1 dX6_tellAll_49 rfl rfl ?_
    refine k_geti hX.1 dX6_tellAll_50 flX6_59 rfl (by decide) rfl ?_
    refine k_iret hX dX6_tellAll_53 rfl ?_
    refine ⟨?_, rfl⟩
    simp [cA, s_1, hc1, hc2, hc3]
  · refine k_tableIn (tgt := 54) (off := 53) hX.1 dX6_tellAll_1 (by omega) (by omega) (by omega) (by rw [s_1]; rfl) (by decide) ?_
    skip
    refine k_aload_n hX.1 dX6_tellAll_54 rfl rfl ?_
    refine k_geti hX.1 dX6_tellAll_55 flX6_40 rfl (by decide) rfl ?_
    refine k_iret hX dX6_tellAll_58 rfl ?_
    refine ⟨?_, rfl⟩
    simp [cA, s_1, hc1, hc2, hc3]
  · refine k_tableIn (tgt := 59) (off := 58) hX.1 dX6_tellAll_1 (by omega) (by omega) (by omega) (by rw [s_1]; rfl) (by decide) ?_
    skip
    refine k_aload_n hX.1 dX6_tellAll_59 rfl rfl ?_
    refine k_callVf (d2 := 2) (n := 0) (as := []) hX.1 dX6_tellAll_60 lkX6_146 (fit_of hX (by omega) gmX6_knittedCount) rfl rfl (by decide) rfl rfl rfl (Nat.le_of_ble_eq_true rfl) (cW_knittedCount E hC0 hW) ?_
    refine k_iret hX dX6_tellAll_63 rfl ?_
    refine ⟨?_, rfl⟩
    simp [cA, s_1, hc1, hc2, hc3]
  · refine k_tableIn (tgt := 64) (off := 63) hX.1 dX6_tellAll_1 (by omega) (by omega) (by omega) (by rw [s_1]; rfl) (by decide) ?_
    skip
    refine k_aload_n hX.1 dX6_tellAll_64 rfl rfl ?_
    refine k_callVf (d2 := 4) (n := 0) (as := []) hX.1 dX6_tellAll_65 lkX6_149 (fit_of hX (by omega) gmX6_seenOfAll) rfl rfl (by decide) rfl rfl rfl (Nat.le_of_ble_eq_true rfl) (cW_seenOfAll E hC0 hW) ?_
    refine k_iret hX dX6_tellAll_68 rfl ?_
    refine ⟨?_, rfl⟩
    simp [cA, s_1, hc1, hc2, hc3]
  · refine k_tableIn (tgt := 69) (off := 68) hX.1 dX6_tellAll_1 (by omega) (by omega) (by omega) (by rw [s_1]; rfl) (by decide) ?_
    skip
    refine k_aload_n hX.1 dX6_tellAll_69 rfl rfl ?_
    refine k_iconst hX.1 dX6_tellAll_70 ?_
    refine k_callVf (d2 := 2) (n := 1) (as := [_]) hX.1 dX6_tellAll_71 lkX6_152 (fit_of hX (by omega) gmX6_sumOfLots) rfl rfl (by decide) rfl rfl rfl (Nat.le_of_ble_eq_true rfl) (cW_sumOfLots E hC0 hW (by omega)) ?_
    refine k_iret hX dX6_tellAll_74 rfl ?_
    refine ⟨?_, rfl⟩
    simp [cA, s_1, hc1, hc2, hc3]
  · refine k_tableIn (tgt := 75) (off := 74) hX.1 dX6_tellAll_1 (by omega) (by omega) (by omega) (by rw [s_1]; rfl) (by decide) ?_
    skip
    refine k_aload_n hX.1 dX6_tellAll_75 rfl rfl ?_
    refine k_iconst hX.1 dX6_tellAll_76 ?_
    refine k_callVf (d2 := 2) (n := 1) (as := [_]) hX.1 dX6_tellAll_77 lkX6_152 (fit_of hX (by omega) gmX6_sumOfLots) rfl rfl (by decide) rfl rfl rfl (Nat.le_of_ble_eq_true rfl) (cW_sumOfLots E hC0 hW (by omega)) ?_
    refine k_iret hX dX6_tellAll_80 rfl ?_
    refine ⟨?_, rfl⟩
    simp [cA, s_1, hc1, hc2, hc3]
  · refine k_tableOut (tgt := 81) hX.1 dX6_tellAll_1 (by omega) (by omega) (by decide) ?_
    skip
    refine k_aload_n hX.1 dX6_tellAll_81 rfl rfl ?_
    refine k_callVf (d2 := 1) (n := 0) (as := []) hX.1 dX6_tellAll_82 lkX6_155 (fit_of hX (by omega) gmX6_foundCount) rfl rfl (by decide) rfl rfl rfl (Nat.le_of_ble_eq_true rfl) (cW_foundCount E hC0 hW) ?_
    refine k_iret hX dX6_tellAll_85 rfl ?_
    refine ⟨?_, rfl⟩
    simp [cA, s_1, hc1, hc2, hc3]

set_option maxRecDepth 100000 in
set_option maxHeartbeats 4000000 in
theorem cX_rof (E : En) (g : Mm) {r a b : Int} (hr : 0 ≤ r ∧ r ≤ 100) (ha : bd a) (hb : bd b) : Fn E 1 mX7_rowsOfFirst [vI r, vI a, vI b] g (vI (if a = b then r else (r + 1) / 2)) := by
  refine Ok_of gmX7_rowsOfFirst (by omega) (Nat.le_of_ble_eq_true rfl) (fun X hX => ?_)
  show V E X 0 [some (vI r), some (vI a), some (vI b)] [] g
  refine k_iload_n hX.1 dX7_rowsOfFirst_0 rfl rfl ?_
  refine k_iload_n hX.1 dX7_rowsOfFirst_1 rfl rfl ?_
  refine k_icmp_ne (tgt := 9) hX.1 dX7_rowsOfFirst_2 (by decide) (by omega) (by omega) (fun c_2 => ?_) (fun c_2 => ?_)
  · skip
    refine k_iload_n hX.1 dX7_rowsOfFirst_9 rfl rfl ?_
    refine k_iconst hX.1 dX7_rowsOfFirst_10 ?_
    refine k_iadd hX.1 dX7_rowsOfFirst_11 ?_
    refine k_iconst hX.1 dX7_rowsOfFirst_12 ?_
    refine k_idiv hX.1 dX7_rowsOfFirst_13 (by omega) (by omega) ?_
    refine k_iret hX dX7_rowsOfFirst_14 rfl ?_
    refine ⟨?_, rfl⟩
    congr 2
    split <;> omega
  · skip
    refine k_iload_n hX.1 dX7_rowsOfFirst_5 rfl rfl ?_
    refine k_goto (tgt := 14) hX.1 dX7_rowsOfFirst_6 (by decide) ?_
    refine k_iret hX dX7_rowsOfFirst_14 rfl ?_
    refine ⟨?_, rfl⟩
    congr 2
    split <;> omega

def fdd (s f : Int) : Int := if s > 10 then max 10 (s - f) else min 10 (s + f)
set_option maxRecDepth 100000 in
set_option maxHeartbeats 4000000 in
theorem cX_faded (E : En) (g : Mm) {s f : Int} (hs : 0 ≤ s ∧ s ≤ 100) (hf : 0 ≤ f ∧ f ≤ 100) : Fn E 2 mX7_faded [vI s, vI f] g (vI (fdd s f)) := by
  refine Ok_of gmX7_faded (by omega) (Nat.le_of_ble_eq_true rfl) (fun X hX => ?_)
  show V E X 0 [some (vI s), some (vI f)] [] g
  refine k_iload_n hX.1 dX7_faded_0 rfl rfl ?_
  refine k_bipush hX.1 dX7_faded_1 (by decide) ?_
  refine k_icmp_le (tgt := 15) hX.1 dX7_faded_3 (by decide) (by omega) (by omega) (fun c_3 => ?_) (fun c_3 => ?_)
  · skip
    refine k_bipush hX.1 dX7_faded_15 (by decide) ?_
    refine k_iload_n hX.1 dX7_faded_17 rfl rfl ?_
    refine k_iload_n hX.1 dX7_faded_18 rfl rfl ?_
    refine k_iadd hX.1 dX7_faded_19 ?_
    refine k_min hX.1 dX7_faded_20 lkX7_227 (by omega) (by omega) (Nat.le_of_ble_eq_true rfl) ?_
    refine k_iret hX dX7_faded_23 rfl ?_
    refine ⟨?_, rfl⟩
    congr 2
    unfold fdd
    split <;> omega
  · skip
    refine k_bipush hX.1 dX7_faded_6 (by decide) ?_
    refine k_iload_n hX.1 dX7_faded_8 rfl rfl ?_
    refine k_iload_n hX.1 dX7_faded_9 rfl rfl ?_
    refine k_isub hX.1 dX7_faded_10 ?_
    refine k_max hX.1 dX7_faded_11 lkX7_222 (by omega) (by omega) (Nat.le_of_ble_eq_true rfl) ?_
    refine k_iret hX dX7_faded_14 rfl ?_
    refine ⟨?_, rfl⟩
    congr 2
    unfold fdd
    split <;> omega

def hf (A : St) (p a b : Nat) : Int := if (a : Int) = (b : Int) then A 1 p else (A 1 p + 1) / 2
set_option maxRecDepth 100000 in
set_option maxHeartbeats 4000000 in
theorem cW_canMake (E : En) {A : St} {g : Mm} {n : Int} (hC : CW A g) (hW : WW A n) {p a b : Nat} (hp : (p : Int) < A 12 0) (ha : (a : Int) < A 12 2) (hb : (b : Int) < A 12 2) : Fn E 2 mX6_canMake [vR 3, vI (p : Int), vI (a : Int), vI (b : Int)] g (vI (if hf A p a b ≤ rws A a ∧ A 1 p - hf A p a b ≤ rws A b then 1 else 0)) := by
  have hC0 := hC
  obtain ⟨⟨hc1, hc2, hc3⟩, hcp, hcl⟩ := hC
  obtain ⟨⟨hw1, hw2, hw3, hw4, hw5, hw6, hw7, hw8⟩, hwp, hwl⟩ := id hW
  obtain ⟨e0, e1, e2, e3, e4, e5, e6, e7⟩ := hcp (p) (by omega)
  obtain ⟨⟨ek1, ek2⟩, ⟨er1, er2⟩, ew2, ew3, ew4, ew5, ew6, ew7⟩ := hwp (p) (by omega)
  obtain ⟨k0, k1, k2⟩ := hcl (a) (by omega)
  obtain ⟨⟨ka, kb⟩, ⟨kc, kd⟩, ⟨ke, kf⟩⟩ := hwl (a) (by omega)
  obtain ⟨l0, l1, l2⟩ := hcl (b) (by omega)
  obtain ⟨⟨la, lb⟩, ⟨lc, ld⟩, ⟨le, lf⟩⟩ := hwl (b) (by omega)
  have hh : 0 ≤ hf A p a b ∧ hf A p a b ≤ A 1 p := by unfold hf; split <;> omega
  have he : (if (a : Int) = (b : Int) then g.1 (6 + p) 1 else (g.1 (6 + p) 1 + 1) / 2) = hf A p a b := by rw [e1]; rfl
  refine Ok_of gmX6_canMake (by omega) (Nat.le_of_ble_eq_true rfl) (fun X hX => ?_)
  show V E X 0 [some (vR 3), some (vI (p : Int)), some (vI (a : Int)), some (vI (b : Int)), none, none] [] g
  refine k_aload_n hX.1 dX6_canMake_0 rfl rfl ?_
  refine k_getr (t := 4) hX.1 dX6_canMake_1 flX6_11 rfl (by decide) rfl rfl ?_
  refine k_iload_n hX.1 dX6_canMake_4 rfl rfl ?_
  refine k_aaldP (j := p) (q := 6 + p) hX.1 dX6_canMake_5 rfl (by omega) (n := 5) rfl (by omega) (by omega) rfl ?_
  refine k_geti hX.1 dX6_canMake_6 flX6_69 (sk_P6 (by omega)) (by decide) rfl ?_
  refine k_istore hX.1 dX6_canMake_9 (by decide) rfl rfl ?_
  try simp only [List.set_cons_zero, List.set_cons_succ]
  refine k_iload hX.1 dX6_canMake_11 rfl ?_
  refine k_iload_n hX.1 dX6_canMake_13 rfl rfl ?_
  refine k_iload_n hX.1 dX6_canMake_14 rfl rfl ?_
  refine k_callNf (d2 := 1) (n := 3) (as := [_, _, _]) hX.1 dX6_canMake_15 lkX6_72 (fit_of hX (by omega) gmX7_rowsOfFirst) rfl rfl (Nat.le_of_ble_eq_true rfl) (cX_rof E g (by omega) (by omega) (by omega)) ?_
  rw [he]
  refine k_istore hX.1 dX6_canMake_18 (by decide) rfl rfl ?_
  try simp only [List.set_cons_zero, List.set_cons_succ]
  refine k_aload_n hX.1 dX6_canMake_20 rfl rfl ?_
  refine k_getr (t := 5) hX.1 dX6_canMake_21 flX6_19 rfl (by decide) rfl rfl ?_
  refine k_iload_n hX.1 dX6_canMake_24 rfl rfl ?_
  refine k_aaldL (j := a) (q := 11 + a) hX.1 dX6_canMake_25 rfl (by omega) (n := 3) rfl (by omega) (by omega) rfl ?_
  refine k_callVf (d2 := 1) (n := 0) (as := []) hX.1 dX6_canMake_26 lkX6_76 (fit_of hX (by omega) gmX2_rows) rfl (sk_L11 (by omega)) (by decide) rfl rfl rfl (Nat.le_of_ble_eq_true rfl) (cL_rows E g (t := a) (by omega)) ?_
  refine k_iload hX.1 dX6_canMake_29 rfl ?_
  refine k_icmp_lt (tgt := 55) hX.1 dX6_canMake_31 (by decide) (by omega) (by omega) (fun c_31 => ?_) (fun c_31 => ?_)
  · skip
    refine k_iconst hX.1 dX6_canMake_55 ?_
    refine k_zret hX dX6_canMake_56 rfl (by omega) ?_
    refine ⟨?_, rfl⟩
    congr 2
    unfold rws
    split <;> omega
  · skip
    refine k_aload_n hX.1 dX6_canMake_34 rfl rfl ?_
    refine k_getr (t := 5) hX.1 dX6_canMake_35 flX6_19 rfl (by decide) rfl rfl ?_
    refine k_iload_n hX.1 dX6_canMake_38 rfl rfl ?_
    refine k_aaldL (j := b) (q := 11 + b) hX.1 dX6_canMake_39 rfl (by omega) (n := 3) rfl (by omega) (by omega) rfl ?_
    refine k_callVf (d2 := 1) (n := 0) (as := []) hX.1 dX6_canMake_40 lkX6_76 (fit_of hX (by omega) gmX2_rows) rfl (sk_L11 (by omega)) (by decide) rfl rfl rfl (Nat.le_of_ble_eq_true rfl) (cL_rows E g (t := b) (by omega)) ?_
    refine k_iload hX.1 dX6_canMake_43 rfl ?_
    refine k_iload hX.1 dX6_canMake_45 rfl ?_
    refine k_isub hX.1 dX6_canMake_47 ?_
    refine k_icmp_lt (tgt := 55) hX.1 dX6_canMake_48 (by decide) (by omega) (by omega) (fun c_48 => ?_) (fun c_48 => ?_)
    · skip
      refine k_iconst hX.1 dX6_canMake_55 ?_
      refine k_zret hX dX6_canMake_56 rfl (by omega) ?_
      refine ⟨?_, rfl⟩
      congr 2
      unfold rws
      split <;> omega
    · skip
      refine k_iconst hX.1 dX6_canMake_51 ?_
      refine k_goto (tgt := 56) hX.1 dX6_canMake_52 (by decide) ?_
      refine k_zret hX dX6_canMake_56 rfl (by omega) ?_
      refine ⟨?_, rfl⟩
      congr 2
      unfold rws
      split <;> omega

def bgn (lo x : Int) : Int := (max 0 (x - lo) + 4 - 1) / 4
def tkM (g : Mm) (k : Nat) (x : Int) : Mm := wr (wr g k 1 (g.1 k 1 - bgn (g.1 k 2) x)) k 2 (g.1 k 2 + (4 * bgn (g.1 k 2) x - x))
set_option maxRecDepth 100000 in
set_option maxHeartbeats 4000000 in
theorem cL_take (E : En) (g : Mm) {t : Nat} (ht : t < 3) {x : Int} (hx : -100 ≤ x ∧ x ≤ 100) (hl : 0 ≤ g.1 (11 + t) 2 ∧ g.1 (11 + t) 2 ≤ 100000) : Pr E 2 mX2_take [vR (11 + t), vI x] g (tkM g (11 + t) x) := by
  refine Ok_of gmX2_take (by omega) (Nat.le_of_ble_eq_true rfl) (fun X hX => ?_)
  show V E X 0 [some (vR (11 + t)), some (vI x), none, none] [] g
  refine k_iconst hX.1 dX2_take_0 ?_
  refine k_iload_n hX.1 dX2_take_1 rfl rfl ?_
  refine k_aload_n hX.1 dX2_take_2 rfl rfl ?_
  refine k_geti hX.1 dX2_take_3 flX2_18 (sk_L11 (by omega)) (by decide) rfl ?_
  refine k_isub hX.1 dX2_take_6 ?_
  refine k_max hX.1 dX2_take_7 lkX2_21 (by omega) (by omega) (Nat.le_of_ble_eq_true rfl) ?_
  refine k_istore_n hX.1 dX2_take_10 rfl (by decide) rfl rfl ?_
  try simp only [List.set_cons_zero, List.set_cons_succ]
  refine k_iload_n hX.1 dX2_take_11 rfl rfl ?_
  refine k_iconst hX.1 dX2_take_12 ?_
  refine k_iadd hX.1 dX2_take_13 ?_
  refine k_iconst hX.1 dX2_take_14 ?_
  refine k_isub hX.1 dX2_take_15 ?_
  refine k_iconst hX.1 dX2_take_16 ?_
  refine k_idiv hX.1 dX2_take_17 (by omega) (by omega) ?_
  refine k_istore_n hX.1 dX2_take_18 rfl (by decide) rfl rfl ?_
  try simp only [List.set_cons_zero, List.set_cons_succ]
  refine k_aload_n hX.1 dX2_take_19 rfl rfl ?_
  refine k_dupR hX.1 dX2_take_20 ?_
  refine k_geti hX.1 dX2_take_21 flX2_15 (sk_L11 (by omega)) (by decide) rfl ?_
  refine k_iload_n hX.1 dX2_take_24 rfl rfl ?_
  refine k_isub hX.1 dX2_take_25 ?_
  refine k_puti hX.1 dX2_take_26 flX2_15 (sk_L11 (by omega)) (by decide) rfl ?_
  refine k_aload_n hX.1 dX2_take_29 rfl rfl ?_
  refine k_dupR hX.1 dX2_take_30 ?_
  refine k_geti hX.1 dX2_take_31 flX2_18 (sk_L11 (by omega)) (by decide) rfl ?_
  refine k_top (b := g.1 (11 + t) 2) (by simp [wr_1]) ?_
  refine k_iconst hX.1 dX2_take_34 ?_
  refine k_iload_n hX.1 dX2_take_35 rfl rfl ?_
  refine k_imul hX.1 dX2_take_36 ?_
  refine k_iload_n hX.1 dX2_take_37 rfl rfl ?_
  refine k_isub hX.1 dX2_take_38 ?_
  refine k_iadd hX.1 dX2_take_39 ?_
  refine k_puti hX.1 dX2_take_40 flX2_18 (sk_L11 (by omega)) (by decide) rfl ?_
  refine k_vret hX dX2_take_43 rfl ?_
  exact ⟨rfl, rfl⟩

set_option maxRecDepth 100000 in
set_option maxHeartbeats 4000000 in
theorem cL_loosen (E : En) (g : Mm) {t : Nat} (ht : t < 3) {x : Int} (hx : bd x) : Ok E 1 mX2_loosen [vR (11 + t), vI x] g (fun r g' => r = some (vI (if x = 0 then 0 else 1)) ∧ g' = if x = 0 then g else wr g (11 + t) 2 (g.1 (11 + t) 2 + (x - 1))) := by
  refine Ok_of gmX2_loosen (by omega) (Nat.le_of_ble_eq_true rfl) (fun X hX => ?_)
  show V E X 0 [some (vR (11 + t)), some (vI x)] [] g
  refine k_iload_n hX.1 dX2_loosen_0 rfl rfl ?_
  refine k_if_ne (tgt := 6) hX.1 dX2_loosen_1 (by decide) (by omega) (fun c_1 => ?_) (fun c_1 => ?_)
  · skip
    refine k_aload_n hX.1 dX2_loosen_6 rfl rfl ?_
    refine k_dupR hX.1 dX2_loosen_7 ?_
    refine k_geti hX.1 dX2_loosen_8 flX2_18 (sk_L11 (by omega)) (by decide) rfl ?_
    refine k_iload_n hX.1 dX2_loosen_11 rfl rfl ?_
    refine k_iconst hX.1 dX2_loosen_12 ?_
    refine k_isub hX.1 dX2_loosen_13 ?_
    refine k_iadd hX.1 dX2_loosen_14 ?_
    refine k_puti hX.1 dX2_loosen_15 flX2_18 (sk_L11 (by omega)) (by decide) rfl ?_
    refine k_iconst hX.1 dX2_loosen_18 ?_
    refine k_iret hX dX2_loosen_19 rfl ?_
    first | (rw [if_pos c_1, if_pos c_1]; exact ⟨rfl, rfl⟩) | (rw [if_neg c_1, if_neg c_1]; exact ⟨rfl, rfl⟩) | (rw [if_pos (by omega), if_pos (by omega)]; exact ⟨rfl, rfl⟩)
  · skip
    refine k_iconst hX.1 dX2_loosen_4 ?_
    refine k_iret hX dX2_loosen_5 rfl ?_
    first | (rw [if_pos c_1, if_pos c_1]; exact ⟨rfl, rfl⟩) | (rw [if_neg c_1, if_neg c_1]; exact ⟨rfl, rfl⟩) | (rw [if_pos (by omega), if_pos (by omega)]; exact ⟨rfl, rfl⟩)

set_option maxRecDepth 100000 in
set_option maxHeartbeats 4000000 in
theorem cL_begin (E : En) (g : Mm) {t : Nat} (ht : t < 3) {x : Int} : Pr E 1 mX2_begin [vR (11 + t), vI x] g (wr (wr (wr g (11 + t) 0 x) (11 + t) 1 0) (11 + t) 2 0) := by
  refine Ok_of gmX2_begin (by omega) (Nat.le_of_ble_eq_true rfl) (fun X hX => ?_)
  show V E X 0 [some (vR (11 + t)), some (vI x)] [] g
  refine k_aload_n hX.1 dX2_begin_0 rfl rfl ?_
  refine k_iload_n hX.1 dX2_begin_1 rfl rfl ?_
  refine k_puti hX.1 dX2_begin_2 flX2_9 (sk_L11 (by omega)) (by decide) rfl ?_
  refine k_aload_n hX.1 dX2_begin_5 rfl rfl ?_
  refine k_iconst hX.1 dX2_begin_6 ?_
  refine k_puti hX.1 dX2_begin_7 flX2_15 (sk_L11 (by omega)) (by decide) rfl ?_
  refine k_aload_n hX.1 dX2_begin_10 rfl rfl ?_
  refine k_iconst hX.1 dX2_begin_11 ?_
  refine k_puti hX.1 dX2_begin_12 flX2_18 (sk_L11 (by omega)) (by decide) rfl ?_
  refine k_vret hX dX2_begin_15 rfl ?_
  exact ⟨rfl, rfl⟩

def clM (g : Mm) (k : Nat) : Mm := wr (wr (wr (wr (wr g k 2 (-1)) k 3 (-1)) k 4 0) k 5 0) k 6 0
set_option maxRecDepth 100000 in
set_option maxHeartbeats 4000000 in
theorem cP_clear (E : En) (g : Mm) {p : Nat} (hp : p < 5) : Pr E 1 mX4_clear [vR (6 + p)] g (clM g (6 + p)) := by
  refine Ok_of gmX4_clear (by omega) (Nat.le_of_ble_eq_true rfl) (fun X hX => ?_)
  show V E X 0 [some (vR (6 + p))] [] g
  refine k_aload_n hX.1 dX4_clear_0 rfl rfl ?_
  refine k_iconst hX.1 dX4_clear_1 ?_
  refine k_puti hX.1 dX4_clear_2 flX4_24 (sk_P6 (by omega)) (by decide) rfl ?_
  refine k_aload_n hX.1 dX4_clear_5 rfl rfl ?_
  refine k_iconst hX.1 dX4_clear_6 ?_
  refine k_puti hX.1 dX4_clear_7 flX4_27 (sk_P6 (by omega)) (by decide) rfl ?_
  refine k_aload_n hX.1 dX4_clear_10 rfl rfl ?_
  refine k_iconst hX.1 dX4_clear_11 ?_
  refine k_puti hX.1 dX4_clear_12 flX4_30 (sk_P6 (by omega)) (by decide) rfl ?_
  refine k_aload_n hX.1 dX4_clear_15 rfl rfl ?_
  refine k_iconst hX.1 dX4_clear_16 ?_
  refine k_puti hX.1 dX4_clear_17 flX4_33 (sk_P6 (by omega)) (by decide) rfl ?_
  refine k_aload_n hX.1 dX4_clear_20 rfl rfl ?_
  refine k_iconst hX.1 dX4_clear_21 ?_
  refine k_putz hX.1 dX4_clear_22 flX4_36 (sk_P6 (by omega)) (by decide) rfl (by omega) ?_
  refine k_vret hX dX4_clear_25 rfl ?_
  exact ⟨rfl, rfl⟩

set_option maxRecDepth 100000 in
set_option maxHeartbeats 4000000 in
theorem cP_begin (E : En) (g : Mm) {p : Nat} (hp : p < 5) {a b : Int} : Pr E 2 mX4_begin [vR (6 + p), vI a, vI b] g (clM (wr (wr (wr g (6 + p) 0 a) (6 + p) 1 b) (6 + p) 7 (-1)) (6 + p)) := by
  refine Ok_of gmX4_begin (by omega) (Nat.le_of_ble_eq_true rfl) (fun X hX => ?_)
  show V E X 0 [some (vR (6 + p)), some (vI a), some (vI b)] [] g
  refine k_aload_n hX.1 dX4_begin_0 rfl rfl ?_
  refine k_iload_n hX.1 dX4_begin_1 rfl rfl ?_
  refine k_puti hX.1 dX4_begin_2 flX4_9 (sk_P6 (by omega)) (by decide) rfl ?_
  refine k_aload_n hX.1 dX4_begin_5 rfl rfl ?_
  refine k_iload_n hX.1 dX4_begin_6 rfl rfl ?_
  refine k_puti hX.1 dX4_begin_7 flX4_15 (sk_P6 (by omega)) (by decide) rfl ?_
  refine k_aload_n hX.1 dX4_begin_10 rfl rfl ?_
  refine k_iconst hX.1 dX4_begin_11 ?_
  refine k_puti hX.1 dX4_begin_12 flX4_18 (sk_P6 (by omega)) (by decide) rfl ?_
  refine k_aload_n hX.1 dX4_begin_15 rfl rfl ?_
  refine k_callVp (d2 := 1) (n := 0) (as := []) hX.1 dX4_begin_16 lkX4_21 (fit_of hX (by omega) gmX4_clear) rfl (sk_P6 (by omega)) (by decide) rfl rfl rfl (Nat.le_of_ble_eq_true rfl) (cP_clear E _ hp) ?_
  refine k_vret hX dX4_begin_19 rfl ?_
  exact ⟨rfl, rfl⟩

/-- the first c slots of h copied to k -/
def cpM (g : Mm) (k h c : Nat) : Mm := (fun a b => if a = k ∧ b < c then g.1 h b else g.1 a b, g.2)
set_option maxRecDepth 100000 in
set_option maxHeartbeats 4000000 in
theorem cP_copy (E : En) (g : Mm) {k h : Nat} (hk : sk k = 4) (hh : sk h = 4) (hn : h ≠ k) (h6 : g.1 h 6 = 0 ∨ g.1 h 6 = 1) : Pr E 1 mX4_copy [vR k, vR h] g (cpM g k h 8) := by
  refine Ok_of gmX4_copy (by omega) (Nat.le_of_ble_eq_true rfl) (fun X hX => ?_)
  show V E X 0 [some (vR k), some (vR h)] [] g
  refine k_aload_n hX.1 dX4_copy_0 rfl rfl ?_
  refine k_aload_n hX.1 dX4_copy_1 rfl rfl ?_
  refine k_geti hX.1 dX4_copy_2 flX4_9 hh (by decide) rfl ?_
  refine k_top (b := g.1 h 0) (by simp [wr_1, hn]) ?_
  refine k_puti hX.1 dX4_copy_5 flX4_9 hk (by decide) rfl ?_
  refine k_aload_n hX.1 dX4_copy_8 rfl rfl ?_
  refine k_aload_n hX.1 dX4_copy_9 rfl rfl ?_
  refine k_geti hX.1 dX4_copy_10 flX4_15 hh (by decide) rfl ?_
  refine k_top (b := g.1 h 1) (by simp [wr_1, hn]) ?_
  refine k_puti hX.1 dX4_copy_13 flX4_15 hk (by decide) rfl ?_
  refine k_aload_n hX.1 dX4_copy_16 rfl rfl ?_
  refine k_aload_n hX.1 dX4_copy_17 rfl rfl ?_
  refine k_geti hX.1 dX4_copy_18 flX4_24 hh (by decide) rfl ?_
  refine k_top (b := g.1 h 2) (by simp [wr_1, hn]) ?_
  refine k_puti hX.1 dX4_copy_21 flX4_24 hk (by decide) rfl ?_
  refine k_aload_n hX.1 dX4_copy_24 rfl rfl ?_
  refine k_aload_n hX.1 dX4_copy_25 rfl rfl ?_
  refine k_geti hX.1 dX4_copy_26 flX4_27 hh (by decide) rfl ?_
  refine k_top (b := g.1 h 3) (by simp [wr_1, hn]) ?_
  refine k_puti hX.1 dX4_copy_29 flX4_27 hk (by decide) rfl ?_
  refine k_aload_n hX.1 dX4_copy_32 rfl rfl ?_
  refine k_aload_n hX.1 dX4_copy_33 rfl rfl ?_
  refine k_geti hX.1 dX4_copy_34 flX4_30 hh (by decide) rfl ?_
  refine k_top (b := g.1 h 4) (by simp [wr_1, hn]) ?_
  refine k_puti hX.1 dX4_copy_37 flX4_30 hk (by decide) rfl ?_
  refine k_aload_n hX.1 dX4_copy_40 rfl rfl ?_
  refine k_aload_n hX.1 dX4_copy_41 rfl rfl ?_
  refine k_geti hX.1 dX4_copy_42 flX4_33 hh (by decide) rfl ?_
  refine k_top (b := g.1 h 5) (by simp [wr_1, hn]) ?_
  refine k_puti hX.1 dX4_copy_45 flX4_33 hk (by decide) rfl ?_
  refine k_aload_n hX.1 dX4_copy_48 rfl rfl ?_
  refine k_aload_n hX.1 dX4_copy_49 rfl rfl ?_
  refine k_getz hX.1 dX4_copy_50 flX4_36 hh (by decide) rfl ?_
  refine k_top (b := g.1 h 6) (by simp [wr_1, hn]) ?_
  refine k_putz hX.1 dX4_copy_53 flX4_36 hk (by decide) rfl (by omega) ?_
  refine k_aload_n hX.1 dX4_copy_56 rfl rfl ?_
  refine k_aload_n hX.1 dX4_copy_57 rfl rfl ?_
  refine k_geti hX.1 dX4_copy_58 flX4_18 hh (by decide) rfl ?_
  refine k_top (b := g.1 h 7) (by simp [wr_1, hn]) ?_
  refine k_puti hX.1 dX4_copy_61 flX4_18 hk (by decide) rfl ?_
  refine k_vret hX dX4_copy_64 rfl ?_
  refine ⟨rfl, Prod.ext ?_ rfl⟩
  funext a b
  show _ = if a = k ∧ b < 8 then g.1 h b else g.1 a b
  by_cases ha : a = k
  · by_cases hb : b < 8
    · rw [if_pos ⟨ha, hb⟩]
      subst ha
      rcases (show b = 0 ∨ b = 1 ∨ b = 2 ∨ b = 3 ∨ b = 4 ∨ b = 5 ∨ b = 6 ∨ b = 7 by omega) with rfl | rfl | rfl | rfl | rfl | rfl | rfl | rfl <;> simp [wr_1]
    · rw [if_neg (fun q => hb q.2)]
      simp only [wr_1]
      rw [if_neg (fun q => hb (by omega)), if_neg (fun q => hb (by omega)), if_neg (fun q => hb (by omega)), if_neg (fun q => hb (by omega)), if_neg (fun q => hb (by omega)), if_neg (fun q => hb (by omega)), if_neg (fun q => hb (by omega)), if_neg (fun q => hb (by omega))]
  · rw [if_neg (fun q => ha q.1)]
    simp [wr_1, ha]

set_option maxRecDepth 100000 in
set_option maxHeartbeats 4000000 in
theorem cL_copy (E : En) (g : Mm) {k h : Nat} (hk : sk k = 2) (hh : sk h = 2) (hn : h ≠ k) : Pr E 1 mX2_copy [vR k, vR h] g (cpM g k h 3) := by
  refine Ok_of gmX2_copy (by omega) (Nat.le_of_ble_eq_true rfl) (fun X hX => ?_)
  show V E X 0 [some (vR k), some (vR h)] [] g
  refine k_aload_n hX.1 dX2_copy_0 rfl rfl ?_
  refine k_aload_n hX.1 dX2_copy_1 rfl rfl ?_
  refine k_geti hX.1 dX2_copy_2 flX2_9 hh (by decide) rfl ?_
  refine k_top (b := g.1 h 0) (by simp [wr_1, hn]) ?_
  refine k_puti hX.1 dX2_copy_5 flX2_9 hk (by decide) rfl ?_
  refine k_aload_n hX.1 dX2_copy_8 rfl rfl ?_
  refine k_aload_n hX.1 dX2_copy_9 rfl rfl ?_
  refine k_geti hX.1 dX2_copy_10 flX2_15 hh (by decide) rfl ?_
  refine k_top (b := g.1 h 1) (by simp [wr_1, hn]) ?_
  refine k_puti hX.1 dX2_copy_13 flX2_15 hk (by decide) rfl ?_
  refine k_aload_n hX.1 dX2_copy_16 rfl rfl ?_
  refine k_aload_n hX.1 dX2_copy_17 rfl rfl ?_
  refine k_geti hX.1 dX2_copy_18 flX2_18 hh (by decide) rfl ?_
  refine k_top (b := g.1 h 2) (by simp [wr_1, hn]) ?_
  refine k_puti hX.1 dX2_copy_21 flX2_18 hk (by decide) rfl ?_
  refine k_vret hX dX2_copy_24 rfl ?_
  refine ⟨rfl, Prod.ext ?_ rfl⟩
  funext a b
  show _ = if a = k ∧ b < 3 then g.1 h b else g.1 a b
  by_cases ha : a = k
  · by_cases hb : b < 3
    · rw [if_pos ⟨ha, hb⟩]
      subst ha
      rcases (show b = 0 ∨ b = 1 ∨ b = 2 by omega) with rfl | rfl | rfl <;> simp [wr_1]
    · rw [if_neg (fun q => hb q.2)]
      simp only [wr_1]
      rw [if_neg (fun q => hb (by omega)), if_neg (fun q => hb (by omega)), if_neg (fun q => hb (by omega))]
  · rw [if_neg (fun q => ha q.1)]
    simp [wr_1, ha]
