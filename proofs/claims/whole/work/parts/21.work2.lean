set_option maxRecDepth 100000 in
set_option maxHeartbeats 4000000 in
theorem lp_seenOfAll (E : En) {A : St} {g : Mm} {n : Int} (hC : CW A g) (hW : WW A n) {X : Cx} (hX : Wk E mX6_seenOfAll X 4 (fun r g' => r = some (vI (sAll A)) ∧ g' = g)) : ∀ (m : Nat) (p : Nat) (acc : Int), m + p = (A 12 0).toNat ∧ acc = sm (sN A) p → V E X 4 [some (vR 3), some (vI acc), some (vI (p : Int))] [] g := by
  have hC0 := hC
  obtain ⟨⟨hc1, hc2, hc3⟩, hcp, hcl⟩ := hC
  obtain ⟨⟨hw1, hw2, hw3, hw4, hw5, hw6, hw7, hw8⟩, hwp, hwl⟩ := id hW
  intro m
  induction m with
  | zero =>
    intro p acc hm
    refine k_iload_n hX.1 dX6_seenOfAll_4 rfl rfl ?_
    refine k_aload_n hX.1 dX6_seenOfAll_5 rfl rfl ?_
    refine k_geti hX.1 dX6_seenOfAll_6 flX6_37 rfl (by decide) rfl ?_
    refine k_icmp_ge (tgt := 26) hX.1 dX6_seenOfAll_9 (by decide) (by omega) (by omega) (fun c_9 => ?_) (fun c_9 => ?_)
    · skip
      refine k_iload_n hX.1 dX6_seenOfAll_26 rfl rfl ?_
      refine k_iret hX dX6_seenOfAll_27 rfl ?_
      refine ⟨?_, rfl⟩
      obtain ⟨h1, h2⟩ := hm
      rw [h2, show p = (A 12 0).toNat by omega]
      rfl
    · skip
      exact absurd c_9 (by omega)
  | succ m ih =>
    intro p acc hm
    obtain ⟨e0, e1, e2, e3, e4, e5, e6, e7⟩ := hcp (p) (by omega)
    obtain ⟨⟨ek1, ek2⟩, ⟨er1, er2⟩, ew2, ew3, ew4, ew5, ew6, ew7⟩ := hwp (p) (by omega)
    refine k_iload_n hX.1 dX6_seenOfAll_4 rfl rfl ?_
    refine k_aload_n hX.1 dX6_seenOfAll_5 rfl rfl ?_
    refine k_geti hX.1 dX6_seenOfAll_6 flX6_37 rfl (by decide) rfl ?_
    refine k_icmp_ge (tgt := 26) hX.1 dX6_seenOfAll_9 (by decide) (by omega) (by omega) (fun c_9 => ?_) (fun c_9 => ?_)
    · skip
      exact absurd c_9 (by omega)
    · skip
      refine k_iload_n hX.1 dX6_seenOfAll_12 rfl rfl ?_
      refine k_aload_n hX.1 dX6_seenOfAll_13 rfl rfl ?_
      refine k_iload_n hX.1 dX6_seenOfAll_14 rfl rfl ?_
      refine k_callVf (d2 := 3) (n := 1) (as := [_]) hX.1 dX6_seenOfAll_15 lkX6_130 (fit_of hX (by omega) gmX6_seenNext) rfl rfl (by decide) rfl rfl rfl (Nat.le_of_ble_eq_true rfl) (cW_seenNext E hC0 hW (p := p) (by omega)) ?_
      refine k_iadd hX.1 dX6_seenOfAll_18 ?_
      refine k_istore_n hX.1 dX6_seenOfAll_19 rfl (by decide) rfl rfl ?_
      try simp only [List.set_cons_zero, List.set_cons_succ]
      refine k_iinc hX.1 dX6_seenOfAll_20 rfl (by decide) rfl rfl ?_
      try simp only [List.set_cons_zero, List.set_cons_succ]
      refine k_goto (tgt := 4) hX.1 dX6_seenOfAll_23 (by decide) ?_
      exact ih (p + 1) _ ⟨by omega, by rw [sm, hm.2]⟩

set_option maxRecDepth 100000 in
set_option maxHeartbeats 4000000 in
theorem cW_seenOfAll (E : En) {A : St} {g : Mm} {n : Int} (hC : CW A g) (hW : WW A n) : Fn E 4 mX6_seenOfAll [vR 3] g (vI (sAll A)) := by
  have hC0 := hC
  obtain ⟨⟨hc1, hc2, hc3⟩, hcp, hcl⟩ := hC
  obtain ⟨⟨hw1, hw2, hw3, hw4, hw5, hw6, hw7, hw8⟩, hwp, hwl⟩ := id hW
  refine Ok_of gmX6_seenOfAll (by omega) (Nat.le_of_ble_eq_true rfl) (fun X hX => ?_)
  show V E X 0 [some (vR 3), none, none] [] g
  refine k_iconst hX.1 dX6_seenOfAll_0 ?_
  refine k_istore_n hX.1 dX6_seenOfAll_1 rfl (by decide) rfl rfl ?_
  try simp only [List.set_cons_zero, List.set_cons_succ]
  refine k_iconst hX.1 dX6_seenOfAll_2 ?_
  refine k_istore_n hX.1 dX6_seenOfAll_3 rfl (by decide) rfl rfl ?_
  try simp only [List.set_cons_zero, List.set_cons_succ]
  exact lp_seenOfAll E hC0 hW hX (A 12 0).toNat 0 0 ⟨by omega, rfl⟩

set_option maxRecDepth 100000 in
set_option maxHeartbeats 4000000 in
theorem lp_knittedCount (E : En) {A : St} {g : Mm} {n : Int} (hC : CW A g) (hW : WW A n) {X : Cx} (hX : Wk E mX6_knittedCount X 2 (fun r g' => r = some (vI (kC A)) ∧ g' = g)) : ∀ (m : Nat) (p : Nat) (acc : Int), m + p = (A 12 0).toNat ∧ acc = sm (fun p => if A 2 p = -1 then 0 else 1) p → V E X 4 [some (vR 3), some (vI acc), some (vI (p : Int))] [] g := by
  have hC0 := hC
  obtain ⟨⟨hc1, hc2, hc3⟩, hcp, hcl⟩ := hC
  obtain ⟨⟨hw1, hw2, hw3, hw4, hw5, hw6, hw7, hw8⟩, hwp, hwl⟩ := id hW
  intro m
  induction m with
  | zero =>
    intro p acc hm
    refine k_iload_n hX.1 dX6_knittedCount_4 rfl rfl ?_
    refine k_aload_n hX.1 dX6_knittedCount_5 rfl rfl ?_
    refine k_geti hX.1 dX6_knittedCount_6 flX6_37 rfl (by decide) rfl ?_
    refine k_icmp_ge (tgt := 33) hX.1 dX6_knittedCount_9 (by decide) (by omega) (by omega) (fun c_9 => ?_) (fun c_9 => ?_)
    · skip
      refine k_iload_n hX.1 dX6_knittedCount_33 rfl rfl ?_
      refine k_iret hX dX6_knittedCount_34 rfl ?_
      refine ⟨?_, rfl⟩
      obtain ⟨h1, h2⟩ := hm
      rw [h2, show p = (A 12 0).toNat by omega]
      rfl
    · skip
      exact absurd c_9 (by omega)
  | succ m ih =>
    intro p acc hm
    obtain ⟨e0, e1, e2, e3, e4, e5, e6, e7⟩ := hcp (p) (by omega)
    obtain ⟨⟨ek1, ek2⟩, ⟨er1, er2⟩, ew2, ew3, ew4, ew5, ew6, ew7⟩ := hwp (p) (by omega)
    refine k_iload_n hX.1 dX6_knittedCount_4 rfl rfl ?_
    refine k_aload_n hX.1 dX6_knittedCount_5 rfl rfl ?_
    refine k_geti hX.1 dX6_knittedCount_6 flX6_37 rfl (by decide) rfl ?_
    refine k_icmp_ge (tgt := 33) hX.1 dX6_knittedCount_9 (by decide) (by omega) (by omega) (fun c_9 => ?_) (fun c_9 => ?_)
    · skip
      exact absurd c_9 (by omega)
    · skip
      refine k_aload_n hX.1 dX6_knittedCount_12 rfl rfl ?_
      refine k_getr (t := 4) hX.1 dX6_knittedCount_13 flX6_11 rfl (by decide) rfl rfl ?_
      refine k_iload_n hX.1 dX6_knittedCount_16 rfl rfl ?_
      refine k_aaldP (j := p) (q := 6 + p) hX.1 dX6_knittedCount_17 rfl (by omega) (n := 5) rfl (by omega) (by omega) rfl ?_
      refine k_callVf (d2 := 1) (n := 0) (as := []) hX.1 dX6_knittedCount_18 lkX6_120 (fit_of hX (by omega) gmX4_isKnitted) rfl (sk_P6 (by omega)) (by decide) rfl rfl rfl (Nat.le_of_ble_eq_true rfl) (cP_isKnitted E g (by omega) (by omega)) ?_
      refine k_if_eq (tgt := 27) hX.1 dX6_knittedCount_21 (by decide) (by split <;> omega) (fun c_21 => ?_) (fun c_21 => ?_)
      · skip
        have h0 : A 2 p = -1 := by
          apply Classical.byContradiction; intro q; rw [if_neg (by omega)] at c_21; exact absurd c_21 (by decide)
        refine k_iinc hX.1 dX6_knittedCount_27 rfl (by decide) rfl rfl ?_
        try simp only [List.set_cons_zero, List.set_cons_succ]
        refine k_goto (tgt := 4) hX.1 dX6_knittedCount_30 (by decide) ?_
        exact ih (p + 1) _ ⟨by omega, by simp only [sm, hm.2]; first | (rw [if_pos h0]; omega) | (rw [if_neg h0])⟩
      · skip
        have h0 : ¬ A 2 p = -1 := by
          intro q; exact c_21 (if_pos (by omega))
        refine k_iinc hX.1 dX6_knittedCount_24 rfl (by decide) rfl rfl ?_
        try simp only [List.set_cons_zero, List.set_cons_succ]
        refine k_iinc hX.1 dX6_knittedCount_27 rfl (by decide) rfl rfl ?_
        try simp only [List.set_cons_zero, List.set_cons_succ]
        refine k_goto (tgt := 4) hX.1 dX6_knittedCount_30 (by decide) ?_
        exact ih (p + 1) _ ⟨by omega, by simp only [sm, hm.2]; first | (rw [if_pos h0]; omega) | (rw [if_neg h0])⟩

set_option maxRecDepth 100000 in
set_option maxHeartbeats 4000000 in
theorem cW_knittedCount (E : En) {A : St} {g : Mm} {n : Int} (hC : CW A g) (hW : WW A n) : Fn E 2 mX6_knittedCount [vR 3] g (vI (kC A)) := by
  have hC0 := hC
  obtain ⟨⟨hc1, hc2, hc3⟩, hcp, hcl⟩ := hC
  obtain ⟨⟨hw1, hw2, hw3, hw4, hw5, hw6, hw7, hw8⟩, hwp, hwl⟩ := id hW
  refine Ok_of gmX6_knittedCount (by omega) (Nat.le_of_ble_eq_true rfl) (fun X hX => ?_)
  show V E X 0 [some (vR 3), none, none] [] g
  refine k_iconst hX.1 dX6_knittedCount_0 ?_
  refine k_istore_n hX.1 dX6_knittedCount_1 rfl (by decide) rfl rfl ?_
  try simp only [List.set_cons_zero, List.set_cons_succ]
  refine k_iconst hX.1 dX6_knittedCount_2 ?_
  refine k_istore_n hX.1 dX6_knittedCount_3 rfl (by decide) rfl rfl ?_
  try simp only [List.set_cons_zero, List.set_cons_succ]
  exact lp_knittedCount E hC0 hW hX (A 12 0).toNat 0 0 ⟨by omega, rfl⟩

set_option maxRecDepth 100000 in
set_option maxHeartbeats 4000000 in
theorem lp_foundCount (E : En) {A : St} {g : Mm} {n : Int} (hC : CW A g) (hW : WW A n) {X : Cx} (hX : Wk E mX6_foundCount X 1 (fun r g' => r = some (vI (fC A)) ∧ g' = g)) : ∀ (m : Nat) (p : Nat) (acc : Int), m + p = (A 12 0).toNat ∧ acc = sm (fun p => if A 7 p = -1 then 0 else 1) p → V E X 4 [some (vR 3), some (vI acc), some (vI (p : Int))] [] g := by
  have hC0 := hC
  obtain ⟨⟨hc1, hc2, hc3⟩, hcp, hcl⟩ := hC
  obtain ⟨⟨hw1, hw2, hw3, hw4, hw5, hw6, hw7, hw8⟩, hwp, hwl⟩ := id hW
  intro m
  induction m with
  | zero =>
    intro p acc hm
    refine k_iload_n hX.1 dX6_foundCount_4 rfl rfl ?_
    refine k_aload_n hX.1 dX6_foundCount_5 rfl rfl ?_
    refine k_geti hX.1 dX6_foundCount_6 flX6_37 rfl (by decide) rfl ?_
    refine k_icmp_ge (tgt := 34) hX.1 dX6_foundCount_9 (by decide) (by omega) (by omega) (fun c_9 => ?_) (fun c_9 => ?_)
    · skip
      refine k_iload_n hX.1 dX6_foundCount_34 rfl rfl ?_
      refine k_iret hX dX6_foundCount_35 rfl ?_
      refine ⟨?_, rfl⟩
      obtain ⟨h1, h2⟩ := hm
      rw [h2, show p = (A 12 0).toNat by omega]
      rfl
    · skip
      exact absurd c_9 (by omega)
  | succ m ih =>
    intro p acc hm
    obtain ⟨e0, e1, e2, e3, e4, e5, e6, e7⟩ := hcp (p) (by omega)
    obtain ⟨⟨ek1, ek2⟩, ⟨er1, er2⟩, ew2, ew3, ew4, ew5, ew6, ew7⟩ := hwp (p) (by omega)
    refine k_iload_n hX.1 dX6_foundCount_4 rfl rfl ?_
    refine k_aload_n hX.1 dX6_foundCount_5 rfl rfl ?_
    refine k_geti hX.1 dX6_foundCount_6 flX6_37 rfl (by decide) rfl ?_
    refine k_icmp_ge (tgt := 34) hX.1 dX6_foundCount_9 (by decide) (by omega) (by omega) (fun c_9 => ?_) (fun c_9 => ?_)
    · skip
      exact absurd c_9 (by omega)
    · skip
      refine k_aload_n hX.1 dX6_foundCount_12 rfl rfl ?_
      refine k_getr (t := 4) hX.1 dX6_foundCount_13 flX6_11 rfl (by decide) rfl rfl ?_
      refine k_iload_n hX.1 dX6_foundCount_16 rfl rfl ?_
      refine k_aaldP (j := p) (q := 6 + p) hX.1 dX6_foundCount_17 rfl (by omega) (n := 5) rfl (by omega) (by omega) rfl ?_
      refine k_geti hX.1 dX6_foundCount_18 flX6_133 (sk_P6 (by omega)) (by decide) rfl ?_
      refine k_iconst hX.1 dX6_foundCount_21 ?_
      refine k_icmp_eq (tgt := 28) hX.1 dX6_foundCount_22 (by decide) (by omega) (by omega) (fun c_22 => ?_) (fun c_22 => ?_)
      · skip
        refine k_iinc hX.1 dX6_foundCount_28 rfl (by decide) rfl rfl ?_
        try simp only [List.set_cons_zero, List.set_cons_succ]
        refine k_goto (tgt := 4) hX.1 dX6_foundCount_31 (by decide) ?_
        exact ih (p + 1) _ ⟨by omega, by simp only [sm, hm.2]; first | (rw [if_pos (by omega)]; omega) | (rw [if_neg (by omega)])⟩
      · skip
        refine k_iinc hX.1 dX6_foundCount_25 rfl (by decide) rfl rfl ?_
        try simp only [List.set_cons_zero, List.set_cons_succ]
        refine k_iinc hX.1 dX6_foundCount_28 rfl (by decide) rfl rfl ?_
        try simp only [List.set_cons_zero, List.set_cons_succ]
        refine k_goto (tgt := 4) hX.1 dX6_foundCount_31 (by decide) ?_
        exact ih (p + 1) _ ⟨by omega, by simp only [sm, hm.2]; first | (rw [if_pos (by omega)]; omega) | (rw [if_neg (by omega)])⟩

set_option maxRecDepth 100000 in
set_option maxHeartbeats 4000000 in
theorem cW_foundCount (E : En) {A : St} {g : Mm} {n : Int} (hC : CW A g) (hW : WW A n) : Fn E 1 mX6_foundCount [vR 3] g (vI (fC A)) := by
  have hC0 := hC
  obtain ⟨⟨hc1, hc2, hc3⟩, hcp, hcl⟩ := hC
  obtain ⟨⟨hw1, hw2, hw3, hw4, hw5, hw6, hw7, hw8⟩, hwp, hwl⟩ := id hW
  refine Ok_of gmX6_foundCount (by omega) (Nat.le_of_ble_eq_true rfl) (fun X hX => ?_)
  show V E X 0 [some (vR 3), none, none] [] g
  refine k_iconst hX.1 dX6_foundCount_0 ?_
  refine k_istore_n hX.1 dX6_foundCount_1 rfl (by decide) rfl rfl ?_
  try simp only [List.set_cons_zero, List.set_cons_succ]
  refine k_iconst hX.1 dX6_foundCount_2 ?_
  refine k_istore_n hX.1 dX6_foundCount_3 rfl (by decide) rfl rfl ?_
  try simp only [List.set_cons_zero, List.set_cons_succ]
  exact lp_foundCount E hC0 hW hX (A 12 0).toNat 0 0 ⟨by omega, rfl⟩

set_option maxRecDepth 100000 in
set_option maxHeartbeats 4000000 in
theorem lp_sumOfLots (E : En) {A : St} {g : Mm} {n : Int} (hC : CW A g) (hW : WW A n) {w : Int} (hw : 0 ≤ w ∧ w ≤ 2) {X : Cx} (hX : Wk E mX6_sumOfLots X 2 (fun r g' => r = some (vI (lS A w)) ∧ g' = g)) : ∀ (m : Nat) (t : Nat) (acc : Int), m + t = (A 12 2).toNat ∧ acc = sm (fun t => lt1 A t w) t → V E X 4 [some (vR 3), some (vI w), some (vI acc), some (vI (t : Int))] [] g := by
  have hC0 := hC
  obtain ⟨⟨hc1, hc2, hc3⟩, hcp, hcl⟩ := hC
  obtain ⟨⟨hw1, hw2, hw3, hw4, hw5, hw6, hw7, hw8⟩, hwp, hwl⟩ := id hW
  intro m
  induction m with
  | zero =>
    intro t acc hm
    refine k_iload_n hX.1 dX6_sumOfLots_4 rfl rfl ?_
    refine k_aload_n hX.1 dX6_sumOfLots_5 rfl rfl ?_
    refine k_geti hX.1 dX6_sumOfLots_6 flX6_40 rfl (by decide) rfl ?_
    refine k_icmp_ge (tgt := 31) hX.1 dX6_sumOfLots_9 (by decide) (by omega) (by omega) (fun c_9 => ?_) (fun c_9 => ?_)
    · skip
      refine k_iload_n hX.1 dX6_sumOfLots_31 rfl rfl ?_
      refine k_iret hX dX6_sumOfLots_32 rfl ?_
      refine ⟨?_, rfl⟩
      obtain ⟨h1, h2⟩ := hm
      rw [h2, show t = (A 12 2).toNat by omega]
      rfl
    · skip
      exact absurd c_9 (by omega)
  | succ m ih =>
    intro t acc hm
    obtain ⟨e0, e1, e2⟩ := hcl t (by omega)
    refine k_iload_n hX.1 dX6_sumOfLots_4 rfl rfl ?_
    refine k_aload_n hX.1 dX6_sumOfLots_5 rfl rfl ?_
    refine k_geti hX.1 dX6_sumOfLots_6 flX6_40 rfl (by decide) rfl ?_
    refine k_icmp_ge (tgt := 31) hX.1 dX6_sumOfLots_9 (by decide) (by omega) (by omega) (fun c_9 => ?_) (fun c_9 => ?_)
    · skip
      exact absurd c_9 (by omega)
    · skip
      refine k_iload_n hX.1 dX6_sumOfLots_12 rfl rfl ?_
      refine k_aload_n hX.1 dX6_sumOfLots_13 rfl rfl ?_
      refine k_getr (t := 5) hX.1 dX6_sumOfLots_14 flX6_19 rfl (by decide) rfl rfl ?_
      refine k_iload_n hX.1 dX6_sumOfLots_17 rfl rfl ?_
      refine k_aaldL (j := t) (q := 11 + t) hX.1 dX6_sumOfLots_18 rfl (by omega) (n := 3) rfl (by omega) (by omega) rfl ?_
      refine k_iload_n hX.1 dX6_sumOfLots_19 rfl rfl ?_
      refine k_callVf (d2 := 1) (n := 1) (as := [_]) hX.1 dX6_sumOfLots_20 lkX6_136 (fit_of hX (by omega) gmX2_tell) rfl (sk_L11 (by omega)) (by decide) rfl rfl rfl (Nat.le_of_ble_eq_true rfl) (cL_tell E g (t := t) (by omega) (by omega)) ?_
      refine k_iadd hX.1 dX6_sumOfLots_23 ?_
      refine k_istore_n hX.1 dX6_sumOfLots_24 rfl (by decide) rfl rfl ?_
      try simp only [List.set_cons_zero, List.set_cons_succ]
      refine k_iinc hX.1 dX6_sumOfLots_25 rfl (by decide) rfl rfl ?_
      try simp only [List.set_cons_zero, List.set_cons_succ]
      refine k_goto (tgt := 4) hX.1 dX6_sumOfLots_28 (by decide) ?_
      exact ih (t + 1) _ ⟨by omega, by rw [sm, hm.2, lt1, e0, e1, e2]⟩

set_option maxRecDepth 100000 in
set_option maxHeartbeats 4000000 in
theorem cW_sumOfLots (E : En) {A : St} {g : Mm} {n : Int} (hC : CW A g) (hW : WW A n) {w : Int} (hw : 0 ≤ w ∧ w ≤ 2) : Fn E 2 mX6_sumOfLots [vR 3, vI w] g (vI (lS A w)) := by
  have hC0 := hC
  obtain ⟨⟨hc1, hc2, hc3⟩, hcp, hcl⟩ := hC
  obtain ⟨⟨hw1, hw2, hw3, hw4, hw5, hw6, hw7, hw8⟩, hwp, hwl⟩ := id hW
  refine Ok_of gmX6_sumOfLots (by omega) (Nat.le_of_ble_eq_true rfl) (fun X hX => ?_)
  show V E X 0 [some (vR 3), some (vI w), none, none] [] g
  refine k_iconst hX.1 dX6_sumOfLots_0 ?_
  refine k_istore_n hX.1 dX6_sumOfLots_1 rfl (by decide) rfl rfl ?_
  try simp only [List.set_cons_zero, List.set_cons_succ]
  refine k_iconst hX.1 dX6_sumOfLots_2 ?_
  refine k_istore_n hX.1 dX6_sumOfLots_3 rfl (by decide) rfl rfl ?_
  try simp only [List.set_cons_zero, List.set_cons_succ]
  exact lp_sumOfLots E hC0 hW hw hX (A 12 2).toNat 0 0 ⟨by omega, rfl⟩
