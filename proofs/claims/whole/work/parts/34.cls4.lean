/-- the Work at h copied into the one at k: counts; then m parts, then c lots -/
def yM (g : Mm) (k h m c : Nat) : Mm := (fun a b => if a = k ∧ 2 ≤ b ∧ b < 5 then g.1 h b else if k + 3 ≤ a ∧ a < k + 3 + m ∧ b < 8 then g.1 (a - k + h) b else if k + 8 ≤ a ∧ a < k + 8 + c ∧ b < 3 then g.1 (a - k + h) b else g.1 a b, g.2)
theorem yM_0 (g : Mm) {k h : Nat} (hn : k ≠ h) : wr (wr (wr g k 2 (g.1 h 2)) k 3 (g.1 h 3)) k 4 (g.1 h 4) = yM g k h 0 0 := by
  refine Prod.ext ?_ rfl
  funext a b
  simp only [wr_1, yM]
  by_cases ha : a = k
  · by_cases hb : 2 ≤ b ∧ b < 5
    · rw [if_pos (show a = k ∧ 2 ≤ b ∧ b < 5 from ⟨ha, hb⟩)]
      rcases (show b = 2 ∨ b = 3 ∨ b = 4 by omega) with rfl | rfl | rfl <;> simp [ha]
    · rw [if_neg (by omega), if_neg (by omega), if_neg (by omega), if_neg (by omega), if_neg (by omega), if_neg (by omega)]
  · rw [if_neg (by omega), if_neg (by omega), if_neg (by omega), if_neg (by omega), if_neg (by omega), if_neg (by omega)]
theorem yM_p (g : Mm) {k h p : Nat} (hp : p < 5) (hkh : k + 11 ≤ h ∨ h + 11 ≤ k) : cpM (yM g k h p 0) (k + 3 + p) (h + 3 + p) 8 = yM g k h (p + 1) 0 := by
  refine Prod.ext ?_ rfl
  funext a b
  simp only [cpM, yM]
  (repeat' split) <;> first | rfl | (exfalso; omega) | exact congrArg (fun z => g.1 z b) (by omega)
theorem yM_l (g : Mm) {k h t : Nat} (ht : t < 3) (hkh : k + 11 ≤ h ∨ h + 11 ≤ k) : cpM (yM g k h 5 t) (k + 8 + t) (h + 8 + t) 3 = yM g k h 5 (t + 1) := by
  refine Prod.ext ?_ rfl
  funext a b
  simp only [cpM, yM]
  (repeat' split) <;> first | rfl | (exfalso; omega) | exact congrArg (fun z => g.1 z b) (by omega)
theorem yM_off (g : Mm) {k h m c a b : Nat} (h1 : a < k ∨ k + 11 ≤ a) (hm : m ≤ 5) (hc : c ≤ 3) : (yM g k h m c).1 a b = g.1 a b := by
  simp only [yM]
  rw [if_neg (by omega), if_neg (by omega), if_neg (by omega)]
theorem yM_n (g : Mm) {k h m c b : Nat} (hb : 2 ≤ b ∧ b < 5) : (yM g k h m c).1 k b = g.1 h b := if_pos ⟨rfl, hb⟩
theorem yM_P (g : Mm) {k h p b : Nat} (hp : p < 5) (hb : b < 8) : (yM g k h 5 3).1 (k + 3 + p) b = g.1 (h + 3 + p) b := by
  simp only [yM]
  rw [if_neg (by omega), if_pos (by omega)]
  exact congrArg (fun z => g.1 z b) (by omega)
theorem yM_L (g : Mm) {k h t b : Nat} (ht : t < 3) (hb : b < 3) : (yM g k h 5 3).1 (k + 8 + t) b = g.1 (h + 8 + t) b := by
  simp only [yM]
  rw [if_neg (by omega), if_neg (by omega), if_pos (by omega)]
  exact congrArg (fun z => g.1 z b) (by omega)
set_option maxRecDepth 100000 in
set_option maxHeartbeats 4000000 in
theorem lp2_keep (E : En) {g : Mm} (hb : CB g) {X : Cx} (hX : Wk E mX6_copy X 2 (fun r g' => r = none ∧ g' = yM g 14 3 5 3)) : ∀ (m : Nat) (t : Nat), m + t = 3 → V E X 54 [some (vR 14), some (vR 3), some (vI (t : Int))] [] (yM g 14 3 5 t) := by
  intro m
  induction m with
  | zero =>
    intro t hm
    refine k_iload_n hX.1 dX6_copy_54 rfl rfl ?_
    refine k_iconst hX.1 dX6_copy_55 ?_
    refine k_icmp_ge (tgt := 80) hX.1 dX6_copy_56 (by decide) (by omega) (by omega) (fun c_56 => ?_) (fun c_56 => ?_)
    · skip
      refine k_vret hX dX6_copy_80 rfl ?_
      refine ⟨rfl, ?_⟩
      obtain rfl : t = 3 := by omega
      rfl
    · skip
      exact absurd c_56 (by omega)
  | succ m ih =>
    intro t hm
    refine k_iload_n hX.1 dX6_copy_54 rfl rfl ?_
    refine k_iconst hX.1 dX6_copy_55 ?_
    refine k_icmp_ge (tgt := 80) hX.1 dX6_copy_56 (by decide) (by omega) (by omega) (fun c_56 => ?_) (fun c_56 => ?_)
    · skip
      exact absurd c_56 (by omega)
    · skip
      refine k_aload_n hX.1 dX6_copy_59 rfl rfl ?_
      refine k_getr (t := 16) hX.1 dX6_copy_60 flX6_19 rfl (by decide) rfl rfl ?_
      refine k_iload_n hX.1 dX6_copy_63 rfl rfl ?_
      refine k_aaldL (j := t) (q := 22 + t) hX.1 dX6_copy_64 rfl (by omega) (n := 3) rfl (by omega) (by omega) rfl ?_
      refine k_aload_n hX.1 dX6_copy_65 rfl rfl ?_
      refine k_getr (t := 5) hX.1 dX6_copy_66 flX6_19 rfl (by decide) rfl rfl ?_
      refine k_iload_n hX.1 dX6_copy_69 rfl rfl ?_
      refine k_aaldL (j := t) (q := 11 + t) hX.1 dX6_copy_70 rfl (by omega) (n := 3) rfl (by omega) (by omega) rfl ?_
      refine k_callVp (d2 := 1) (n := 1) (as := [_]) hX.1 dX6_copy_71 lkX6_66 (fit_of hX (by omega) gmX2_copy) rfl (sk_L22 (by omega)) (by decide) rfl rfl rfl (Nat.le_of_ble_eq_true rfl) (cL_copy E _ (sk_L22 (p := t) (by omega)) (sk_L11 (p := t) (by omega)) (by omega)) ?_
      refine k_iinc hX.1 dX6_copy_74 rfl (by decide) rfl rfl ?_
      try simp only [List.set_cons_zero, List.set_cons_succ]
      refine k_goto (tgt := 54) hX.1 dX6_copy_77 (by decide) ?_
      exact k_mem (yM_l g (k := 14) (h := 3) (t := t) (by omega) (by omega)) (ih (t + 1) (by omega))

set_option maxRecDepth 100000 in
set_option maxHeartbeats 4000000 in
theorem lp1_keep (E : En) {g : Mm} (hb : CB g) {X : Cx} (hX : Wk E mX6_copy X 2 (fun r g' => r = none ∧ g' = yM g 14 3 5 3)) : ∀ (m : Nat) (p : Nat), m + p = 5 → V E X 26 [some (vR 14), some (vR 3), some (vI (p : Int))] [] (yM g 14 3 p 0) := by
  intro m
  induction m with
  | zero =>
    intro p hm
    refine k_iload_n hX.1 dX6_copy_26 rfl rfl ?_
    refine k_iconst hX.1 dX6_copy_27 ?_
    refine k_icmp_ge (tgt := 52) hX.1 dX6_copy_28 (by decide) (by omega) (by omega) (fun c_28 => ?_) (fun c_28 => ?_)
    · skip
      refine k_iconst hX.1 dX6_copy_52 ?_
      refine k_istore_n hX.1 dX6_copy_53 rfl (by decide) rfl rfl ?_
      try simp only [List.set_cons_zero, List.set_cons_succ]
      obtain rfl : p = 5 := by omega
      exact lp2_keep E hb hX 3 0 (by omega)
    · skip
      exact absurd c_28 (by omega)
  | succ m ih =>
    intro p hm
    refine k_iload_n hX.1 dX6_copy_26 rfl rfl ?_
    refine k_iconst hX.1 dX6_copy_27 ?_
    refine k_icmp_ge (tgt := 52) hX.1 dX6_copy_28 (by decide) (by omega) (by omega) (fun c_28 => ?_) (fun c_28 => ?_)
    · skip
      exact absurd c_28 (by omega)
    · skip
      refine k_aload_n hX.1 dX6_copy_31 rfl rfl ?_
      refine k_getr (t := 15) hX.1 dX6_copy_32 flX6_11 rfl (by decide) rfl rfl ?_
      refine k_iload_n hX.1 dX6_copy_35 rfl rfl ?_
      refine k_aaldP (j := p) (q := 17 + p) hX.1 dX6_copy_36 rfl (by omega) (n := 5) rfl (by omega) (by omega) rfl ?_
      refine k_aload_n hX.1 dX6_copy_37 rfl rfl ?_
      refine k_getr (t := 4) hX.1 dX6_copy_38 flX6_11 rfl (by decide) rfl rfl ?_
      refine k_iload_n hX.1 dX6_copy_41 rfl rfl ?_
      refine k_aaldP (j := p) (q := 6 + p) hX.1 dX6_copy_42 rfl (by omega) (n := 5) rfl (by omega) (by omega) rfl ?_
      refine k_callVp (d2 := 1) (n := 1) (as := [_]) hX.1 dX6_copy_43 lkX6_62 (fit_of hX (by omega) gmX4_copy) rfl (sk_P17 (by omega)) (by decide) rfl rfl rfl (Nat.le_of_ble_eq_true rfl) (cP_copy E _ (sk_P17 (p := p) (by omega)) (sk_P6 (p := p) (by omega)) (by omega) (by rw [yM_off g (by omega) (by omega) (by omega)]; exact (hb p (by omega)).1)) ?_
      refine k_iinc hX.1 dX6_copy_46 rfl (by decide) rfl rfl ?_
      try simp only [List.set_cons_zero, List.set_cons_succ]
      refine k_goto (tgt := 26) hX.1 dX6_copy_49 (by decide) ?_
      exact k_mem (yM_p g (k := 14) (h := 3) (p := p) (by omega) (by omega)) (ih (p + 1) (by omega))

set_option maxRecDepth 100000 in
set_option maxHeartbeats 4000000 in
theorem cW_keep (E : En) {g : Mm} (hb : CB g) : Pr E 2 mX6_copy [vR 14, vR 3] g (yM g 14 3 5 3) := by
  refine Ok_of gmX6_copy (by omega) (Nat.le_of_ble_eq_true rfl) (fun X hX => ?_)
  show V E X 0 [some (vR 14), some (vR 3), none] [] g
  refine k_aload_n hX.1 dX6_copy_0 rfl rfl ?_
  refine k_aload_n hX.1 dX6_copy_1 rfl rfl ?_
  refine k_geti hX.1 dX6_copy_2 flX6_37 rfl (by decide) rfl ?_
  refine k_puti hX.1 dX6_copy_5 flX6_37 rfl (by decide) rfl ?_
  refine k_aload_n hX.1 dX6_copy_8 rfl rfl ?_
  refine k_aload_n hX.1 dX6_copy_9 rfl rfl ?_
  refine k_geti hX.1 dX6_copy_10 flX6_40 rfl (by decide) rfl ?_
  refine k_top (b := g.1 3 3) (by rw [wr_off (by omega)]) ?_
  refine k_puti hX.1 dX6_copy_13 flX6_40 rfl (by decide) rfl ?_
  refine k_aload_n hX.1 dX6_copy_16 rfl rfl ?_
  refine k_aload_n hX.1 dX6_copy_17 rfl rfl ?_
  refine k_geti hX.1 dX6_copy_18 flX6_59 rfl (by decide) rfl ?_
  refine k_top (b := g.1 3 4) (by rw [wr_off (by omega), wr_off (by omega)]) ?_
  refine k_puti hX.1 dX6_copy_21 flX6_59 rfl (by decide) rfl ?_
  refine k_iconst hX.1 dX6_copy_24 ?_
  refine k_istore_n hX.1 dX6_copy_25 rfl (by decide) rfl rfl ?_
  try simp only [List.set_cons_zero, List.set_cons_succ]
  exact k_mem (yM_0 g (k := 14) (h := 3) (by omega)) (lp1_keep E hb hX 5 0 (by omega))

set_option maxRecDepth 100000 in
set_option maxHeartbeats 4000000 in
theorem lp2_bring (E : En) {g : Mm} (hb : CB g) {X : Cx} (hX : Wk E mX6_copy X 2 (fun r g' => r = none ∧ g' = yM g 3 14 5 3)) : ∀ (m : Nat) (t : Nat), m + t = 3 → V E X 54 [some (vR 3), some (vR 14), some (vI (t : Int))] [] (yM g 3 14 5 t) := by
  intro m
  induction m with
  | zero =>
    intro t hm
    refine k_iload_n hX.1 dX6_copy_54 rfl rfl ?_
    refine k_iconst hX.1 dX6_copy_55 ?_
    refine k_icmp_ge (tgt := 80) hX.1 dX6_copy_56 (by decide) (by omega) (by omega) (fun c_56 => ?_) (fun c_56 => ?_)
    · skip
      refine k_vret hX dX6_copy_80 rfl ?_
      refine ⟨rfl, ?_⟩
      obtain rfl : t = 3 := by omega
      rfl
    · skip
      exact absurd c_56 (by omega)
  | succ m ih =>
    intro t hm
    refine k_iload_n hX.1 dX6_copy_54 rfl rfl ?_
    refine k_iconst hX.1 dX6_copy_55 ?_
    refine k_icmp_ge (tgt := 80) hX.1 dX6_copy_56 (by decide) (by omega) (by omega) (fun c_56 => ?_) (fun c_56 => ?_)
    · skip
      exact absurd c_56 (by omega)
    · skip
      refine k_aload_n hX.1 dX6_copy_59 rfl rfl ?_
      refine k_getr (t := 5) hX.1 dX6_copy_60 flX6_19 rfl (by decide) rfl rfl ?_
      refine k_iload_n hX.1 dX6_copy_63 rfl rfl ?_
      refine k_aaldL (j := t) (q := 11 + t) hX.1 dX6_copy_64 rfl (by omega) (n := 3) rfl (by omega) (by omega) rfl ?_
      refine k_aload_n hX.1 dX6_copy_65 rfl rfl ?_
      refine k_getr (t := 16) hX.1 dX6_copy_66 flX6_19 rfl (by decide) rfl rfl ?_
      refine k_iload_n hX.1 dX6_copy_69 rfl rfl ?_
      refine k_aaldL (j := t) (q := 22 + t) hX.1 dX6_copy_70 rfl (by omega) (n := 3) rfl (by omega) (by omega) rfl ?_
      refine k_callVp (d2 := 1) (n := 1) (as := [_]) hX.1 dX6_copy_71 lkX6_66 (fit_of hX (by omega) gmX2_copy) rfl (sk_L11 (by omega)) (by decide) rfl rfl rfl (Nat.le_of_ble_eq_true rfl) (cL_copy E _ (sk_L11 (p := t) (by omega)) (sk_L22 (p := t) (by omega)) (by omega)) ?_
      refine k_iinc hX.1 dX6_copy_74 rfl (by decide) rfl rfl ?_
      try simp only [List.set_cons_zero, List.set_cons_succ]
      refine k_goto (tgt := 54) hX.1 dX6_copy_77 (by decide) ?_
      exact k_mem (yM_l g (k := 3) (h := 14) (t := t) (by omega) (by omega)) (ih (t + 1) (by omega))

set_option maxRecDepth 100000 in
set_option maxHeartbeats 4000000 in
theorem lp1_bring (E : En) {g : Mm} (hb : CB g) {X : Cx} (hX : Wk E mX6_copy X 2 (fun r g' => r = none ∧ g' = yM g 3 14 5 3)) : ∀ (m : Nat) (p : Nat), m + p = 5 → V E X 26 [some (vR 3), some (vR 14), some (vI (p : Int))] [] (yM g 3 14 p 0) := by
  intro m
  induction m with
  | zero =>
    intro p hm
    refine k_iload_n hX.1 dX6_copy_26 rfl rfl ?_
    refine k_iconst hX.1 dX6_copy_27 ?_
    refine k_icmp_ge (tgt := 52) hX.1 dX6_copy_28 (by decide) (by omega) (by omega) (fun c_28 => ?_) (fun c_28 => ?_)
    · skip
      refine k_iconst hX.1 dX6_copy_52 ?_
      refine k_istore_n hX.1 dX6_copy_53 rfl (by decide) rfl rfl ?_
      try simp only [List.set_cons_zero, List.set_cons_succ]
      obtain rfl : p = 5 := by omega
      exact lp2_bring E hb hX 3 0 (by omega)
    · skip
      exact absurd c_28 (by omega)
  | succ m ih =>
    intro p hm
    refine k_iload_n hX.1 dX6_copy_26 rfl rfl ?_
    refine k_iconst hX.1 dX6_copy_27 ?_
    refine k_icmp_ge (tgt := 52) hX.1 dX6_copy_28 (by decide) (by omega) (by omega) (fun c_28 => ?_) (fun c_28 => ?_)
    · skip
      exact absurd c_28 (by omega)
    · skip
      refine k_aload_n hX.1 dX6_copy_31 rfl rfl ?_
      refine k_getr (t := 4) hX.1 dX6_copy_32 flX6_11 rfl (by decide) rfl rfl ?_
      refine k_iload_n hX.1 dX6_copy_35 rfl rfl ?_
      refine k_aaldP (j := p) (q := 6 + p) hX.1 dX6_copy_36 rfl (by omega) (n := 5) rfl (by omega) (by omega) rfl ?_
      refine k_aload_n hX.1 dX6_copy_37 rfl rfl ?_
      refine k_getr (t := 15) hX.1 dX6_copy_38 flX6_11 rfl (by decide) rfl rfl ?_
      refine k_iload_n hX.1 dX6_copy_41 rfl rfl ?_
      refine k_aaldP (j := p) (q := 17 + p) hX.1 dX6_copy_42 rfl (by omega) (n := 5) rfl (by omega) (by omega) rfl ?_
      refine k_callVp (d2 := 1) (n := 1) (as := [_]) hX.1 dX6_copy_43 lkX6_62 (fit_of hX (by omega) gmX4_copy) rfl (sk_P6 (by omega)) (by decide) rfl rfl rfl (Nat.le_of_ble_eq_true rfl) (cP_copy E _ (sk_P6 (p := p) (by omega)) (sk_P17 (p := p) (by omega)) (by omega) (by rw [yM_off g (by omega) (by omega) (by omega)]; exact (hb p (by omega)).2)) ?_
      refine k_iinc hX.1 dX6_copy_46 rfl (by decide) rfl rfl ?_
      try simp only [List.set_cons_zero, List.set_cons_succ]
      refine k_goto (tgt := 26) hX.1 dX6_copy_49 (by decide) ?_
      exact k_mem (yM_p g (k := 3) (h := 14) (p := p) (by omega) (by omega)) (ih (p + 1) (by omega))

set_option maxRecDepth 100000 in
set_option maxHeartbeats 4000000 in
theorem cW_bring (E : En) {g : Mm} (hb : CB g) : Pr E 2 mX6_copy [vR 3, vR 14] g (yM g 3 14 5 3) := by
  refine Ok_of gmX6_copy (by omega) (Nat.le_of_ble_eq_true rfl) (fun X hX => ?_)
  show V E X 0 [some (vR 3), some (vR 14), none] [] g
  refine k_aload_n hX.1 dX6_copy_0 rfl rfl ?_
  refine k_aload_n hX.1 dX6_copy_1 rfl rfl ?_
  refine k_geti hX.1 dX6_copy_2 flX6_37 rfl (by decide) rfl ?_
  refine k_puti hX.1 dX6_copy_5 flX6_37 rfl (by decide) rfl ?_
  refine k_aload_n hX.1 dX6_copy_8 rfl rfl ?_
  refine k_aload_n hX.1 dX6_copy_9 rfl rfl ?_
  refine k_geti hX.1 dX6_copy_10 flX6_40 rfl (by decide) rfl ?_
  refine k_top (b := g.1 14 3) (by rw [wr_off (by omega)]) ?_
  refine k_puti hX.1 dX6_copy_13 flX6_40 rfl (by decide) rfl ?_
  refine k_aload_n hX.1 dX6_copy_16 rfl rfl ?_
  refine k_aload_n hX.1 dX6_copy_17 rfl rfl ?_
  refine k_geti hX.1 dX6_copy_18 flX6_59 rfl (by decide) rfl ?_
  refine k_top (b := g.1 14 4) (by rw [wr_off (by omega), wr_off (by omega)]) ?_
  refine k_puti hX.1 dX6_copy_21 flX6_59 rfl (by decide) rfl ?_
  refine k_iconst hX.1 dX6_copy_24 ?_
  refine k_istore_n hX.1 dX6_copy_25 rfl (by decide) rfl rfl ?_
  try simp only [List.set_cons_zero, List.set_cons_succ]
  exact k_mem (yM_0 g (k := 3) (h := 14) (by omega)) (lp1_bring E hb hX 5 0 (by omega))

theorem imA_off (A : St) {i j : Nat} (h1 : ¬ (i = 12 ∧ (j = 6 ∨ j = 7))) (h2 : ¬ (13 ≤ i ∧ i < 22)) : imA A i j = A i j := by
  unfold imA; rw [if_neg (by omega), if_neg (by omega), if_neg h2]
theorem imA_k (A : St) {i j : Nat} (h : 13 ≤ i ∧ i < 22) : imA A i j = A (i - 11) j := by
  unfold imA; rw [if_neg (by omega), if_neg (by omega), if_pos h]
theorem RC_im {A : St} {g : Mm} (hR : RC A g) (hW : Wb A) : RC (imA A) (wr (yM g 14 3 5 3) 0 6 1) := by
  obtain ⟨hC, hp, ht, hk, hb⟩ := hR
  obtain ⟨⟨w1, w2⟩, ⟨w3, w4⟩, w5⟩ := hW
  refine ⟨CW_fr hC (fun a h1 h2 => by rw [wr_off (by omega)]; funext b; rw [yM_off g (by omega) (by omega) (by omega)]) ⟨imA_off A (by omega) (by omega), imA_off A (by omega) (by omega), imA_off A (by omega) (by omega)⟩ (fun i p h _ => imA_off A (by omega) (by omega)) (fun i p h1 h2 _ => imA_off A (by omega) (by omega)) w2 w4, ?_, ?_, fun _ => ?_, fun p hp => ?_⟩
  · unfold CPg
    rw [imA_off A (by omega) (by omega), wr_off (by omega), wr_off (by omega), yM_off g (by omega) (by omega) (by omega)]
    exact ⟨hp.1, fun k hk => by rw [imA_off A (by omega) (by omega), yM_off g (by omega) (by omega) (by omega)]; exact hp.2 k hk⟩
  · unfold CT
    rw [imA_off A (j := 4) (by omega) (by omega), imA_off A (j := 5) (by omega) (by omega), wr_at, wr_1, wr_1, if_neg (by omega), if_neg (by omega), yM_off g (by omega) (by omega) (by omega), yM_off g (by omega) (by omega) (by omega)]
    exact ⟨rfl, ht.2.1, ht.2.2⟩
  · refine ⟨?_, fun p hp => ?_, fun t ht => ?_⟩
    · rw [wr_off (by omega), yM_n g (by omega), yM_n g (by omega), yM_n g (by omega), imA_off A (j := 0) (by omega) (by omega), imA_off A (j := 1) (by omega) (by omega)]
      exact hC.1
    · rw [imA_off A (by omega) (by omega)] at hp
      have e := hC.2.1 p hp
      simp only [cPtK]
      simp only [cPt0] at e
      have y : ∀ b, b < 8 → (yM g 14 3 5 3).1 (17 + p) b = g.1 (6 + p) b := fun b hb => yM_P g (k := 14) (h := 3) (p := p) (by omega) hb
      rw [wr_off (by omega), y 0 (by omega), y 1 (by omega), y 2 (by omega), y 3 (by omega), y 4 (by omega), y 5 (by omega), y 6 (by omega), y 7 (by omega), imA_off A (by omega) (by omega), imA_off A (by omega) (by omega), imA_k A (by omega), imA_k A (by omega), imA_k A (by omega), imA_k A (by omega), imA_k A (by omega), imA_k A (by omega)]
      exact e
    · have hm : imA A 12 7 = A 12 2 := rfl
      rw [hm] at ht
      have e := hC.2.2 t ht
      simp only [cLtK]
      simp only [cLt0] at e
      have y : ∀ b, b < 3 → (yM g 14 3 5 3).1 (22 + t) b = g.1 (11 + t) b := fun b hb => yM_L g (k := 14) (h := 3) (t := t) (by omega) hb
      rw [wr_off (by omega), y 0 (by omega), y 1 (by omega), y 2 (by omega), imA_k A (by omega), imA_k A (by omega), imA_k A (by omega)]
      exact e
  · have y := yM_P g (k := 14) (h := 3) (p := p) (b := 6) hp (by omega)
    rw [wr_off (by omega), wr_off (by omega), yM_off g (by omega) (by omega) (by omega), show 17 + p = 14 + 3 + p by omega, y]
    exact ⟨(hb p hp).1, (hb p hp).1⟩
theorem reA_off (A : St) {i j : Nat} (h1 : ¬ (i = 12 ∧ j = 2)) (h2 : ¬ (2 ≤ i ∧ i < 11)) : reA A i j = A i j := by
  unfold reA; rw [if_neg h1, if_neg h2]
theorem reA_k (A : St) {i j : Nat} (h : 2 ≤ i ∧ i < 11) : reA A i j = A (i + 11) j := by
  unfold reA; rw [if_neg (by omega), if_pos h]
theorem RC_re {A : St} {g : Mm} (hR : RC A g) (hW : Wb A) (hK : A 12 6 = 1) : RC (reA A) (yM g 3 14 5 3) := by
  obtain ⟨hC, hp, ht, hk, hb⟩ := hR
  obtain ⟨⟨w1, w2⟩, ⟨w3, w4⟩, w5⟩ := hW
  have hk := hk hK
  have w6 := w5 hK
  refine ⟨⟨?_, fun p hp => ?_, fun t ht => ?_⟩, ?_, ?_, fun _ => ?_, fun p hp => ?_⟩
  · rw [yM_n g (by omega), yM_n g (by omega), yM_n g (by omega), reA_off A (j := 0) (by omega) (by omega), reA_off A (j := 1) (by omega) (by omega)]
    exact hk.1
  · rw [reA_off A (by omega) (by omega)] at hp
    have e := hk.2.1 p hp
    simp only [cPt0]
    simp only [cPtK] at e
    have y : ∀ b, b < 8 → (yM g 3 14 5 3).1 (6 + p) b = g.1 (17 + p) b := fun b hb => yM_P g (k := 3) (h := 14) (p := p) (by omega) hb
    rw [y 0 (by omega), y 1 (by omega), y 2 (by omega), y 3 (by omega), y 4 (by omega), y 5 (by omega), y 6 (by omega), y 7 (by omega), reA_off A (by omega) (by omega), reA_off A (by omega) (by omega), reA_k A (by omega), reA_k A (by omega), reA_k A (by omega), reA_k A (by omega), reA_k A (by omega), reA_k A (by omega)]
    exact e
  · have hm : reA A 12 2 = A 12 7 := rfl
    rw [hm] at ht
    have e := hk.2.2 t ht
    simp only [cLt0]
    simp only [cLtK] at e
    have y : ∀ b, b < 3 → (yM g 3 14 5 3).1 (11 + t) b = g.1 (22 + t) b := fun b hb => yM_L g (k := 3) (h := 14) (t := t) (by omega) hb
    rw [y 0 (by omega), y 1 (by omega), y 2 (by omega), reA_k A (by omega), reA_k A (by omega), reA_k A (by omega)]
    exact e
  · unfold CPg
    rw [reA_off A (by omega) (by omega), yM_off g (by omega) (by omega) (by omega)]
    exact ⟨hp.1, fun k hk => by rw [reA_off A (by omega) (by omega), yM_off g (by omega) (by omega) (by omega)]; exact hp.2 k hk⟩
  · unfold CT
    rw [reA_off A (by omega) (by omega), reA_off A (by omega) (by omega), reA_off A (by omega) (by omega), yM_off g (by omega) (by omega) (by omega), yM_off g (by omega) (by omega) (by omega), yM_off g (by omega) (by omega) (by omega)]
    exact ht
  · exact CK_fr hk (fun a h1 h2 => by funext b; rw [yM_off g (by omega) (by omega) (by omega)]) ⟨reA_off A (by omega) (by omega), reA_off A (by omega) (by omega), reA_off A (by omega) (by omega)⟩ (fun i p h => reA_off A (by omega) (by omega)) (fun i p h1 h2 => reA_off A (by omega) (by omega)) w2 w6.2
  · have y := yM_P g (k := 3) (h := 14) (p := p) (b := 6) hp (by omega)
    rw [show 6 + p = 3 + 3 + p by omega, y, yM_off g (a := 17 + p) (by omega) (by omega) (by omega)]
    exact ⟨(hb p hp).2, (hb p hp).2⟩
theorem sameM_yM (g : Mm) {k h : Nat} (hk : k < 35) : sameM g (yM g k h 5 3) := fun a ha => ⟨by funext b; rw [yM_off g (by omega) (by omega) (by omega)], rfl⟩
set_option maxRecDepth 100000 in
set_option maxHeartbeats 4000000 in
theorem c7_image (E : En) {A : St} {g : Mm} {n : Int} (hR : RC A g) (hW : Wf A n) (hWn : Wf (nImage A) (n + 1)) : Ok E 5 mX7_image [vR 0] g (fun r g' => r = some (vI (rImage A)) ∧ RC (nImage A) g' ∧ sameM g g') := by
  have hC0 := hR.1
  have hW0 := hW.1
  obtain ⟨⟨⟨hc1, hc2, hc3⟩, hcp, hcl⟩, ⟨hg1, hg2⟩, ⟨ht1, ht2, ht3⟩, hck, hcb⟩ := id hR
  obtain ⟨⟨⟨hw1, hw2, hw3, hw4, hw5, hw6, hw7, hw8⟩, hwp, hwl⟩, ⟨hq1, hq2, hq3⟩, ⟨hz1, ⟨hz2, hz3⟩, ⟨hz4, hz5⟩⟩, hwk⟩ := id hW
  refine Ok_of gmX7_image (by omega) (Nat.le_of_ble_eq_true rfl) (fun X hX => ?_)
  show V E X 0 [some (vR 0)] [] g
  by_cases hz : A 12 0 = 0
  · skip
    refine k_aload_n hX.1 dX7_image_0 rfl rfl ?_
    refine k_getr (t := 3) hX.1 dX7_image_1 flX7_19 rfl (by decide) rfl rfl ?_
    refine k_geti hX.1 dX7_image_4 flX7_74 rfl (by decide) rfl ?_
    refine k_if_ne (tgt := 13) hX.1 dX7_image_7 (by decide) (by omega) (fun c_7 => ?_) (fun c_7 => ?_)
    · skip
      exact absurd c_7 (by omega)
    · skip
      refine k_bipush hX.1 dX7_image_10 (by decide) ?_
      refine k_iret hX dX7_image_12 rfl ?_
      refine ⟨?_, ?_, sameM.rf g⟩
      · congr 2
        unfold rImage
        (repeat first | rw [if_pos (by omega)] | rw [if_neg (by omega)])
      · unfold nImage
        (repeat first | rw [if_pos (by omega)] | rw [if_neg (by omega)])
        exact hR
  · skip
    have hn : nImage A = imA A := if_neg hz
    rw [hn] at hWn
    have hR2 := RC_im hR hW.b
    refine k_aload_n hX.1 dX7_image_0 rfl rfl ?_
    refine k_getr (t := 3) hX.1 dX7_image_1 flX7_19 rfl (by decide) rfl rfl ?_
    refine k_geti hX.1 dX7_image_4 flX7_74 rfl (by decide) rfl ?_
    refine k_if_ne (tgt := 13) hX.1 dX7_image_7 (by decide) (by omega) (fun c_7 => ?_) (fun c_7 => ?_)
    · skip
      refine k_aload_n hX.1 dX7_image_13 rfl rfl ?_
      refine k_getr (t := 14) hX.1 dX7_image_14 flX7_23 rfl (by decide) rfl rfl ?_
      refine k_aload_n hX.1 dX7_image_17 rfl rfl ?_
      refine k_getr (t := 3) hX.1 dX7_image_18 flX7_19 rfl (by decide) rfl rfl ?_
      refine k_callVp (d2 := 2) (n := 1) (as := [_]) hX.1 dX7_image_21 lkX7_203 (fit_of hX (by omega) gmX6_copy) rfl rfl (by decide) rfl rfl rfl (Nat.le_of_ble_eq_true rfl) (cW_keep E hcb) ?_
      refine k_aload_n hX.1 dX7_image_24 rfl rfl ?_
      refine k_iconst hX.1 dX7_image_25 ?_
      refine k_putz hX.1 dX7_image_26 flX7_67 rfl (by decide) rfl (by omega) ?_
      refine k_aload_n hX.1 dX7_image_29 rfl rfl ?_
      refine k_getr (t := 3) hX.1 dX7_image_30 flX7_19 rfl (by decide) rfl rfl ?_
      refine k_callVf (d2 := 2) (n := 0) (as := []) hX.1 dX7_image_33 lkX7_206 (fit_of hX (by omega) gmX6_knittedCount) rfl rfl (by decide) rfl rfl rfl (Nat.le_of_ble_eq_true rfl) (cW_knittedCount E hR2.1 hWn.1) ?_
      refine k_iret hX dX7_image_36 rfl ?_
      refine ⟨?_, ?_, (sameM_yM g (by omega)).wr (by omega)⟩
      · congr 2
        unfold rImage
        rw [if_neg hz]
        unfold kC
        rw [imA_off A (by omega) (by omega)]
        exact sm_congr (fun p hp => by rw [imA_off A (by omega) (by omega)])
      · rw [hn]; exact hR2
    · skip
      exact absurd c_7 (by omega)

set_option maxRecDepth 100000 in
set_option maxHeartbeats 4000000 in
theorem c7_restore (E : En) {A : St} {g : Mm} {n : Int} (hR : RC A g) (hW : Wf A n) (hWn : Wf (nRestore A) (n + 1)) : Ok E 5 mX7_restore [vR 0] g (fun r g' => r = some (vI (rRestore A)) ∧ RC (nRestore A) g' ∧ sameM g g') := by
  have hC0 := hR.1
  have hW0 := hW.1
  obtain ⟨⟨⟨hc1, hc2, hc3⟩, hcp, hcl⟩, ⟨hg1, hg2⟩, ⟨ht1, ht2, ht3⟩, hck, hcb⟩ := id hR
  obtain ⟨⟨⟨hw1, hw2, hw3, hw4, hw5, hw6, hw7, hw8⟩, hwp, hwl⟩, ⟨hq1, hq2, hq3⟩, ⟨hz1, ⟨hz2, hz3⟩, ⟨hz4, hz5⟩⟩, hwk⟩ := id hW
  refine Ok_of gmX7_restore (by omega) (Nat.le_of_ble_eq_true rfl) (fun X hX => ?_)
  show V E X 0 [some (vR 0)] [] g
  by_cases hz : A 12 6 = 1
  · skip
    have hn : nRestore A = reA A := if_pos hz
    rw [hn] at hWn
    have hR2 := RC_re hR hW.b hz
    refine k_aload_n hX.1 dX7_restore_0 rfl rfl ?_
    refine k_getz hX.1 dX7_restore_1 flX7_67 rfl (by decide) rfl ?_
    refine k_if_ne (tgt := 10) hX.1 dX7_restore_4 (by decide) (by omega) (fun c_4 => ?_) (fun c_4 => ?_)
    · skip
      refine k_aload_n hX.1 dX7_restore_10 rfl rfl ?_
      refine k_getr (t := 3) hX.1 dX7_restore_11 flX7_19 rfl (by decide) rfl rfl ?_
      refine k_aload_n hX.1 dX7_restore_14 rfl rfl ?_
      refine k_getr (t := 14) hX.1 dX7_restore_15 flX7_23 rfl (by decide) rfl rfl ?_
      refine k_callVp (d2 := 2) (n := 1) (as := [_]) hX.1 dX7_restore_18 lkX7_203 (fit_of hX (by omega) gmX6_copy) rfl rfl (by decide) rfl rfl rfl (Nat.le_of_ble_eq_true rfl) (cW_bring E hcb) ?_
      refine k_aload_n hX.1 dX7_restore_21 rfl rfl ?_
      refine k_getr (t := 3) hX.1 dX7_restore_22 flX7_19 rfl (by decide) rfl rfl ?_
      refine k_callVf (d2 := 2) (n := 0) (as := []) hX.1 dX7_restore_25 lkX7_206 (fit_of hX (by omega) gmX6_knittedCount) rfl rfl (by decide) rfl rfl rfl (Nat.le_of_ble_eq_true rfl) (cW_knittedCount E hR2.1 hWn.1) ?_
      refine k_iret hX dX7_restore_28 rfl ?_
      refine ⟨?_, ?_, sameM_yM g (by omega)⟩
      · congr 2
        unfold rRestore
        rw [if_pos hz]
      · rw [hn]; exact hR2
    · skip
      exact absurd c_4 (by omega)
  · skip
    refine k_aload_n hX.1 dX7_restore_0 rfl rfl ?_
    refine k_getz hX.1 dX7_restore_1 flX7_67 rfl (by decide) rfl ?_
    refine k_if_ne (tgt := 10) hX.1 dX7_restore_4 (by decide) (by omega) (fun c_4 => ?_) (fun c_4 => ?_)
    · skip
      exact absurd c_4 (by omega)
    · skip
      refine k_bipush hX.1 dX7_restore_7 (by decide) ?_
      refine k_iret hX dX7_restore_9 rfl ?_
      refine ⟨?_, ?_, sameM.rf g⟩
      · congr 2
        unfold rRestore
        (repeat first | rw [if_pos (by omega)] | rw [if_neg (by omega)])
      · unfold nRestore
        (repeat first | rw [if_pos (by omega)] | rw [if_neg (by omega)])
        exact hR

set_option maxRecDepth 100000 in
set_option maxHeartbeats 4000000 in
theorem cG_put (E : En) (g : Mm) {k : Nat} (hk : g.1 1 1 = (k : Int)) (h18 : k < 18) {c : Int} : Pr E 1 mX3_put [vR 1, vI c] g (wr (wr g 2 k c) 1 1 ((k : Int) + 1)) := by
  refine Ok_of gmX3_put (by omega) (Nat.le_of_ble_eq_true rfl) (fun X hX => ?_)
  show V E X 0 [some (vR 1), some (vI c)] [] g
  refine k_aload_n hX.1 dX3_put_0 rfl rfl ?_
  refine k_geti hX.1 dX3_put_1 flX3_15 rfl (by decide) rfl ?_
  refine k_top hk ?_
  refine k_aload_n hX.1 dX3_put_4 rfl rfl ?_
  refine k_getr (t := 2) hX.1 dX3_put_5 flX3_9 rfl (by decide) rfl rfl ?_
  refine k_alen (z := 18) hX.1 dX3_put_8 rfl (by decide) rfl ?_
  refine k_icmp_ge (tgt := 32) hX.1 dX3_put_9 (by decide) (by omega) (by omega) (fun c_9 => ?_) (fun c_9 => ?_)
  · skip
    exact absurd c_9 (by omega)
  · skip
    refine k_aload_n hX.1 dX3_put_12 rfl rfl ?_
    refine k_getr (t := 2) hX.1 dX3_put_13 flX3_9 rfl (by decide) rfl rfl ?_
    refine k_aload_n hX.1 dX3_put_16 rfl rfl ?_
    refine k_geti hX.1 dX3_put_17 flX3_15 rfl (by decide) rfl ?_
    refine k_top hk ?_
    refine k_iload_n hX.1 dX3_put_20 rfl rfl ?_
    refine k_iast (j := k) hX.1 dX3_put_21 rfl (by omega) (n := 18) rfl (by omega) (by omega) ?_
    refine k_aload_n hX.1 dX3_put_22 rfl rfl ?_
    refine k_dupR hX.1 dX3_put_23 ?_
    refine k_geti hX.1 dX3_put_24 flX3_15 rfl (by decide) rfl ?_
    refine k_top (b := (k : Int)) (by rw [wr_off (by omega)]; exact hk) ?_
    refine k_iconst hX.1 dX3_put_27 ?_
    refine k_iadd hX.1 dX3_put_28 ?_
    refine k_puti hX.1 dX3_put_29 flX3_15 rfl (by decide) rfl ?_
    refine k_vret hX dX3_put_32 rfl ?_
    exact ⟨rfl, rfl⟩

set_option maxRecDepth 100000 in
set_option maxHeartbeats 4000000 in
theorem c7_letter (E : En) {A : St} {g : Mm} {n : Int} (hR : RC A g) (hW : Wf A n) {c : Int} (hc : bd c) : Ok E 5 mX7_letter [vR 0, vI c] g (fun r g' => r = some (vI (rLetter A c)) ∧ RC (nLetter A c) g' ∧ sameM g g') := by
  have hC0 := hR.1
  have hW0 := hW.1
  obtain ⟨⟨⟨hc1, hc2, hc3⟩, hcp, hcl⟩, ⟨hg1, hg2⟩, ⟨ht1, ht2, ht3⟩, hck, hcb⟩ := id hR
  obtain ⟨⟨⟨hw1, hw2, hw3, hw4, hw5, hw6, hw7, hw8⟩, hwp, hwl⟩, ⟨hq1, hq2, hq3⟩, ⟨hz1, ⟨hz2, hz3⟩, ⟨hz4, hz5⟩⟩, hwk⟩ := id hW
  obtain ⟨k, hk⟩ : ∃ m : Nat, (A 12 3) = (m : Int) := ⟨(A 12 3).toNat, by omega⟩
  refine Ok_of gmX7_letter (by omega) (Nat.le_of_ble_eq_true rfl) (fun X hX => ?_)
  show V E X 0 [some (vR 0), some (vI c)] [] g
  refine k_iload_n hX.1 dX7_letter_0 rfl rfl ?_
  refine k_bipush hX.1 dX7_letter_1 (by decide) ?_
  refine k_icmp_lt (tgt := 12) hX.1 dX7_letter_3 (by decide) (by omega) (by omega) (fun c_3 => ?_) (fun c_3 => ?_)
  · skip
    refine k_bipush hX.1 dX7_letter_12 (by decide) ?_
    refine k_iret hX dX7_letter_14 rfl ?_
    refine ⟨?_, ?_, sameM.rf g⟩
    · congr 2
      unfold rLetter
      (repeat first | rw [if_pos (by omega)] | rw [if_neg (by omega)])
    · unfold nLetter
      (repeat first | rw [if_pos (by omega)] | rw [if_neg (by omega)])
      exact hR
  · skip
    refine k_iload_n hX.1 dX7_letter_6 rfl rfl ?_
    refine k_bipush hX.1 dX7_letter_7 (by decide) ?_
    refine k_icmp_le (tgt := 15) hX.1 dX7_letter_9 (by decide) (by omega) (by omega) (fun c_9 => ?_) (fun c_9 => ?_)
    · skip
      refine k_aload_n hX.1 dX7_letter_15 rfl rfl ?_
      refine k_getr (t := 1) hX.1 dX7_letter_16 flX7_10 rfl (by decide) rfl rfl ?_
      refine k_geti hX.1 dX7_letter_19 flX7_47 rfl (by decide) rfl ?_
      refine k_bipush hX.1 dX7_letter_22 (by decide) ?_
      refine k_icmp_lt (tgt := 30) hX.1 dX7_letter_24 (by decide) (by omega) (by omega) (fun c_24 => ?_) (fun c_24 => ?_)
      · skip
        refine k_aload_n hX.1 dX7_letter_30 rfl rfl ?_
        refine k_getr (t := 1) hX.1 dX7_letter_31 flX7_10 rfl (by decide) rfl rfl ?_
        refine k_iload_n hX.1 dX7_letter_34 rfl rfl ?_
        refine k_callVp (d2 := 1) (n := 1) (as := [_]) hX.1 dX7_letter_35 lkX7_51 (fit_of hX (by omega) gmX3_put) rfl rfl (by decide) rfl rfl rfl (Nat.le_of_ble_eq_true rfl) (cG_put E g (k := k) (by omega) (by omega)) ?_
        refine k_aload_n hX.1 dX7_letter_38 rfl rfl ?_
        refine k_getr (t := 1) hX.1 dX7_letter_39 flX7_10 rfl (by decide) rfl rfl ?_
        refine k_geti hX.1 dX7_letter_42 flX7_47 rfl (by decide) rfl ?_
        refine k_top (b := (k : Int) + 1) (by rw [wr_at]) ?_
        refine k_iret hX dX7_letter_45 rfl ?_
        refine ⟨?_, ?_, ((sameM.rf g).wr (by omega)).wr (by omega)⟩
        · congr 2
          unfold rLetter
          (repeat first | rw [if_pos (by omega)] | rw [if_neg (by omega)])
          omega
        · unfold nLetter
          (repeat first | rw [if_pos (by omega)] | rw [if_neg (by omega)])
          rw [hk, Int.toNat_natCast]
          refine RC_o hR hW.b (fun a h1 h2 => by rw [wr_off (by omega), wr_off (by omega)]) (fun i p h => by rw [up_off (by omega), up_off (by omega)]) (fun h => by rw [up_off (by omega), up_off (by omega)] at h; exact h) ⟨?_, fun q hq => ?_⟩ ?_
          · rw [wr_at, up_at]
          · rw [up_at] at hq
            rw [wr_off (by omega), wr_1, up_off (by omega), up_1]
            by_cases e : q = k
            · rw [if_pos ⟨rfl, e⟩, if_pos ⟨rfl, e⟩]
            · rw [if_neg (by omega), if_neg (by omega)]
              exact hg2 q (by omega)
          · unfold CT
            rw [wr_off (by omega), wr_off (by omega), up_off (by omega), up_off (by omega), up_off (by omega), up_off (by omega), up_off (by omega), up_off (by omega)]
            exact ⟨ht1, ht2, ht3⟩
      · skip
        refine k_bipush hX.1 dX7_letter_27 (by decide) ?_
        refine k_iret hX dX7_letter_29 rfl ?_
        refine ⟨?_, ?_, sameM.rf g⟩
        · congr 2
          unfold rLetter
          (repeat first | rw [if_pos (by omega)] | rw [if_neg (by omega)])
        · unfold nLetter
          (repeat first | rw [if_pos (by omega)] | rw [if_neg (by omega)])
          exact hR
    · skip
      refine k_bipush hX.1 dX7_letter_12 (by decide) ?_
      refine k_iret hX dX7_letter_14 rfl ?_
      refine ⟨?_, ?_, sameM.rf g⟩
      · congr 2
        unfold rLetter
        (repeat first | rw [if_pos (by omega)] | rw [if_neg (by omega)])
      · unfold nLetter
        (repeat first | rw [if_pos (by omega)] | rw [if_neg (by omega)])
        exact hR

set_option maxRecDepth 100000 in
set_option maxHeartbeats 4000000 in
theorem c7_blank (E : En) {A : St} {g : Mm} {n : Int} (hR : RC A g) (hW : Wf A n) : Ok E 5 mX7_blank [vR 0] g (fun r g' => r = some (vI (A 12 3)) ∧ RC (nBlank A) g' ∧ sameM g g') := by
  have hC0 := hR.1
  have hW0 := hW.1
  obtain ⟨⟨⟨hc1, hc2, hc3⟩, hcp, hcl⟩, ⟨hg1, hg2⟩, ⟨ht1, ht2, ht3⟩, hck, hcb⟩ := id hR
  obtain ⟨⟨⟨hw1, hw2, hw3, hw4, hw5, hw6, hw7, hw8⟩, hwp, hwl⟩, ⟨hq1, hq2, hq3⟩, ⟨hz1, ⟨hz2, hz3⟩, ⟨hz4, hz5⟩⟩, hwk⟩ := id hW
  refine Ok_of gmX7_blank (by omega) (Nat.le_of_ble_eq_true rfl) (fun X hX => ?_)
  show V E X 0 [some (vR 0), none] [] g
  refine k_aload_n hX.1 dX7_blank_0 rfl rfl ?_
  refine k_getr (t := 1) hX.1 dX7_blank_1 flX7_10 rfl (by decide) rfl rfl ?_
  refine k_geti hX.1 dX7_blank_4 flX7_47 rfl (by decide) rfl ?_
  refine k_istore_n hX.1 dX7_blank_7 rfl (by decide) rfl rfl ?_
  try simp only [List.set_cons_zero, List.set_cons_succ]
  refine k_aload_n hX.1 dX7_blank_8 rfl rfl ?_
  refine k_getr (t := 1) hX.1 dX7_blank_9 flX7_10 rfl (by decide) rfl rfl ?_
  refine k_iconst hX.1 dX7_blank_12 ?_
  refine k_puti hX.1 dX7_blank_13 flX7_47 rfl (by decide) rfl ?_
  refine k_iload_n hX.1 dX7_blank_16 rfl rfl ?_
  refine k_iret hX dX7_blank_17 rfl ?_
  refine ⟨?_, ?_, (sameM.rf g).wr (by omega)⟩
  · rw [hg1]
  · unfold nBlank
    refine RC_o hR hW.b (fun a h1 h2 => by rw [wr_off (by omega)]) (fun i p h => by rw [up_off (by omega)]) (fun h => by rw [up_off (by omega)] at h; exact h) ⟨?_, fun q hq => ?_⟩ ?_
    · rw [wr_at, up_at]
    · rw [up_at] at hq; omega
    · unfold CT
      rw [wr_off (by omega), up_off (by omega), up_off (by omega), up_off (by omega)]
      exact ⟨ht1, ht2, ht3⟩
