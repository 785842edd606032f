set_option maxRecDepth 100000 in
set_option maxHeartbeats 4000000 in
theorem cM_within (E : En) (g : Mm) {v a b : Int} (hv : bd v) (ha : bd a) (hb : bd b) : Fn E 1 mX8_within [vI v, vI a, vI b] g (vI (if a ≤ v ∧ v ≤ b then 1 else 0)) := by
  refine Ok_of gmX8_within (by omega) (Nat.le_of_ble_eq_true rfl) (fun X hX => ?_)
  show V E X 0 [some (vI v), some (vI a), some (vI b)] [] g
  refine k_iload_n hX.1 dX8_within_0 rfl rfl ?_
  refine k_iload_n hX.1 dX8_within_1 rfl rfl ?_
  refine k_icmp_lt (tgt := 14) hX.1 dX8_within_2 (by decide) (by omega) (by omega) (fun c_2 => ?_) (fun c_2 => ?_)
  · skip
    refine k_iconst hX.1 dX8_within_14 ?_
    refine k_zret hX dX8_within_15 rfl (by omega) ?_
    refine ⟨?_, rfl⟩
    congr 2
    split <;> omega
  · skip
    refine k_iload_n hX.1 dX8_within_5 rfl rfl ?_
    refine k_iload_n hX.1 dX8_within_6 rfl rfl ?_
    refine k_icmp_gt (tgt := 14) hX.1 dX8_within_7 (by decide) (by omega) (by omega) (fun c_7 => ?_) (fun c_7 => ?_)
    · skip
      refine k_iconst hX.1 dX8_within_14 ?_
      refine k_zret hX dX8_within_15 rfl (by omega) ?_
      refine ⟨?_, rfl⟩
      congr 2
      split <;> omega
    · skip
      refine k_iconst hX.1 dX8_within_10 ?_
      refine k_goto (tgt := 15) hX.1 dX8_within_11 (by decide) ?_
      refine k_zret hX dX8_within_15 rfl (by omega) ?_
      refine ⟨?_, rfl⟩
      congr 2
      split <;> omega

theorem cM_within1 (E : En) (g : Mm) {v a b : Int} (hv : bd v) (ha : bd a) (hb : bd b) (h : a ≤ v ∧ v ≤ b) : Fn E 1 mX8_within [vI v, vI a, vI b] g (vI 1) := by
  have hq := cM_within E g hv ha hb
  rwa [if_pos h] at hq
theorem cM_within0 (E : En) (g : Mm) {v a b : Int} (hv : bd v) (ha : bd a) (hb : bd b) (h : ¬ (a ≤ v ∧ v ≤ b)) : Fn E 1 mX8_within [vI v, vI a, vI b] g (vI 0) := by
  have hq := cM_within E g hv ha hb
  rwa [if_neg h] at hq
set_option maxRecDepth 100000 in
set_option maxHeartbeats 4000000 in
theorem cM_isPart (E : En) (g : Mm) {p : Int} (hp : bd p) (h : 0 ≤ g.1 46 1 ∧ g.1 46 1 ≤ 100) : Fn E 2 mX8_isPart [vR 46, vI p] g (vI (if 0 ≤ p ∧ p < g.1 46 1 then 1 else 0)) := by
  refine Ok_of gmX8_isPart (by omega) (Nat.le_of_ble_eq_true rfl) (fun X hX => ?_)
  show V E X 0 [some (vR 46), some (vI p)] [] g
  by_cases z : 0 ≤ p ∧ p < g.1 46 1
  · skip
    refine k_iload_n hX.1 dX8_isPart_0 rfl rfl ?_
    refine k_iconst hX.1 dX8_isPart_1 ?_
    refine k_aload_n hX.1 dX8_isPart_2 rfl rfl ?_
    refine k_geti hX.1 dX8_isPart_3 flX8_119 rfl (by decide) rfl ?_
    refine k_iconst hX.1 dX8_isPart_6 ?_
    refine k_isub hX.1 dX8_isPart_7 ?_
    refine k_callSf (d2 := 1) (n := 3) (as := [_, _, _]) hX.1 dX8_isPart_8 lkX8_86 (fit_of hX (by omega) gmX8_within) rfl rfl (Nat.le_of_ble_eq_true rfl) (cM_within1 E g (by omega) (by omega) (by omega) (by omega)) ?_
    refine k_zret hX dX8_isPart_11 rfl (by omega) ?_
    rw [if_pos z]
    exact ⟨rfl, rfl⟩
  · skip
    refine k_iload_n hX.1 dX8_isPart_0 rfl rfl ?_
    refine k_iconst hX.1 dX8_isPart_1 ?_
    refine k_aload_n hX.1 dX8_isPart_2 rfl rfl ?_
    refine k_geti hX.1 dX8_isPart_3 flX8_119 rfl (by decide) rfl ?_
    refine k_iconst hX.1 dX8_isPart_6 ?_
    refine k_isub hX.1 dX8_isPart_7 ?_
    refine k_callSf (d2 := 1) (n := 3) (as := [_, _, _]) hX.1 dX8_isPart_8 lkX8_86 (fit_of hX (by omega) gmX8_within) rfl rfl (Nat.le_of_ble_eq_true rfl) (cM_within0 E g (by omega) (by omega) (by omega) (by omega)) ?_
    refine k_zret hX dX8_isPart_11 rfl (by omega) ?_
    rw [if_neg z]
    exact ⟨rfl, rfl⟩

theorem cM_isPart1 (E : En) (g : Mm) {p : Int} (h0 : 0 ≤ p) (h1 : p < g.1 46 1) (h : 0 ≤ g.1 46 1 ∧ g.1 46 1 ≤ 100) : Fn E 2 mX8_isPart [vR 46, vI p] g (vI 1) := by
  have hq := cM_isPart E g (p := p) (by omega) h
  rwa [if_pos ⟨h0, h1⟩] at hq
theorem cM_isPart0 (E : En) (g : Mm) {p : Int} (hp : bd p) (h1 : ¬ (0 ≤ p ∧ p < g.1 46 1)) (h : 0 ≤ g.1 46 1 ∧ g.1 46 1 ≤ 100) : Fn E 2 mX8_isPart [vR 46, vI p] g (vI 0) := by
  have hq := cM_isPart E g (p := p) hp h
  rwa [if_neg h1] at hq
set_option maxRecDepth 100000 in
set_option maxHeartbeats 4000000 in
theorem cM_isLot (E : En) (g : Mm) {p : Int} (hp : bd p) (h : 0 ≤ g.1 46 11 ∧ g.1 46 11 ≤ 100) : Fn E 2 mX8_isLot [vR 46, vI p] g (vI (if 0 ≤ p ∧ p < g.1 46 11 then 1 else 0)) := by
  refine Ok_of gmX8_isLot (by omega) (Nat.le_of_ble_eq_true rfl) (fun X hX => ?_)
  show V E X 0 [some (vR 46), some (vI p)] [] g
  by_cases z : 0 ≤ p ∧ p < g.1 46 11
  · skip
    refine k_iload_n hX.1 dX8_isLot_0 rfl rfl ?_
    refine k_iconst hX.1 dX8_isLot_1 ?_
    refine k_aload_n hX.1 dX8_isLot_2 rfl rfl ?_
    refine k_geti hX.1 dX8_isLot_3 flX8_132 rfl (by decide) rfl ?_
    refine k_iconst hX.1 dX8_isLot_6 ?_
    refine k_isub hX.1 dX8_isLot_7 ?_
    refine k_callSf (d2 := 1) (n := 3) (as := [_, _, _]) hX.1 dX8_isLot_8 lkX8_86 (fit_of hX (by omega) gmX8_within) rfl rfl (Nat.le_of_ble_eq_true rfl) (cM_within1 E g (by omega) (by omega) (by omega) (by omega)) ?_
    refine k_zret hX dX8_isLot_11 rfl (by omega) ?_
    rw [if_pos z]
    exact ⟨rfl, rfl⟩
  · skip
    refine k_iload_n hX.1 dX8_isLot_0 rfl rfl ?_
    refine k_iconst hX.1 dX8_isLot_1 ?_
    refine k_aload_n hX.1 dX8_isLot_2 rfl rfl ?_
    refine k_geti hX.1 dX8_isLot_3 flX8_132 rfl (by decide) rfl ?_
    refine k_iconst hX.1 dX8_isLot_6 ?_
    refine k_isub hX.1 dX8_isLot_7 ?_
    refine k_callSf (d2 := 1) (n := 3) (as := [_, _, _]) hX.1 dX8_isLot_8 lkX8_86 (fit_of hX (by omega) gmX8_within) rfl rfl (Nat.le_of_ble_eq_true rfl) (cM_within0 E g (by omega) (by omega) (by omega) (by omega)) ?_
    refine k_zret hX dX8_isLot_11 rfl (by omega) ?_
    rw [if_neg z]
    exact ⟨rfl, rfl⟩

theorem cM_isLot1 (E : En) (g : Mm) {p : Int} (h0 : 0 ≤ p) (h1 : p < g.1 46 11) (h : 0 ≤ g.1 46 11 ∧ g.1 46 11 ≤ 100) : Fn E 2 mX8_isLot [vR 46, vI p] g (vI 1) := by
  have hq := cM_isLot E g (p := p) (by omega) h
  rwa [if_pos ⟨h0, h1⟩] at hq
theorem cM_isLot0 (E : En) (g : Mm) {p : Int} (hp : bd p) (h1 : ¬ (0 ≤ p ∧ p < g.1 46 11)) (h : 0 ≤ g.1 46 11 ∧ g.1 46 11 ≤ 100) : Fn E 2 mX8_isLot [vR 46, vI p] g (vI 0) := by
  have hq := cM_isLot E g (p := p) hp h
  rwa [if_neg h1] at hq
set_option maxRecDepth 100000 in
set_option maxHeartbeats 4000000 in
theorem cM_kindBy (E : En) (g : Mm) {c : Int} (hc : bd c) : Fn E 1 mX8_kindBy [vI c] g (vI (kix c)) := by
  refine Ok_of gmX8_kindBy (by omega) (Nat.le_of_ble_eq_true rfl) (fun X hX => ?_)
  show V E X 0 [some (vI c)] [] g
  refine k_iload_n hX.1 dX8_kindBy_0 rfl rfl ?_
  rcases (show c = 98 ∨ c = 99 ∨ c = 104 ∨ c = 112 ∨ c = 115 ∨ (¬ c = 98 ∧ ¬ c = 99 ∧ ¬ c = 104 ∧ ¬ c = 112 ∧ ¬ c = 115) by omega) with s_1 | s_1 | s_1 | s_1 | s_1 | s_1
  · refine k_lookup (tgt := 54) (off := 53) hX.1 dX8_kindBy_1 (by omega) (by decide) (by rw [s_1]; rfl) (by decide) ?_
    skip
    refine k_iconst hX.1 dX8_kindBy_54 ?_
    refine k_iret hX dX8_kindBy_55 rfl ?_
    refine ⟨?_, rfl⟩
    congr 2
    unfold kix
    (repeat first | rw [if_pos (by omega)] | rw [if_neg (by omega)])
  · refine k_lookup (tgt := 58) (off := 57) hX.1 dX8_kindBy_1 (by omega) (by decide) (by rw [s_1]; rfl) (by decide) ?_
    skip
    refine k_iconst hX.1 dX8_kindBy_58 ?_
    refine k_iret hX dX8_kindBy_59 rfl ?_
    refine ⟨?_, rfl⟩
    congr 2
    unfold kix
    (repeat first | rw [if_pos (by omega)] | rw [if_neg (by omega)])
  · refine k_lookup (tgt := 60) (off := 59) hX.1 dX8_kindBy_1 (by omega) (by decide) (by rw [s_1]; rfl) (by decide) ?_
    skip
    refine k_iconst hX.1 dX8_kindBy_60 ?_
    refine k_iret hX dX8_kindBy_61 rfl ?_
    refine ⟨?_, rfl⟩
    congr 2
    unfold kix
    (repeat first | rw [if_pos (by omega)] | rw [if_neg (by omega)])
  · refine k_lookup (tgt := 52) (off := 51) hX.1 dX8_kindBy_1 (by omega) (by decide) (by rw [s_1]; rfl) (by decide) ?_
    skip
    refine k_iconst hX.1 dX8_kindBy_52 ?_
    refine k_iret hX dX8_kindBy_53 rfl ?_
    refine ⟨?_, rfl⟩
    congr 2
    unfold kix
    (repeat first | rw [if_pos (by omega)] | rw [if_neg (by omega)])
  · refine k_lookup (tgt := 56) (off := 55) hX.1 dX8_kindBy_1 (by omega) (by decide) (by rw [s_1]; rfl) (by decide) ?_
    skip
    refine k_iconst hX.1 dX8_kindBy_56 ?_
    refine k_iret hX dX8_kindBy_57 rfl ?_
    refine ⟨?_, rfl⟩
    congr 2
    unfold kix
    (repeat first | rw [if_pos (by omega)] | rw [if_neg (by omega)])
  · refine k_lookup (tgt := 62) (off := 61) hX.1 dX8_kindBy_1 (by omega) (by decide) (by have := s_1; simp [Op.lookupswitch.offset]; omega) (by decide) ?_
    skip
    refine k_iconst hX.1 dX8_kindBy_62 ?_
    refine k_iret hX dX8_kindBy_63 rfl ?_
    refine ⟨?_, rfl⟩
    congr 2
    unfold kix
    (repeat first | rw [if_pos (by omega)] | rw [if_neg (by omega)])

set_option maxRecDepth 100000 in
set_option maxHeartbeats 4000000 in
theorem cM_lightOf (E : En) (g : Mm) {c : Int} (hc : bd c) : Fn E 1 mX8_lightOf [vI c] g (vI (lig c)) := by
  refine Ok_of gmX8_lightOf (by omega) (Nat.le_of_ble_eq_true rfl) (fun X hX => ?_)
  show V E X 0 [some (vI c)] [] g
  refine k_iload_n hX.1 dX8_lightOf_0 rfl rfl ?_
  rcases (show c = 1 ∨ c = 2 ∨ c = 3 ∨ c = 4 ∨ (¬ c = 1 ∧ ¬ c = 2 ∧ ¬ c = 3 ∧ ¬ c = 4) by omega) with s_1 | s_1 | s_1 | s_1 | s_1
  · refine k_tableIn (tgt := 32) (off := 31) hX.1 dX8_lightOf_1 (by omega) (by omega) (by omega) (by rw [s_1]; rfl) (by decide) ?_
    skip
    refine k_iconst hX.1 dX8_lightOf_32 ?_
    refine k_iret hX dX8_lightOf_33 rfl ?_
    refine ⟨?_, rfl⟩
    congr 2
    unfold lig
    (repeat first | rw [if_pos (by omega)] | rw [if_neg (by omega)])
  · refine k_tableIn (tgt := 34) (off := 33) hX.1 dX8_lightOf_1 (by omega) (by omega) (by omega) (by rw [s_1]; rfl) (by decide) ?_
    skip
    refine k_iconst hX.1 dX8_lightOf_34 ?_
    refine k_iret hX dX8_lightOf_35 rfl ?_
    refine ⟨?_, rfl⟩
    congr 2
    unfold lig
    (repeat first | rw [if_pos (by omega)] | rw [if_neg (by omega)])
  · refine k_tableIn (tgt := 36) (off := 35) hX.1 dX8_lightOf_1 (by omega) (by omega) (by omega) (by rw [s_1]; rfl) (by decide) ?_
    skip
    refine k_iconst hX.1 dX8_lightOf_36 ?_
    refine k_iret hX dX8_lightOf_37 rfl ?_
    refine ⟨?_, rfl⟩
    congr 2
    unfold lig
    (repeat first | rw [if_pos (by omega)] | rw [if_neg (by omega)])
  · refine k_tableIn (tgt := 38) (off := 37) hX.1 dX8_lightOf_1 (by omega) (by omega) (by omega) (by rw [s_1]; rfl) (by decide) ?_
    skip
    refine k_iconst hX.1 dX8_lightOf_38 ?_
    refine k_iret hX dX8_lightOf_39 rfl ?_
    refine ⟨?_, rfl⟩
    congr 2
    unfold lig
    (repeat first | rw [if_pos (by omega)] | rw [if_neg (by omega)])
  · refine k_tableOut (tgt := 40) hX.1 dX8_lightOf_1 (by omega) (by omega) (by decide) ?_
    skip
    refine k_iconst hX.1 dX8_lightOf_40 ?_
    refine k_iret hX dX8_lightOf_41 rfl ?_
    refine ⟨?_, rfl⟩
    congr 2
    unfold lig
    (repeat first | rw [if_pos (by omega)] | rw [if_neg (by omega)])

set_option maxRecDepth 100000 in
set_option maxHeartbeats 4000000 in
theorem cM_half (E : En) (g : Mm) {r : Int} (hr : 0 ≤ r ∧ r ≤ 100) : Fn E 1 mX8_firstHalf [vI r] g (vI ((r + 1) / 2)) := by
  refine Ok_of gmX8_firstHalf (by omega) (Nat.le_of_ble_eq_true rfl) (fun X hX => ?_)
  show V E X 0 [some (vI r)] [] g
  refine k_iload_n hX.1 dX8_firstHalf_0 rfl rfl ?_
  refine k_iconst hX.1 dX8_firstHalf_1 ?_
  refine k_iadd hX.1 dX8_firstHalf_2 ?_
  refine k_iconst hX.1 dX8_firstHalf_3 ?_
  refine k_idiv hX.1 dX8_firstHalf_4 (by omega) (by omega) ?_
  refine k_iret hX dX8_firstHalf_5 rfl ?_
  exact ⟨rfl, rfl⟩

set_option maxRecDepth 100000 in
set_option maxHeartbeats 4000000 in
theorem cM_toneOf (E : En) {A : St} {g : Mm} {n : Int} (hM : MW A g) (hW : WW A n) {p : Nat} (hp : (p : Int) < A 12 0) : Fn E 1 mX8_toneOf [vR 46, vI (p : Int)] g (vI (tn A p)) := by
  obtain ⟨⟨hm1, hm2, hm3⟩, hmp, hml⟩ := id hM
  obtain ⟨⟨hw1, hw2, hw3, hw4, hw5, hw6, hw7, hw8⟩, hwp, hwl⟩ := id hW
  obtain ⟨e0, e1, e2, e3, e4, e5, e6, e7⟩ := hmp (p) (by omega)
  obtain ⟨⟨ek1, ek2⟩, ⟨er1, er2⟩, ew2, ew3, ew4, ew5, ew6, ew7⟩ := hwp (p) (by omega)
  refine Ok_of gmX8_toneOf (by omega) (Nat.le_of_ble_eq_true rfl) (fun X hX => ?_)
  show V E X 0 [some (vR 46), some (vI (p : Int))] [] g
  by_cases h1 : A 2 p = -1
  · skip
    refine k_aload_n hX.1 dX8_toneOf_0 rfl rfl ?_
    refine k_getr (t := 49) hX.1 dX8_toneOf_1 flX8_16 rfl (by decide) rfl rfl ?_
    refine k_iload_n hX.1 dX8_toneOf_4 rfl rfl ?_
    refine k_iald (j := p) hX.1 dX8_toneOf_5 rfl (by omega) (n := 5) rfl (by omega) (by omega) ?_
    refine k_iconst hX.1 dX8_toneOf_6 ?_
    refine k_icmp_ne (tgt := 12) hX.1 dX8_toneOf_7 (by decide) (by omega) (by omega) (fun c_7 => ?_) (fun c_7 => ?_)
    · skip
      exact absurd c_7 (by omega)
    · skip
      refine k_iconst hX.1 dX8_toneOf_10 ?_
      refine k_iret hX dX8_toneOf_11 rfl ?_
      refine ⟨?_, rfl⟩
      rw [tn, if_pos h1]
  · skip
    obtain ⟨f1, f2, f3⟩ := hml (A 2 p).toNat (by omega)
    by_cases h2 : A 3 p = -1
    · skip
      refine k_aload_n hX.1 dX8_toneOf_0 rfl rfl ?_
      refine k_getr (t := 49) hX.1 dX8_toneOf_1 flX8_16 rfl (by decide) rfl rfl ?_
      refine k_iload_n hX.1 dX8_toneOf_4 rfl rfl ?_
      refine k_iald (j := p) hX.1 dX8_toneOf_5 rfl (by omega) (n := 5) rfl (by omega) (by omega) ?_
      refine k_iconst hX.1 dX8_toneOf_6 ?_
      refine k_icmp_ne (tgt := 12) hX.1 dX8_toneOf_7 (by decide) (by omega) (by omega) (fun c_7 => ?_) (fun c_7 => ?_)
      · skip
        refine k_aload_n hX.1 dX8_toneOf_12 rfl rfl ?_
        refine k_getr (t := 55) hX.1 dX8_toneOf_13 flX8_34 rfl (by decide) rfl rfl ?_
        refine k_aload_n hX.1 dX8_toneOf_16 rfl rfl ?_
        refine k_getr (t := 49) hX.1 dX8_toneOf_17 flX8_16 rfl (by decide) rfl rfl ?_
        refine k_iload_n hX.1 dX8_toneOf_20 rfl rfl ?_
        refine k_iald (j := p) hX.1 dX8_toneOf_21 rfl (by omega) (n := 5) rfl (by omega) (by omega) ?_
        refine k_iald (j := (A 2 p).toNat) hX.1 dX8_toneOf_22 rfl (by omega) (n := 3) rfl (by omega) (by omega) ?_
        refine k_aload_n hX.1 dX8_toneOf_23 rfl rfl ?_
        refine k_getr (t := 55) hX.1 dX8_toneOf_24 flX8_34 rfl (by decide) rfl rfl ?_
        refine k_aload_n hX.1 dX8_toneOf_27 rfl rfl ?_
        refine k_getr (t := 50) hX.1 dX8_toneOf_28 flX8_19 rfl (by decide) rfl rfl ?_
        refine k_iload_n hX.1 dX8_toneOf_31 rfl rfl ?_
        refine k_iald (j := p) hX.1 dX8_toneOf_32 rfl (by omega) (n := 5) rfl (by omega) (by omega) ?_
        refine k_iconst hX.1 dX8_toneOf_33 ?_
        refine k_icmp_ne (tgt := 46) hX.1 dX8_toneOf_34 (by decide) (by omega) (by omega) (fun c_34 => ?_) (fun c_34 => ?_)
        · skip
          exact absurd c_34 (by omega)
        · skip
          refine k_aload_n hX.1 dX8_toneOf_37 rfl rfl ?_
          refine k_getr (t := 49) hX.1 dX8_toneOf_38 flX8_16 rfl (by decide) rfl rfl ?_
          refine k_iload_n hX.1 dX8_toneOf_41 rfl rfl ?_
          refine k_iald (j := p) hX.1 dX8_toneOf_42 rfl (by omega) (n := 5) rfl (by omega) (by omega) ?_
          refine k_goto (tgt := 52) hX.1 dX8_toneOf_43 (by decide) ?_
          refine k_iald (j := (A 2 p).toNat) hX.1 dX8_toneOf_52 rfl (by omega) (n := 3) rfl (by omega) (by omega) ?_
          refine k_iadd hX.1 dX8_toneOf_53 ?_
          refine k_iret hX dX8_toneOf_54 rfl ?_
          refine ⟨?_, rfl⟩
          rw [tn, if_neg h1, if_pos h2, f1]
      · skip
        exact absurd c_7 (by omega)
    · skip
      obtain ⟨q1, q2, q3⟩ := hml (A 3 p).toNat (by omega)
      refine k_aload_n hX.1 dX8_toneOf_0 rfl rfl ?_
      refine k_getr (t := 49) hX.1 dX8_toneOf_1 flX8_16 rfl (by decide) rfl rfl ?_
      refine k_iload_n hX.1 dX8_toneOf_4 rfl rfl ?_
      refine k_iald (j := p) hX.1 dX8_toneOf_5 rfl (by omega) (n := 5) rfl (by omega) (by omega) ?_
      refine k_iconst hX.1 dX8_toneOf_6 ?_
      refine k_icmp_ne (tgt := 12) hX.1 dX8_toneOf_7 (by decide) (by omega) (by omega) (fun c_7 => ?_) (fun c_7 => ?_)
      · skip
        refine k_aload_n hX.1 dX8_toneOf_12 rfl rfl ?_
        refine k_getr (t := 55) hX.1 dX8_toneOf_13 flX8_34 rfl (by decide) rfl rfl ?_
        refine k_aload_n hX.1 dX8_toneOf_16 rfl rfl ?_
        refine k_getr (t := 49) hX.1 dX8_toneOf_17 flX8_16 rfl (by decide) rfl rfl ?_
        refine k_iload_n hX.1 dX8_toneOf_20 rfl rfl ?_
        refine k_iald (j := p) hX.1 dX8_toneOf_21 rfl (by omega) (n := 5) rfl (by omega) (by omega) ?_
        refine k_iald (j := (A 2 p).toNat) hX.1 dX8_toneOf_22 rfl (by omega) (n := 3) rfl (by omega) (by omega) ?_
        refine k_aload_n hX.1 dX8_toneOf_23 rfl rfl ?_
        refine k_getr (t := 55) hX.1 dX8_toneOf_24 flX8_34 rfl (by decide) rfl rfl ?_
        refine k_aload_n hX.1 dX8_toneOf_27 rfl rfl ?_
        refine k_getr (t := 50) hX.1 dX8_toneOf_28 flX8_19 rfl (by decide) rfl rfl ?_
        refine k_iload_n hX.1 dX8_toneOf_31 rfl rfl ?_
        refine k_iald (j := p) hX.1 dX8_toneOf_32 rfl (by omega) (n := 5) rfl (by omega) (by omega) ?_
        refine k_iconst hX.1 dX8_toneOf_33 ?_
        refine k_icmp_ne (tgt := 46) hX.1 dX8_toneOf_34 (by decide) (by omega) (by omega) (fun c_34 => ?_) (fun c_34 => ?_)
        · skip
          refine k_aload_n hX.1 dX8_toneOf_46 rfl rfl ?_
          refine k_getr (t := 50) hX.1 dX8_toneOf_47 flX8_19 rfl (by decide) rfl rfl ?_
          refine k_iload_n hX.1 dX8_toneOf_50 rfl rfl ?_
          refine k_iald (j := p) hX.1 dX8_toneOf_51 rfl (by omega) (n := 5) rfl (by omega) (by omega) ?_
          refine k_iald (j := (A 3 p).toNat) hX.1 dX8_toneOf_52 rfl (by omega) (n := 3) rfl (by omega) (by omega) ?_
          refine k_iadd hX.1 dX8_toneOf_53 ?_
          refine k_iret hX dX8_toneOf_54 rfl ?_
          refine ⟨?_, rfl⟩
          rw [tn, if_neg h1, if_neg h2, f1, q1]
        · skip
          exact absurd c_34 (by omega)
      · skip
        exact absurd c_7 (by omega)

set_option maxRecDepth 100000 in
set_option maxHeartbeats 4000000 in
theorem cM_seenBy (E : En) {A : St} {g : Mm} {n : Int} (hM : MW A g) (hW : WW A n) {p : Nat} (hp : (p : Int) + 1 < A 12 0) {a b : Int} (ha : -1 ≤ a ∧ a ≤ 100) (hb : -1 ≤ b ∧ b ≤ 100) : Fn E 2 mX8_seenBy [vR 46, vI (p : Int), vI a, vI b] g (vI (s2 A p a b)) := by
  obtain ⟨⟨hm1, hm2, hm3⟩, hmp, hml⟩ := id hM
  obtain ⟨⟨hw1, hw2, hw3, hw4, hw5, hw6, hw7, hw8⟩, hwp, hwl⟩ := id hW
  obtain ⟨e0, e1, e2, e3, e4, e5, e6, e7⟩ := hmp (p) (by omega)
  obtain ⟨⟨ek1, ek2⟩, ⟨er1, er2⟩, ew2, ew3, ew4, ew5, ew6, ew7⟩ := hwp (p) (by omega)
  obtain ⟨f0, f1, f2, f3, f4, f5, f6, f7⟩ := hmp (p + 1) (by omega)
  obtain ⟨⟨fk1, fk2⟩, ⟨fr1, fr2⟩, fw2, fw3, fw4, fw5, fw6, fw7⟩ := hwp (p + 1) (by omega)
  have l1 := lig_bd (A 0 p)
  have l2 := lig_bd (A 0 (p + 1))
  refine Ok_of gmX8_seenBy (by omega) (Nat.le_of_ble_eq_true rfl) (fun X hX => ?_)
  show V E X 0 [some (vR 46), some (vI (p : Int)), some (vI a), some (vI b), none, none, none, none] [] g
  refine k_iload_n hX.1 dX8_seenBy_0 rfl rfl ?_
  refine k_iload_n hX.1 dX8_seenBy_1 rfl rfl ?_
  refine k_join2 14 (fun z => z = ((a - b).natAbs : Int)) (fun x1 hx1 => ?_) (fun jn_2 => ?_)
  · skip
    subst hx1
    refine k_istore hX.1 dX8_seenBy_14 (by decide) rfl rfl ?_
    try simp only [List.set_cons_zero, List.set_cons_succ]
    refine k_aload_n hX.1 dX8_seenBy_16 rfl rfl ?_
    refine k_getr (t := 47) hX.1 dX8_seenBy_17 flX8_7 rfl (by decide) rfl rfl ?_
    refine k_iload_n hX.1 dX8_seenBy_20 rfl rfl ?_
    refine k_iald (j := p) hX.1 dX8_seenBy_21 rfl (by omega) (n := 5) rfl (by omega) (by omega) ?_
    refine k_top (b := A 0 p) e0 ?_
    refine k_callSf (d2 := 1) (n := 1) (as := [_]) hX.1 dX8_seenBy_22 lkX8_135 (fit_of hX (by omega) gmX8_lightOf) rfl rfl (Nat.le_of_ble_eq_true rfl) (cM_lightOf E g (by omega)) ?_
    refine k_istore hX.1 dX8_seenBy_25 (by decide) rfl rfl ?_
    try simp only [List.set_cons_zero, List.set_cons_succ]
    refine k_aload_n hX.1 dX8_seenBy_27 rfl rfl ?_
    refine k_getr (t := 47) hX.1 dX8_seenBy_28 flX8_7 rfl (by decide) rfl rfl ?_
    refine k_iload_n hX.1 dX8_seenBy_31 rfl rfl ?_
    refine k_iconst hX.1 dX8_seenBy_32 ?_
    refine k_iadd hX.1 dX8_seenBy_33 ?_
    refine k_iald (j := (p + 1)) hX.1 dX8_seenBy_34 rfl (by omega) (n := 5) rfl (by omega) (by omega) ?_
    refine k_top (b := A 0 (p + 1)) f0 ?_
    refine k_callSf (d2 := 1) (n := 1) (as := [_]) hX.1 dX8_seenBy_35 lkX8_135 (fit_of hX (by omega) gmX8_lightOf) rfl rfl (Nat.le_of_ble_eq_true rfl) (cM_lightOf E g (by omega)) ?_
    refine k_istore hX.1 dX8_seenBy_38 (by decide) rfl rfl ?_
    try simp only [List.set_cons_zero, List.set_cons_succ]
    refine k_iload hX.1 dX8_seenBy_40 rfl ?_
    refine k_iload hX.1 dX8_seenBy_42 rfl ?_
    refine k_join2 54 (fun z => z = min (lig (A 0 p)) (lig (A 0 (p + 1)))) (fun x2 hx2 => ?_) (fun jn_44 => ?_)
    · skip
      subst hx2
      refine k_istore hX.1 dX8_seenBy_54 (by decide) rfl rfl ?_
      try simp only [List.set_cons_zero, List.set_cons_succ]
      refine k_iload hX.1 dX8_seenBy_56 rfl ?_
      refine k_iload hX.1 dX8_seenBy_58 rfl ?_
      refine k_imul hX.1 dX8_seenBy_60 ?_
      refine k_aload_n hX.1 dX8_seenBy_61 rfl rfl ?_
      refine k_getr (t := 47) hX.1 dX8_seenBy_62 flX8_7 rfl (by decide) rfl rfl ?_
      refine k_iload_n hX.1 dX8_seenBy_65 rfl rfl ?_
      refine k_iald (j := p) hX.1 dX8_seenBy_66 rfl (by omega) (n := 5) rfl (by omega) (by omega) ?_
      refine k_iconst hX.1 dX8_seenBy_67 ?_
      refine k_join2 88 (fun z => z = if A 0 p = 2 ∧ A 0 (p + 1) = 2 then 2 else 1) (fun x3 hx3 => ?_) (fun jn_68 => ?_)
      · skip
        subst hx3
        refine k_imul hX.1 dX8_seenBy_88 ?_
        refine k_iret hX dX8_seenBy_89 rfl ?_
        exact ⟨rfl, rfl⟩
      · refine k_icmp_ne (tgt := 87) hX.1 dX8_seenBy_68 (by decide) (by omega) (by omega) (fun c_68 => ?_) (fun c_68 => ?_)
        · skip
          refine k_iconst hX.1 dX8_seenBy_87 ?_
          exact jn_68 _ (by first | rw [if_pos (by omega)] | rw [if_neg (by omega)])
        · skip
          refine k_aload_n hX.1 dX8_seenBy_71 rfl rfl ?_
          refine k_getr (t := 47) hX.1 dX8_seenBy_72 flX8_7 rfl (by decide) rfl rfl ?_
          refine k_iload_n hX.1 dX8_seenBy_75 rfl rfl ?_
          refine k_iconst hX.1 dX8_seenBy_76 ?_
          refine k_iadd hX.1 dX8_seenBy_77 ?_
          refine k_iald (j := (p + 1)) hX.1 dX8_seenBy_78 rfl (by omega) (n := 5) rfl (by omega) (by omega) ?_
          refine k_iconst hX.1 dX8_seenBy_79 ?_
          refine k_icmp_ne (tgt := 87) hX.1 dX8_seenBy_80 (by decide) (by omega) (by omega) (fun c_80 => ?_) (fun c_80 => ?_)
          · skip
            refine k_iconst hX.1 dX8_seenBy_87 ?_
            exact jn_68 _ (by first | rw [if_pos (by omega)] | rw [if_neg (by omega)])
          · skip
            refine k_iconst hX.1 dX8_seenBy_83 ?_
            refine k_goto (tgt := 88) hX.1 dX8_seenBy_84 (by decide) ?_
            exact jn_68 _ (by first | rw [if_pos (by omega)] | rw [if_neg (by omega)])
    · refine k_icmp_ge (tgt := 52) hX.1 dX8_seenBy_44 (by decide) (by omega) (by omega) (fun c_44 => ?_) (fun c_44 => ?_)
      · skip
        refine k_iload hX.1 dX8_seenBy_52 rfl ?_
        exact jn_44 _ (by omega)
      · skip
        refine k_iload hX.1 dX8_seenBy_47 rfl ?_
        refine k_goto (tgt := 54) hX.1 dX8_seenBy_49 (by decide) ?_
        exact jn_44 _ (by omega)
  · refine k_icmp_le (tgt := 11) hX.1 dX8_seenBy_2 (by decide) (by omega) (by omega) (fun c_2 => ?_) (fun c_2 => ?_)
    · skip
      refine k_iload_n hX.1 dX8_seenBy_11 rfl rfl ?_
      refine k_iload_n hX.1 dX8_seenBy_12 rfl rfl ?_
      refine k_isub hX.1 dX8_seenBy_13 ?_
      exact jn_2 _ (by omega)
    · skip
      refine k_iload_n hX.1 dX8_seenBy_5 rfl rfl ?_
      refine k_iload_n hX.1 dX8_seenBy_6 rfl rfl ?_
      refine k_isub hX.1 dX8_seenBy_7 ?_
      refine k_goto (tgt := 14) hX.1 dX8_seenBy_8 (by decide) ?_
      exact jn_2 _ (by omega)

set_option maxRecDepth 100000 in
set_option maxHeartbeats 4000000 in
theorem cM_seenAt (E : En) {A : St} {g : Mm} {n : Int} (hM : MW A g) (hW : WW A n) {p : Nat} (hp : (p : Int) < A 12 0) : Fn E 3 mX8_seenAt [vR 46, vI (p : Int)] g (vI (sN A p)) := by
  obtain ⟨⟨hm1, hm2, hm3⟩, hmp, hml⟩ := id hM
  obtain ⟨⟨hw1, hw2, hw3, hw4, hw5, hw6, hw7, hw8⟩, hwp, hwl⟩ := id hW
  obtain ⟨e0, e1, e2, e3, e4, e5, e6, e7⟩ := hmp (p) (by omega)
  obtain ⟨⟨ek1, ek2⟩, ⟨er1, er2⟩, ew2, ew3, ew4, ew5, ew6, ew7⟩ := hwp (p) (by omega)
  refine Ok_of gmX8_seenAt (by omega) (Nat.le_of_ble_eq_true rfl) (fun X hX => ?_)
  show V E X 0 [some (vR 46), some (vI (p : Int))] [] g
  by_cases h1 : (p : Int) + 1 < A 12 0
  · skip
    obtain ⟨f0, f1, f2, f3, f4, f5, f6, f7⟩ := hmp (p + 1) (by omega)
    obtain ⟨⟨fk1, fk2⟩, ⟨fr1, fr2⟩, fw2, fw3, fw4, fw5, fw6, fw7⟩ := hwp (p + 1) (by omega)
    by_cases h2 : A 2 p = -1
    · skip
      refine k_iload_n hX.1 dX8_seenAt_0 rfl rfl ?_
      refine k_aload_n hX.1 dX8_seenAt_1 rfl rfl ?_
      refine k_geti hX.1 dX8_seenAt_2 flX8_119 rfl (by decide) rfl ?_
      refine k_iconst hX.1 dX8_seenAt_5 ?_
      refine k_isub hX.1 dX8_seenAt_6 ?_
      refine k_icmp_ge (tgt := 32) hX.1 dX8_seenAt_7 (by decide) (by omega) (by omega) (fun c_7 => ?_) (fun c_7 => ?_)
      · skip
        exact absurd c_7 (by omega)
      · skip
        refine k_aload_n hX.1 dX8_seenAt_10 rfl rfl ?_
        refine k_getr (t := 49) hX.1 dX8_seenAt_11 flX8_16 rfl (by decide) rfl rfl ?_
        refine k_iload_n hX.1 dX8_seenAt_14 rfl rfl ?_
        refine k_iald (j := p) hX.1 dX8_seenAt_15 rfl (by omega) (n := 5) rfl (by omega) (by omega) ?_
        refine k_iconst hX.1 dX8_seenAt_16 ?_
        refine k_icmp_eq (tgt := 32) hX.1 dX8_seenAt_17 (by decide) (by omega) (by omega) (fun c_17 => ?_) (fun c_17 => ?_)
        · skip
          refine k_iconst hX.1 dX8_seenAt_32 ?_
          refine k_iret hX dX8_seenAt_33 rfl ?_
          refine ⟨?_, rfl⟩
          rw [sN, if_neg (fun q => q.2.1 h2)]
        · skip
          exact absurd c_17 (by omega)
    · skip
      by_cases h3 : A 2 (p + 1) = -1
      · skip
        refine k_iload_n hX.1 dX8_seenAt_0 rfl rfl ?_
        refine k_aload_n hX.1 dX8_seenAt_1 rfl rfl ?_
        refine k_geti hX.1 dX8_seenAt_2 flX8_119 rfl (by decide) rfl ?_
        refine k_iconst hX.1 dX8_seenAt_5 ?_
        refine k_isub hX.1 dX8_seenAt_6 ?_
        refine k_icmp_ge (tgt := 32) hX.1 dX8_seenAt_7 (by decide) (by omega) (by omega) (fun c_7 => ?_) (fun c_7 => ?_)
        · skip
          exact absurd c_7 (by omega)
        · skip
          refine k_aload_n hX.1 dX8_seenAt_10 rfl rfl ?_
          refine k_getr (t := 49) hX.1 dX8_seenAt_11 flX8_16 rfl (by decide) rfl rfl ?_
          refine k_iload_n hX.1 dX8_seenAt_14 rfl rfl ?_
          refine k_iald (j := p) hX.1 dX8_seenAt_15 rfl (by omega) (n := 5) rfl (by omega) (by omega) ?_
          refine k_iconst hX.1 dX8_seenAt_16 ?_
          refine k_icmp_eq (tgt := 32) hX.1 dX8_seenAt_17 (by decide) (by omega) (by omega) (fun c_17 => ?_) (fun c_17 => ?_)
          · skip
            exact absurd c_17 (by omega)
          · skip
            refine k_aload_n hX.1 dX8_seenAt_20 rfl rfl ?_
            refine k_getr (t := 49) hX.1 dX8_seenAt_21 flX8_16 rfl (by decide) rfl rfl ?_
            refine k_iload_n hX.1 dX8_seenAt_24 rfl rfl ?_
            refine k_iconst hX.1 dX8_seenAt_25 ?_
            refine k_iadd hX.1 dX8_seenAt_26 ?_
            refine k_iald (j := (p + 1)) hX.1 dX8_seenAt_27 rfl (by omega) (n := 5) rfl (by omega) (by omega) ?_
            refine k_iconst hX.1 dX8_seenAt_28 ?_
            refine k_icmp_ne (tgt := 34) hX.1 dX8_seenAt_29 (by decide) (by omega) (by omega) (fun c_29 => ?_) (fun c_29 => ?_)
            · skip
              exact absurd c_29 (by omega)
            · skip
              refine k_iconst hX.1 dX8_seenAt_32 ?_
              refine k_iret hX dX8_seenAt_33 rfl ?_
              refine ⟨?_, rfl⟩
              rw [sN, if_neg (fun q => q.2.2 h3)]
      · skip
        have b1 := (tn_bd hW hp).2 h2
        have b2 := (tn_bd hW (p := p + 1) (by omega)).2 h3
        refine k_iload_n hX.1 dX8_seenAt_0 rfl rfl ?_
        refine k_aload_n hX.1 dX8_seenAt_1 rfl rfl ?_
        refine k_geti hX.1 dX8_seenAt_2 flX8_119 rfl (by decide) rfl ?_
        refine k_iconst hX.1 dX8_seenAt_5 ?_
        refine k_isub hX.1 dX8_seenAt_6 ?_
        refine k_icmp_ge (tgt := 32) hX.1 dX8_seenAt_7 (by decide) (by omega) (by omega) (fun c_7 => ?_) (fun c_7 => ?_)
        · skip
          exact absurd c_7 (by omega)
        · skip
          refine k_aload_n hX.1 dX8_seenAt_10 rfl rfl ?_
          refine k_getr (t := 49) hX.1 dX8_seenAt_11 flX8_16 rfl (by decide) rfl rfl ?_
          refine k_iload_n hX.1 dX8_seenAt_14 rfl rfl ?_
          refine k_iald (j := p) hX.1 dX8_seenAt_15 rfl (by omega) (n := 5) rfl (by omega) (by omega) ?_
          refine k_iconst hX.1 dX8_seenAt_16 ?_
          refine k_icmp_eq (tgt := 32) hX.1 dX8_seenAt_17 (by decide) (by omega) (by omega) (fun c_17 => ?_) (fun c_17 => ?_)
          · skip
            exact absurd c_17 (by omega)
          · skip
            refine k_aload_n hX.1 dX8_seenAt_20 rfl rfl ?_
            refine k_getr (t := 49) hX.1 dX8_seenAt_21 flX8_16 rfl (by decide) rfl rfl ?_
            refine k_iload_n hX.1 dX8_seenAt_24 rfl rfl ?_
            refine k_iconst hX.1 dX8_seenAt_25 ?_
            refine k_iadd hX.1 dX8_seenAt_26 ?_
            refine k_iald (j := (p + 1)) hX.1 dX8_seenAt_27 rfl (by omega) (n := 5) rfl (by omega) (by omega) ?_
            refine k_iconst hX.1 dX8_seenAt_28 ?_
            refine k_icmp_ne (tgt := 34) hX.1 dX8_seenAt_29 (by decide) (by omega) (by omega) (fun c_29 => ?_) (fun c_29 => ?_)
            · skip
              refine k_aload_n hX.1 dX8_seenAt_34 rfl rfl ?_
              refine k_iload_n hX.1 dX8_seenAt_35 rfl rfl ?_
              refine k_aload_n hX.1 dX8_seenAt_36 rfl rfl ?_
              refine k_iload_n hX.1 dX8_seenAt_37 rfl rfl ?_
              refine k_callVf (d2 := 1) (n := 1) (as := [_]) hX.1 dX8_seenAt_38 lkX8_138 (fit_of hX (by omega) gmX8_toneOf) rfl rfl (by decide) rfl rfl rfl (Nat.le_of_ble_eq_true rfl) (cM_toneOf E hM hW (p := p) (by omega)) ?_
              refine k_aload_n hX.1 dX8_seenAt_41 rfl rfl ?_
              refine k_iload_n hX.1 dX8_seenAt_42 rfl rfl ?_
              refine k_iconst hX.1 dX8_seenAt_43 ?_
              refine k_iadd hX.1 dX8_seenAt_44 ?_
              refine k_callVf (d2 := 1) (n := 1) (as := [_]) hX.1 dX8_seenAt_45 lkX8_138 (fit_of hX (by omega) gmX8_toneOf) rfl rfl (by decide) rfl rfl rfl (Nat.le_of_ble_eq_true rfl) (cM_toneOf E hM hW (p := p + 1) (by omega)) ?_
              refine k_callVf (d2 := 2) (n := 3) (as := [_, _, _]) hX.1 dX8_seenAt_48 lkX8_141 (fit_of hX (by omega) gmX8_seenBy) rfl rfl (by decide) rfl rfl rfl (Nat.le_of_ble_eq_true rfl) (cM_seenBy E hM hW (p := p) (by omega) (by omega) (by omega)) ?_
              refine k_iret hX dX8_seenAt_51 rfl ?_
              refine ⟨?_, rfl⟩
              rw [sN, if_pos ⟨h1, h2, h3⟩]
            · skip
              exact absurd c_29 (by omega)
  · skip
    refine k_iload_n hX.1 dX8_seenAt_0 rfl rfl ?_
    refine k_aload_n hX.1 dX8_seenAt_1 rfl rfl ?_
    refine k_geti hX.1 dX8_seenAt_2 flX8_119 rfl (by decide) rfl ?_
    refine k_iconst hX.1 dX8_seenAt_5 ?_
    refine k_isub hX.1 dX8_seenAt_6 ?_
    refine k_icmp_ge (tgt := 32) hX.1 dX8_seenAt_7 (by decide) (by omega) (by omega) (fun c_7 => ?_) (fun c_7 => ?_)
    · skip
      refine k_iconst hX.1 dX8_seenAt_32 ?_
      refine k_iret hX dX8_seenAt_33 rfl ?_
      refine ⟨?_, rfl⟩
      rw [sN, if_neg (fun q => h1 q.1)]
    · skip
      exact absurd c_7 (by omega)

set_option maxRecDepth 100000 in
set_option maxHeartbeats 4000000 in
theorem lpM_seenAll (E : En) {A : St} {g : Mm} {n : Int} (hM : MW A g) (hW : WW A n) {X : Cx} (hX : Wk E mX8_seenAll X 4 (fun r g' => r = some (vI (sAll A)) ∧ g' = g)) : ∀ (m : Nat) (p : Nat) (acc : Int), m + p = (A 12 0).toNat ∧ acc = sm (sN A) p → V E X 4 [some (vR 46), some (vI acc), some (vI (p : Int))] [] g := by
  obtain ⟨⟨hm1, hm2, hm3⟩, hmp, hml⟩ := id hM
  obtain ⟨⟨hw1, hw2, hw3, hw4, hw5, hw6, hw7, hw8⟩, hwp, hwl⟩ := id hW
  intro m
  induction m with
  | zero =>
    intro p acc hm
    refine k_iload_n hX.1 dX8_seenAll_4 rfl rfl ?_
    refine k_aload_n hX.1 dX8_seenAll_5 rfl rfl ?_
    refine k_geti hX.1 dX8_seenAll_6 flX8_119 rfl (by decide) rfl ?_
    refine k_icmp_ge (tgt := 26) hX.1 dX8_seenAll_9 (by decide) (by omega) (by omega) (fun c_9 => ?_) (fun c_9 => ?_)
    · skip
      refine k_iload_n hX.1 dX8_seenAll_26 rfl rfl ?_
      refine k_iret hX dX8_seenAll_27 rfl ?_
      refine ⟨?_, rfl⟩
      obtain ⟨h1, h2⟩ := hm
      rw [h2, show p = (A 12 0).toNat by omega]
      rfl
    · skip
      exact absurd c_9 (by omega)
  | succ m ih =>
    intro p acc hm
    obtain ⟨e0, e1, e2, e3, e4, e5, e6, e7⟩ := hmp (p) (by omega)
    obtain ⟨⟨ek1, ek2⟩, ⟨er1, er2⟩, ew2, ew3, ew4, ew5, ew6, ew7⟩ := hwp (p) (by omega)
    refine k_iload_n hX.1 dX8_seenAll_4 rfl rfl ?_
    refine k_aload_n hX.1 dX8_seenAll_5 rfl rfl ?_
    refine k_geti hX.1 dX8_seenAll_6 flX8_119 rfl (by decide) rfl ?_
    refine k_icmp_ge (tgt := 26) hX.1 dX8_seenAll_9 (by decide) (by omega) (by omega) (fun c_9 => ?_) (fun c_9 => ?_)
    · skip
      exact absurd c_9 (by omega)
    · skip
      refine k_iload_n hX.1 dX8_seenAll_12 rfl rfl ?_
      refine k_aload_n hX.1 dX8_seenAll_13 rfl rfl ?_
      refine k_iload_n hX.1 dX8_seenAll_14 rfl rfl ?_
      refine k_callVf (d2 := 3) (n := 1) (as := [_]) hX.1 dX8_seenAll_15 lkX8_145 (fit_of hX (by omega) gmX8_seenAt) rfl rfl (by decide) rfl rfl rfl (Nat.le_of_ble_eq_true rfl) (cM_seenAt E hM hW (p := p) (by omega)) ?_
      refine k_iadd hX.1 dX8_seenAll_18 ?_
      refine k_istore_n hX.1 dX8_seenAll_19 rfl (by decide) rfl rfl ?_
      try simp only [List.set_cons_zero, List.set_cons_succ]
      refine k_iinc hX.1 dX8_seenAll_20 rfl (by decide) rfl rfl ?_
      try simp only [List.set_cons_zero, List.set_cons_succ]
      refine k_goto (tgt := 4) hX.1 dX8_seenAll_23 (by decide) ?_
      exact ih (p + 1) _ ⟨by omega, by rw [sm, hm.2]⟩

set_option maxRecDepth 100000 in
set_option maxHeartbeats 4000000 in
theorem cM_seenAll (E : En) {A : St} {g : Mm} {n : Int} (hM : MW A g) (hW : WW A n) : Fn E 4 mX8_seenAll [vR 46] g (vI (sAll A)) := by
  obtain ⟨⟨hm1, hm2, hm3⟩, hmp, hml⟩ := id hM
  obtain ⟨⟨hw1, hw2, hw3, hw4, hw5, hw6, hw7, hw8⟩, hwp, hwl⟩ := id hW
  refine Ok_of gmX8_seenAll (by omega) (Nat.le_of_ble_eq_true rfl) (fun X hX => ?_)
  show V E X 0 [some (vR 46), none, none] [] g
  refine k_iconst hX.1 dX8_seenAll_0 ?_
  refine k_istore_n hX.1 dX8_seenAll_1 rfl (by decide) rfl rfl ?_
  try simp only [List.set_cons_zero, List.set_cons_succ]
  refine k_iconst hX.1 dX8_seenAll_2 ?_
  refine k_istore_n hX.1 dX8_seenAll_3 rfl (by decide) rfl rfl ?_
  try simp only [List.set_cons_zero, List.set_cons_succ]
  exact lpM_seenAll E hM hW hX (A 12 0).toNat 0 0 ⟨by omega, rfl⟩

def oP (A : St) : Int := sm (fun p => if A 2 p = -1 then 1 else 0) (A 12 0).toNat
theorem oP_kC : ∀ (A : St) (n : Nat), sm (fun p => if A 2 p = -1 then 1 else 0) n + sm (fun p => if A 2 p = -1 then 0 else 1) n = (n : Int)
  | A, 0 => rfl
  | A, n + 1 => by
    have h := oP_kC A n
    simp only [sm]
    split <;> omega
set_option maxRecDepth 100000 in
set_option maxHeartbeats 4000000 in
theorem lpM_openParts (E : En) {A : St} {g : Mm} {n : Int} (hM : MW A g) (hW : WW A n) {X : Cx} (hX : Wk E mX8_openParts X 1 (fun r g' => r = some (vI (oP A)) ∧ g' = g)) : ∀ (m : Nat) (p : Nat) (acc : Int), m + p = (A 12 0).toNat ∧ acc = sm (fun p => if A 2 p = -1 then 1 else 0) p → V E X 4 [some (vR 46), some (vI acc), some (vI (p : Int))] [] g := by
  obtain ⟨⟨hm1, hm2, hm3⟩, hmp, hml⟩ := id hM
  obtain ⟨⟨hw1, hw2, hw3, hw4, hw5, hw6, hw7, hw8⟩, hwp, hwl⟩ := id hW
  intro m
  induction m with
  | zero =>
    intro p acc hm
    refine k_iload_n hX.1 dX8_openParts_4 rfl rfl ?_
    refine k_aload_n hX.1 dX8_openParts_5 rfl rfl ?_
    refine k_geti hX.1 dX8_openParts_6 flX8_119 rfl (by decide) rfl ?_
    refine k_icmp_ge (tgt := 36) hX.1 dX8_openParts_9 (by decide) (by omega) (by omega) (fun c_9 => ?_) (fun c_9 => ?_)
    · skip
      refine k_iload_n hX.1 dX8_openParts_36 rfl rfl ?_
      refine k_iret hX dX8_openParts_37 rfl ?_
      refine ⟨?_, rfl⟩
      obtain ⟨h1, h2⟩ := hm
      rw [h2, show p = (A 12 0).toNat by omega]
      rfl
    · skip
      exact absurd c_9 (by omega)
  | succ m ih =>
    intro p acc hm
    obtain ⟨e0, e1, e2, e3, e4, e5, e6, e7⟩ := hmp (p) (by omega)
    obtain ⟨⟨ek1, ek2⟩, ⟨er1, er2⟩, ew2, ew3, ew4, ew5, ew6, ew7⟩ := hwp (p) (by omega)
    refine k_iload_n hX.1 dX8_openParts_4 rfl rfl ?_
    refine k_aload_n hX.1 dX8_openParts_5 rfl rfl ?_
    refine k_geti hX.1 dX8_openParts_6 flX8_119 rfl (by decide) rfl ?_
    refine k_icmp_ge (tgt := 36) hX.1 dX8_openParts_9 (by decide) (by omega) (by omega) (fun c_9 => ?_) (fun c_9 => ?_)
    · skip
      exact absurd c_9 (by omega)
    · skip
      refine k_iload_n hX.1 dX8_openParts_12 rfl rfl ?_
      refine k_aload_n hX.1 dX8_openParts_13 rfl rfl ?_
      refine k_getr (t := 49) hX.1 dX8_openParts_14 flX8_16 rfl (by decide) rfl rfl ?_
      refine k_iload_n hX.1 dX8_openParts_17 rfl rfl ?_
      refine k_iald (j := p) hX.1 dX8_openParts_18 rfl (by omega) (n := 5) rfl (by omega) (by omega) ?_
      refine k_iconst hX.1 dX8_openParts_19 ?_
      refine k_icmp_ne (tgt := 27) hX.1 dX8_openParts_20 (by decide) (by omega) (by omega) (fun c_20 => ?_) (fun c_20 => ?_)
      · skip
        refine k_iconst hX.1 dX8_openParts_27 ?_
        refine k_iadd hX.1 dX8_openParts_28 ?_
        refine k_istore_n hX.1 dX8_openParts_29 rfl (by decide) rfl rfl ?_
        try simp only [List.set_cons_zero, List.set_cons_succ]
        refine k_iinc hX.1 dX8_openParts_30 rfl (by decide) rfl rfl ?_
        try simp only [List.set_cons_zero, List.set_cons_succ]
        refine k_goto (tgt := 4) hX.1 dX8_openParts_33 (by decide) ?_
        exact ih (p + 1) _ ⟨by omega, by simp only [sm, hm.2]; first | (rw [if_pos (by omega)]) | (rw [if_neg (by omega)])⟩
      · skip
        refine k_iconst hX.1 dX8_openParts_23 ?_
        refine k_goto (tgt := 28) hX.1 dX8_openParts_24 (by decide) ?_
        refine k_iadd hX.1 dX8_openParts_28 ?_
        refine k_istore_n hX.1 dX8_openParts_29 rfl (by decide) rfl rfl ?_
        try simp only [List.set_cons_zero, List.set_cons_succ]
        refine k_iinc hX.1 dX8_openParts_30 rfl (by decide) rfl rfl ?_
        try simp only [List.set_cons_zero, List.set_cons_succ]
        refine k_goto (tgt := 4) hX.1 dX8_openParts_33 (by decide) ?_
        exact ih (p + 1) _ ⟨by omega, by simp only [sm, hm.2]; first | (rw [if_pos (by omega)]) | (rw [if_neg (by omega)])⟩

set_option maxRecDepth 100000 in
set_option maxHeartbeats 4000000 in
theorem cM_openParts (E : En) {A : St} {g : Mm} {n : Int} (hM : MW A g) (hW : WW A n) : Fn E 1 mX8_openParts [vR 46] g (vI (oP A)) := by
  obtain ⟨⟨hm1, hm2, hm3⟩, hmp, hml⟩ := id hM
  obtain ⟨⟨hw1, hw2, hw3, hw4, hw5, hw6, hw7, hw8⟩, hwp, hwl⟩ := id hW
  refine Ok_of gmX8_openParts (by omega) (Nat.le_of_ble_eq_true rfl) (fun X hX => ?_)
  show V E X 0 [some (vR 46), none, none] [] g
  refine k_iconst hX.1 dX8_openParts_0 ?_
  refine k_istore_n hX.1 dX8_openParts_1 rfl (by decide) rfl rfl ?_
  try simp only [List.set_cons_zero, List.set_cons_succ]
  refine k_iconst hX.1 dX8_openParts_2 ?_
  refine k_istore_n hX.1 dX8_openParts_3 rfl (by decide) rfl rfl ?_
  try simp only [List.set_cons_zero, List.set_cons_succ]
  exact lpM_openParts E hM hW hX (A 12 0).toNat 0 0 ⟨by omega, rfl⟩

set_option maxRecDepth 100000 in
set_option maxHeartbeats 4000000 in
theorem lpM_foundMany (E : En) {A : St} {g : Mm} {n : Int} (hM : MW A g) (hW : WW A n) {X : Cx} (hX : Wk E mX8_foundMany X 1 (fun r g' => r = some (vI (fC A)) ∧ g' = g)) : ∀ (m : Nat) (p : Nat) (acc : Int), m + p = (A 12 0).toNat ∧ acc = sm (fun p => if A 7 p = -1 then 0 else 1) p → V E X 4 [some (vR 46), some (vI acc), some (vI (p : Int))] [] g := by
  obtain ⟨⟨hm1, hm2, hm3⟩, hmp, hml⟩ := id hM
  obtain ⟨⟨hw1, hw2, hw3, hw4, hw5, hw6, hw7, hw8⟩, hwp, hwl⟩ := id hW
  intro m
  induction m with
  | zero =>
    intro p acc hm
    refine k_iload_n hX.1 dX8_foundMany_4 rfl rfl ?_
    refine k_aload_n hX.1 dX8_foundMany_5 rfl rfl ?_
    refine k_geti hX.1 dX8_foundMany_6 flX8_119 rfl (by decide) rfl ?_
    refine k_icmp_ge (tgt := 36) hX.1 dX8_foundMany_9 (by decide) (by omega) (by omega) (fun c_9 => ?_) (fun c_9 => ?_)
    · skip
      refine k_iload_n hX.1 dX8_foundMany_36 rfl rfl ?_
      refine k_iret hX dX8_foundMany_37 rfl ?_
      refine ⟨?_, rfl⟩
      obtain ⟨h1, h2⟩ := hm
      rw [h2, show p = (A 12 0).toNat by omega]
      rfl
    · skip
      exact absurd c_9 (by omega)
  | succ m ih =>
    intro p acc hm
    obtain ⟨e0, e1, e2, e3, e4, e5, e6, e7⟩ := hmp (p) (by omega)
    obtain ⟨⟨ek1, ek2⟩, ⟨er1, er2⟩, ew2, ew3, ew4, ew5, ew6, ew7⟩ := hwp (p) (by omega)
    refine k_iload_n hX.1 dX8_foundMany_4 rfl rfl ?_
    refine k_aload_n hX.1 dX8_foundMany_5 rfl rfl ?_
    refine k_geti hX.1 dX8_foundMany_6 flX8_119 rfl (by decide) rfl ?_
    refine k_icmp_ge (tgt := 36) hX.1 dX8_foundMany_9 (by decide) (by omega) (by omega) (fun c_9 => ?_) (fun c_9 => ?_)
    · skip
      exact absurd c_9 (by omega)
    · skip
      refine k_iload_n hX.1 dX8_foundMany_12 rfl rfl ?_
      refine k_aload_n hX.1 dX8_foundMany_13 rfl rfl ?_
      refine k_getr (t := 54) hX.1 dX8_foundMany_14 flX8_31 rfl (by decide) rfl rfl ?_
      refine k_iload_n hX.1 dX8_foundMany_17 rfl rfl ?_
      refine k_iald (j := p) hX.1 dX8_foundMany_18 rfl (by omega) (n := 5) rfl (by omega) (by omega) ?_
      refine k_iconst hX.1 dX8_foundMany_19 ?_
      refine k_icmp_ne (tgt := 27) hX.1 dX8_foundMany_20 (by decide) (by omega) (by omega) (fun c_20 => ?_) (fun c_20 => ?_)
      · skip
        refine k_iconst hX.1 dX8_foundMany_27 ?_
        refine k_iadd hX.1 dX8_foundMany_28 ?_
        refine k_istore_n hX.1 dX8_foundMany_29 rfl (by decide) rfl rfl ?_
        try simp only [List.set_cons_zero, List.set_cons_succ]
        refine k_iinc hX.1 dX8_foundMany_30 rfl (by decide) rfl rfl ?_
        try simp only [List.set_cons_zero, List.set_cons_succ]
        refine k_goto (tgt := 4) hX.1 dX8_foundMany_33 (by decide) ?_
        exact ih (p + 1) _ ⟨by omega, by simp only [sm, hm.2]; first | (rw [if_pos (by omega)]) | (rw [if_neg (by omega)])⟩
      · skip
        refine k_iconst hX.1 dX8_foundMany_23 ?_
        refine k_goto (tgt := 28) hX.1 dX8_foundMany_24 (by decide) ?_
        refine k_iadd hX.1 dX8_foundMany_28 ?_
        refine k_istore_n hX.1 dX8_foundMany_29 rfl (by decide) rfl rfl ?_
        try simp only [List.set_cons_zero, List.set_cons_succ]
        refine k_iinc hX.1 dX8_foundMany_30 rfl (by decide) rfl rfl ?_
        try simp only [List.set_cons_zero, List.set_cons_succ]
        refine k_goto (tgt := 4) hX.1 dX8_foundMany_33 (by decide) ?_
        exact ih (p + 1) _ ⟨by omega, by simp only [sm, hm.2]; first | (rw [if_pos (by omega)]) | (rw [if_neg (by omega)])⟩

set_option maxRecDepth 100000 in
set_option maxHeartbeats 4000000 in
theorem cM_foundMany (E : En) {A : St} {g : Mm} {n : Int} (hM : MW A g) (hW : WW A n) : Fn E 1 mX8_foundMany [vR 46] g (vI (fC A)) := by
  obtain ⟨⟨hm1, hm2, hm3⟩, hmp, hml⟩ := id hM
  obtain ⟨⟨hw1, hw2, hw3, hw4, hw5, hw6, hw7, hw8⟩, hwp, hwl⟩ := id hW
  refine Ok_of gmX8_foundMany (by omega) (Nat.le_of_ble_eq_true rfl) (fun X hX => ?_)
  show V E X 0 [some (vR 46), none, none] [] g
  refine k_iconst hX.1 dX8_foundMany_0 ?_
  refine k_istore_n hX.1 dX8_foundMany_1 rfl (by decide) rfl rfl ?_
  try simp only [List.set_cons_zero, List.set_cons_succ]
  refine k_iconst hX.1 dX8_foundMany_2 ?_
  refine k_istore_n hX.1 dX8_foundMany_3 rfl (by decide) rfl rfl ?_
  try simp only [List.set_cons_zero, List.set_cons_succ]
  exact lpM_foundMany E hM hW hX (A 12 0).toNat 0 0 ⟨by omega, rfl⟩

set_option maxRecDepth 100000 in
set_option maxHeartbeats 4000000 in
theorem cM_partNow (E : En) {A : St} {g : Mm} {n : Int} (hM : MW A g) (hW : WW A n) {p : Nat} (hp : (p : Int) < A 12 0) {q : Int} (hq : 0 ≤ q ∧ q ≤ 8) : Fn E 4 mX8_partNow [vR 46, vI (p : Int), vI q] g (vI (pn A p q)) := by
  obtain ⟨⟨hm1, hm2, hm3⟩, hmp, hml⟩ := id hM
  obtain ⟨⟨hw1, hw2, hw3, hw4, hw5, hw6, hw7, hw8⟩, hwp, hwl⟩ := id hW
  obtain ⟨e0, e1, e2, e3, e4, e5, e6, e7⟩ := hmp (p) (by omega)
  obtain ⟨⟨ek1, ek2⟩, ⟨er1, er2⟩, ew2, ew3, ew4, ew5, ew6, ew7⟩ := hwp (p) (by omega)
  refine Ok_of gmX8_partNow (by omega) (Nat.le_of_ble_eq_true rfl) (fun X hX => ?_)
  show V E X 0 [some (vR 46), some (vI (p : Int)), some (vI q)] [] g
  refine k_iload_n hX.1 dX8_partNow_0 rfl rfl ?_
  rcases (show q = 0 ∨ q = 1 ∨ q = 2 ∨ q = 3 ∨ q = 4 ∨ q = 5 ∨ q = 6 ∨ q = 7 ∨ (¬ q = 0 ∧ ¬ q = 1 ∧ ¬ q = 2 ∧ ¬ q = 3 ∧ ¬ q = 4 ∧ ¬ q = 5 ∧ ¬ q = 6 ∧ ¬ q = 7) by omega) with s_1 | s_1 | s_1 | s_1 | s_1 | s_1 | s_1 | s_1 | s_1
  · refine k_tableIn (tgt := 48) (off := 47) hX.1 dX8_partNow_1 (by omega) (by omega) (by omega) (by rw [s_1]; rfl) (by decide) ?_
    skip
    refine k_aload_n hX.1 dX8_partNow_48 rfl rfl ?_
    refine k_getr (t := 47) hX.1 dX8_partNow_49 flX8_7 rfl (by decide) rfl rfl ?_
    refine k_iload_n hX.1 dX8_partNow_52 rfl rfl ?_
    refine k_iald (j := p) hX.1 dX8_partNow_53 rfl (by omega) (n := 5) rfl (by omega) (by omega) ?_
    refine k_iret hX dX8_partNow_54 rfl ?_
    refine ⟨?_, rfl⟩
    simp [pn, s_1, e0, e1, e2, e3, e4, e5, e7]
  · refine k_tableIn (tgt := 55) (off := 54) hX.1 dX8_partNow_1 (by omega) (by omega) (by omega) (by rw [s_1]; rfl) (by decide) ?_
    skip
    refine k_aload_n hX.1 dX8_partNow_55 rfl rfl ?_
    refine k_getr (t := 48) hX.1 dX8_partNow_56 flX8_13 rfl (by decide) rfl rfl ?_
    refine k_iload_n hX.1 dX8_partNow_59 rfl rfl ?_
    refine k_iald (j := p) hX.1 dX8_partNow_60 rfl (by omega) (n := 5) rfl (by omega) (by omega) ?_
    refine k_iret hX dX8_partNow_61 rfl ?_
    refine ⟨?_, rfl⟩
    simp [pn, s_1, e0, e1, e2, e3, e4, e5, e7]
  · refine k_tableIn (tgt := 62) (off := 61) hX.1 dX8_partNow_1 (by omega) (by omega) (by omega) (by rw [s_1]; rfl) (by decide) ?_
    skip
    refine k_aload_n hX.1 dX8_partNow_62 rfl rfl ?_
    refine k_getr (t := 47) hX.1 dX8_partNow_63 flX8_7 rfl (by decide) rfl rfl ?_
    refine k_iload_n hX.1 dX8_partNow_66 rfl rfl ?_
    refine k_iald (j := p) hX.1 dX8_partNow_67 rfl (by omega) (n := 5) rfl (by omega) (by omega) ?_
    refine k_callSf (d2 := 1) (n := 1) (as := [_]) hX.1 dX8_partNow_68 lkX8_135 (fit_of hX (by omega) gmX8_lightOf) rfl rfl (Nat.le_of_ble_eq_true rfl) (cM_lightOf E g (by omega)) ?_
    refine k_iret hX dX8_partNow_71 rfl ?_
    refine ⟨?_, rfl⟩
    simp [pn, s_1, e0, e1, e2, e3, e4, e5, e7]
  · refine k_tableIn (tgt := 72) (off := 71) hX.1 dX8_partNow_1 (by omega) (by omega) (by omega) (by rw [s_1]; rfl) (by decide) ?_
    skip
    refine k_aload_n hX.1 dX8_partNow_72 rfl rfl ?_
    refine k_getr (t := 49) hX.1 dX8_partNow_73 flX8_16 rfl (by decide) rfl rfl ?_
    refine k_iload_n hX.1 dX8_partNow_76 rfl rfl ?_
    refine k_iald (j := p) hX.1 dX8_partNow_77 rfl (by omega) (n := 5) rfl (by omega) (by omega) ?_
    refine k_iret hX dX8_partNow_78 rfl ?_
    refine ⟨?_, rfl⟩
    simp [pn, s_1, e0, e1, e2, e3, e4, e5, e7]
  · refine k_tableIn (tgt := 79) (off := 78) hX.1 dX8_partNow_1 (by omega) (by omega) (by omega) (by rw [s_1]; rfl) (by decide) ?_
    skip
    refine k_aload_n hX.1 dX8_partNow_79 rfl rfl ?_
    refine k_getr (t := 50) hX.1 dX8_partNow_80 flX8_19 rfl (by decide) rfl rfl ?_
    refine k_iload_n hX.1 dX8_partNow_83 rfl rfl ?_
    refine k_iald (j := p) hX.1 dX8_partNow_84 rfl (by omega) (n := 5) rfl (by omega) (by omega) ?_
    refine k_iret hX dX8_partNow_85 rfl ?_
    refine ⟨?_, rfl⟩
    simp [pn, s_1, e0, e1, e2, e3, e4, e5, e7]
  · refine k_tableIn (tgt := 86) (off := 85) hX.1 dX8_partNow_1 (by omega) (by omega) (by omega) (by rw [s_1]; rfl) (by decide) ?_
    skip
    refine k_aload_n hX.1 dX8_partNow_86 rfl rfl ?_
    refine k_iload_n hX.1 dX8_partNow_87 rfl rfl ?_
    refine k_callVf (d2 := 1) (n := 1) (as := [_]) hX.1 dX8_partNow_88 lkX8_138 (fit_of hX (by omega) gmX8_toneOf) rfl rfl (by decide) rfl rfl rfl (Nat.le_of_ble_eq_true rfl) (cM_toneOf E hM hW hp) ?_
    refine k_iret hX dX8_partNow_91 rfl ?_
    refine ⟨?_, rfl⟩
    simp [pn, s_1, e0, e1, e2, e3, e4, e5, e7]
  · refine k_tableIn (tgt := 92) (off := 91) hX.1 dX8_partNow_1 (by omega) (by omega) (by omega) (by rw [s_1]; rfl) (by decide) ?_
    skip
    refine k_aload_n hX.1 dX8_partNow_92 rfl rfl ?_
    refine k_iload_n hX.1 dX8_partNow_93 rfl rfl ?_
    refine k_callVf (d2 := 3) (n := 1) (as := [_]) hX.1 dX8_partNow_94 lkX8_145 (fit_of hX (by omega) gmX8_seenAt) rfl rfl (by decide) rfl rfl rfl (Nat.le_of_ble_eq_true rfl) (cM_seenAt E hM hW hp) ?_
    refine k_iret hX dX8_partNow_97 rfl ?_
    refine ⟨?_, rfl⟩
    simp [pn, s_1, e0, e1, e2, e3, e4, e5, e7]
  · refine k_tableIn (tgt := 98) (off := 97) hX.1 dX8_partNow_1 (by omega) (by omega) (by omega) (by rw [s_1]; rfl) (by decide) ?_
    skip
    refine k_aload_n hX.1 dX8_partNow_98 rfl rfl ?_
    refine k_getr (t := 51) hX.1 dX8_partNow_99 flX8_22 rfl (by decide) rfl rfl ?_
    refine k_iload_n hX.1 dX8_partNow_102 rfl rfl ?_
    refine k_iald (j := p) hX.1 dX8_partNow_103 rfl (by omega) (n := 5) rfl (by omega) (by omega) ?_
    refine k_aload_n hX.1 dX8_partNow_104 rfl rfl ?_
    refine k_getr (t := 52) hX.1 dX8_partNow_105 flX8_25 rfl (by decide) rfl rfl ?_
    refine k_iload_n hX.1 dX8_partNow_108 rfl rfl ?_
    refine k_iald (j := p) hX.1 dX8_partNow_109 rfl (by omega) (n := 5) rfl (by omega) (by omega) ?_
    refine k_iadd hX.1 dX8_partNow_110 ?_
    refine k_iret hX dX8_partNow_111 rfl ?_
    refine ⟨?_, rfl⟩
    simp [pn, s_1, e0, e1, e2, e3, e4, e5, e7]
  · refine k_tableOut (tgt := 112) hX.1 dX8_partNow_1 (by omega) (by omega) (by decide) ?_
    skip
    refine k_aload_n hX.1 dX8_partNow_112 rfl rfl ?_
    refine k_getr (t := 54) hX.1 dX8_partNow_113 flX8_31 rfl (by decide) rfl rfl ?_
    refine k_iload_n hX.1 dX8_partNow_116 rfl rfl ?_
    refine k_iald (j := p) hX.1 dX8_partNow_117 rfl (by omega) (n := 5) rfl (by omega) (by omega) ?_
    refine k_iret hX dX8_partNow_118 rfl ?_
    refine ⟨?_, rfl⟩
    simp [pn, s_1, e0, e1, e2, e3, e4, e5, e7]

set_option maxRecDepth 100000 in
set_option maxHeartbeats 4000000 in
theorem cM_lotNow (E : En) {A : St} {g : Mm} {n : Int} (hM : MW A g) (hW : WW A n) {t : Nat} (ht : (t : Int) < A 12 2) {q : Int} (hq : bd q) : Fn E 1 mX8_lotNow [vR 46, vI (t : Int), vI q] g (vI (lt1 A t q)) := by
  obtain ⟨⟨hm1, hm2, hm3⟩, hmp, hml⟩ := id hM
  obtain ⟨⟨hw1, hw2, hw3, hw4, hw5, hw6, hw7, hw8⟩, hwp, hwl⟩ := id hW
  obtain ⟨e0, e1, e2⟩ := hml (t) (by omega)
  obtain ⟨⟨ea, eb⟩, ⟨ec, ed⟩, ⟨ee, ef⟩⟩ := hwl (t) (by omega)
  refine Ok_of gmX8_lotNow (by omega) (Nat.le_of_ble_eq_true rfl) (fun X hX => ?_)
  show V E X 0 [some (vR 46), some (vI (t : Int)), some (vI q)] [] g
  refine k_iload_n hX.1 dX8_lotNow_0 rfl rfl ?_
  refine k_if_ne (tgt := 13) hX.1 dX8_lotNow_1 (by decide) (by omega) (fun c_1 => ?_) (fun c_1 => ?_)
  · skip
    refine k_iload_n hX.1 dX8_lotNow_13 rfl rfl ?_
    refine k_iconst hX.1 dX8_lotNow_14 ?_
    refine k_icmp_ne (tgt := 27) hX.1 dX8_lotNow_15 (by decide) (by omega) (by omega) (fun c_15 => ?_) (fun c_15 => ?_)
    · skip
      refine k_aload_n hX.1 dX8_lotNow_27 rfl rfl ?_
      refine k_getr (t := 57) hX.1 dX8_lotNow_28 flX8_40 rfl (by decide) rfl rfl ?_
      refine k_iload_n hX.1 dX8_lotNow_31 rfl rfl ?_
      refine k_iald (j := t) hX.1 dX8_lotNow_32 rfl (by omega) (n := 3) rfl (by omega) (by omega) ?_
      refine k_iret hX dX8_lotNow_33 rfl ?_
      refine ⟨?_, rfl⟩
      congr 2
      unfold lt1
      (repeat first | rw [if_pos (by omega)] | rw [if_neg (by omega)])
      assumption
    · skip
      refine k_aload_n hX.1 dX8_lotNow_18 rfl rfl ?_
      refine k_getr (t := 56) hX.1 dX8_lotNow_19 flX8_37 rfl (by decide) rfl rfl ?_
      refine k_iload_n hX.1 dX8_lotNow_22 rfl rfl ?_
      refine k_iald (j := t) hX.1 dX8_lotNow_23 rfl (by omega) (n := 3) rfl (by omega) (by omega) ?_
      refine k_goto (tgt := 33) hX.1 dX8_lotNow_24 (by decide) ?_
      refine k_iret hX dX8_lotNow_33 rfl ?_
      refine ⟨?_, rfl⟩
      congr 2
      unfold lt1
      (repeat first | rw [if_pos (by omega)] | rw [if_neg (by omega)])
      assumption
  · skip
    refine k_aload_n hX.1 dX8_lotNow_4 rfl rfl ?_
    refine k_getr (t := 55) hX.1 dX8_lotNow_5 flX8_34 rfl (by decide) rfl rfl ?_
    refine k_iload_n hX.1 dX8_lotNow_8 rfl rfl ?_
    refine k_iald (j := t) hX.1 dX8_lotNow_9 rfl (by omega) (n := 3) rfl (by omega) (by omega) ?_
    refine k_goto (tgt := 33) hX.1 dX8_lotNow_10 (by decide) ?_
    refine k_iret hX dX8_lotNow_33 rfl ?_
    refine ⟨?_, rfl⟩
    congr 2
    unfold lt1
    (repeat first | rw [if_pos (by omega)] | rw [if_neg (by omega)])
    assumption

set_option maxRecDepth 100000 in
set_option maxHeartbeats 4000000 in
theorem cM_rowsIn (E : En) {A : St} {g : Mm} {n : Int} (hM : MW A g) (hW : WW A n) {t : Nat} (ht : (t : Int) < A 12 2) : Fn E 1 mX8_rowsIn [vR 46, vI (t : Int)] g (vI (rws A t)) := by
  obtain ⟨⟨hm1, hm2, hm3⟩, hmp, hml⟩ := id hM
  obtain ⟨⟨hw1, hw2, hw3, hw4, hw5, hw6, hw7, hw8⟩, hwp, hwl⟩ := id hW
  obtain ⟨e0, e1, e2⟩ := hml (t) (by omega)
  obtain ⟨⟨ea, eb⟩, ⟨ec, ed⟩, ⟨ee, ef⟩⟩ := hwl (t) (by omega)
  refine Ok_of gmX8_rowsIn (by omega) (Nat.le_of_ble_eq_true rfl) (fun X hX => ?_)
  show V E X 0 [some (vR 46), some (vI (t : Int))] [] g
  refine k_aload_n hX.1 dX8_rowsIn_0 rfl rfl ?_
  refine k_getr (t := 57) hX.1 dX8_rowsIn_1 flX8_40 rfl (by decide) rfl rfl ?_
  refine k_iload_n hX.1 dX8_rowsIn_4 rfl rfl ?_
  refine k_iald (j := t) hX.1 dX8_rowsIn_5 rfl (by omega) (n := 3) rfl (by omega) (by omega) ?_
  refine k_iconst hX.1 dX8_rowsIn_6 ?_
  refine k_aload_n hX.1 dX8_rowsIn_7 rfl rfl ?_
  refine k_getr (t := 56) hX.1 dX8_rowsIn_8 flX8_37 rfl (by decide) rfl rfl ?_
  refine k_iload_n hX.1 dX8_rowsIn_11 rfl rfl ?_
  refine k_iald (j := t) hX.1 dX8_rowsIn_12 rfl (by omega) (n := 3) rfl (by omega) (by omega) ?_
  refine k_imul hX.1 dX8_rowsIn_13 ?_
  refine k_iadd hX.1 dX8_rowsIn_14 ?_
  refine k_iret hX dX8_rowsIn_15 rfl ?_
  refine ⟨?_, rfl⟩
  congr 2
  unfold rws
  omega

set_option maxRecDepth 100000 in
set_option maxHeartbeats 4000000 in
theorem lpM_sum (E : En) {A : St} {g : Mm} {n : Int} (hM : MW A g) (hW : WW A n) {w : Int} (hw : 0 ≤ w ∧ w ≤ 2) {X : Cx} (hX : Wk E mX8_sum X 2 (fun r g' => r = some (vI (lS A w)) ∧ g' = g)) : ∀ (m : Nat) (t : Nat) (acc : Int), m + t = (A 12 2).toNat ∧ acc = sm (fun t => lt1 A t w) t → V E X 4 [some (vR 46), some (vI w), some (vI acc), some (vI (t : Int))] [] g := by
  obtain ⟨⟨hm1, hm2, hm3⟩, hmp, hml⟩ := id hM
  obtain ⟨⟨hw1, hw2, hw3, hw4, hw5, hw6, hw7, hw8⟩, hwp, hwl⟩ := id hW
  intro m
  induction m with
  | zero =>
    intro t acc hm
    refine k_iload_n hX.1 dX8_sum_4 rfl rfl ?_
    refine k_aload_n hX.1 dX8_sum_5 rfl rfl ?_
    refine k_geti hX.1 dX8_sum_6 flX8_132 rfl (by decide) rfl ?_
    refine k_icmp_ge (tgt := 27) hX.1 dX8_sum_9 (by decide) (by omega) (by omega) (fun c_9 => ?_) (fun c_9 => ?_)
    · skip
      refine k_iload_n hX.1 dX8_sum_27 rfl rfl ?_
      refine k_iret hX dX8_sum_28 rfl ?_
      refine ⟨?_, rfl⟩
      obtain ⟨h1, h2⟩ := hm
      rw [h2, show t = (A 12 2).toNat by omega]
      rfl
    · skip
      exact absurd c_9 (by omega)
  | succ m ih =>
    intro t acc hm
    refine k_iload_n hX.1 dX8_sum_4 rfl rfl ?_
    refine k_aload_n hX.1 dX8_sum_5 rfl rfl ?_
    refine k_geti hX.1 dX8_sum_6 flX8_132 rfl (by decide) rfl ?_
    refine k_icmp_ge (tgt := 27) hX.1 dX8_sum_9 (by decide) (by omega) (by omega) (fun c_9 => ?_) (fun c_9 => ?_)
    · skip
      exact absurd c_9 (by omega)
    · skip
      refine k_iload_n hX.1 dX8_sum_12 rfl rfl ?_
      refine k_aload_n hX.1 dX8_sum_13 rfl rfl ?_
      refine k_iload_n hX.1 dX8_sum_14 rfl rfl ?_
      refine k_iload_n hX.1 dX8_sum_15 rfl rfl ?_
      refine k_callVf (d2 := 1) (n := 2) (as := [_, _]) hX.1 dX8_sum_16 lkX8_159 (fit_of hX (by omega) gmX8_lotNow) rfl rfl (by decide) rfl rfl rfl (Nat.le_of_ble_eq_true rfl) (cM_lotNow E hM hW (t := t) (by omega) (by omega)) ?_
      refine k_iadd hX.1 dX8_sum_19 ?_
      refine k_istore_n hX.1 dX8_sum_20 rfl (by decide) rfl rfl ?_
      try simp only [List.set_cons_zero, List.set_cons_succ]
      refine k_iinc hX.1 dX8_sum_21 rfl (by decide) rfl rfl ?_
      try simp only [List.set_cons_zero, List.set_cons_succ]
      refine k_goto (tgt := 4) hX.1 dX8_sum_24 (by decide) ?_
      exact ih (t + 1) _ ⟨by omega, by rw [sm, hm.2]⟩

set_option maxRecDepth 100000 in
set_option maxHeartbeats 4000000 in
theorem cM_sum (E : En) {A : St} {g : Mm} {n : Int} (hM : MW A g) (hW : WW A n) {w : Int} (hw : 0 ≤ w ∧ w ≤ 2) : Fn E 2 mX8_sum [vR 46, vI w] g (vI (lS A w)) := by
  obtain ⟨⟨hm1, hm2, hm3⟩, hmp, hml⟩ := id hM
  obtain ⟨⟨hw1, hw2, hw3, hw4, hw5, hw6, hw7, hw8⟩, hwp, hwl⟩ := id hW
  refine Ok_of gmX8_sum (by omega) (Nat.le_of_ble_eq_true rfl) (fun X hX => ?_)
  show V E X 0 [some (vR 46), some (vI w), none, none] [] g
  refine k_iconst hX.1 dX8_sum_0 ?_
  refine k_istore_n hX.1 dX8_sum_1 rfl (by decide) rfl rfl ?_
  try simp only [List.set_cons_zero, List.set_cons_succ]
  refine k_iconst hX.1 dX8_sum_2 ?_
  refine k_istore_n hX.1 dX8_sum_3 rfl (by decide) rfl rfl ?_
  try simp only [List.set_cons_zero, List.set_cons_succ]
  exact lpM_sum E hM hW hw hX (A 12 2).toNat 0 0 ⟨by omega, rfl⟩

set_option maxRecDepth 100000 in
set_option maxHeartbeats 4000000 in
theorem lpM_wanted (E : En) {A : St} {g : Mm} {n : Int} (hM : MW A g) (hW : WW A n) {t : Nat} (ht : (t : Int) < A 12 2) {b : Int} (hb : b = 0 ∨ b = 1) {X : Cx} (hX : Wk E mX8_wantedNow X 2 (fun r g' => r = some (vI (want A t b)) ∧ g' = g)) : ∀ (m : Nat) (p : Nat) (o q f : Int), m + p = (A 12 0).toNat ∧ o = wNeed A p ∧ q = wTold A p ∧ f = wOf A p → V E X 11 [some (vR 46), some (vI (t : Int)), some (vI b), some (vI o), some (vI q), some (vI f), some (vI (p : Int)), none] [] g := by
  obtain ⟨⟨hm1, hm2, hm3⟩, hmp, hml⟩ := id hM
  obtain ⟨⟨hw1, hw2, hw3, hw4, hw5, hw6, hw7, hw8⟩, hwp, hwl⟩ := id hW
  obtain ⟨l0, l1, l2⟩ := hml (t) (by omega)
  obtain ⟨⟨la, lb⟩, ⟨lc, ld⟩, ⟨le, lf⟩⟩ := hwl (t) (by omega)
  intro m
  induction m with
  | zero =>
    intro p o q f hm
    obtain ⟨h1, rfl, rfl, rfl⟩ := hm
    obtain rfl : p = (A 12 0).toNat := by omega
    have b1 := wNeed_bd hW (m := (A 12 0).toNat) (by omega)
    have b2 := wTold_bd hW (m := (A 12 0).toNat) (by omega)
    have b3 := wOf_bd hW (m := (A 12 0).toNat) (by omega)
    have b4 := wProd_bd hW (m := (A 12 0).toNat) (by omega)
    have b5 : rws A t = 4 * A 9 t + A 10 t := rfl
    refine k_iload hX.1 dX8_wantedNow_11 rfl ?_
    refine k_aload_n hX.1 dX8_wantedNow_13 rfl rfl ?_
    refine k_geti hX.1 dX8_wantedNow_14 flX8_119 rfl (by decide) rfl ?_
    refine k_icmp_ge (tgt := 105) hX.1 dX8_wantedNow_17 (by decide) (by omega) (by omega) (fun c_17 => ?_) (fun c_17 => ?_)
    · skip
      refine k_iload_n hX.1 dX8_wantedNow_105 rfl rfl ?_
      refine k_join1 130 (fun z => z = wRows A b) (fun x1 hx1 => ?_) (fun jn_106 => ?_)
      · skip
        have b6 : 0 ≤ wRows A b ∧ wRows A b ≤ 5000 := by
          unfold wRows
          split
          · omega
          · exact ⟨Int.ediv_nonneg (by omega) (by omega), Int.le_trans (Int.ediv_le_self _ (by omega)) (by omega)⟩
        subst hx1
        refine k_istore hX.1 dX8_wantedNow_130 (by decide) rfl rfl ?_
        try simp only [List.set_cons_zero, List.set_cons_succ]
        refine k_iload hX.1 dX8_wantedNow_132 rfl ?_
        refine k_aload_n hX.1 dX8_wantedNow_134 rfl rfl ?_
        refine k_iload_n hX.1 dX8_wantedNow_135 rfl rfl ?_
        refine k_callVf (d2 := 1) (n := 1) (as := [_]) hX.1 dX8_wantedNow_136 lkX8_165 (fit_of hX (by omega) gmX8_rowsIn) rfl rfl (by decide) rfl rfl rfl (Nat.le_of_ble_eq_true rfl) (cM_rowsIn E hM hW ht) ?_
        refine k_isub hX.1 dX8_wantedNow_139 ?_
        refine k_istore hX.1 dX8_wantedNow_140 (by decide) rfl rfl ?_
        try simp only [List.set_cons_zero, List.set_cons_succ]
        refine k_iload hX.1 dX8_wantedNow_142 rfl ?_
        refine k_if_gt (tgt := 151) hX.1 dX8_wantedNow_144 (by decide) (by omega) (fun c_144 => ?_) (fun c_144 => ?_)
        · skip
          refine k_iload hX.1 dX8_wantedNow_151 rfl ?_
          refine k_iconst hX.1 dX8_wantedNow_153 ?_
          refine k_iadd hX.1 dX8_wantedNow_154 ?_
          refine k_iconst hX.1 dX8_wantedNow_155 ?_
          refine k_isub hX.1 dX8_wantedNow_156 ?_
          refine k_iconst hX.1 dX8_wantedNow_157 ?_
          refine k_idiv hX.1 dX8_wantedNow_158 (by omega) (by omega) ?_
          refine k_iret hX dX8_wantedNow_159 rfl ?_
          refine ⟨?_, rfl⟩
          congr 2
          unfold want
          split <;> omega
        · skip
          refine k_iconst hX.1 dX8_wantedNow_147 ?_
          refine k_goto (tgt := 159) hX.1 dX8_wantedNow_148 (by decide) ?_
          refine k_iret hX dX8_wantedNow_159 rfl ?_
          refine ⟨?_, rfl⟩
          congr 2
          unfold want
          split <;> omega
      · refine k_if_eq (tgt := 114) hX.1 dX8_wantedNow_106 (by decide) (by omega) (fun c_106 => ?_) (fun c_106 => ?_)
        · skip
          refine k_iload_n hX.1 dX8_wantedNow_114 rfl rfl ?_
          refine k_goto (tgt := 130) hX.1 dX8_wantedNow_115 (by decide) ?_
          exact jn_106 _ (by unfold wRows; first | rw [if_pos (by omega)] | rw [if_neg (by omega)])
        · skip
          refine k_iload hX.1 dX8_wantedNow_109 rfl ?_
          refine k_if_ne (tgt := 118) hX.1 dX8_wantedNow_111 (by decide) (by omega) (fun c_111 => ?_) (fun c_111 => ?_)
          · skip
            refine k_iload_n hX.1 dX8_wantedNow_118 rfl rfl ?_
            refine k_iload hX.1 dX8_wantedNow_119 rfl ?_
            refine k_imul hX.1 dX8_wantedNow_121 ?_
            refine k_iload hX.1 dX8_wantedNow_122 rfl ?_
            refine k_iadd hX.1 dX8_wantedNow_124 ?_
            refine k_iconst hX.1 dX8_wantedNow_125 ?_
            refine k_isub hX.1 dX8_wantedNow_126 ?_
            refine k_iload hX.1 dX8_wantedNow_127 rfl ?_
            refine k_idiv hX.1 dX8_wantedNow_129 (by omega) (by omega) ?_
            exact jn_106 _ (by unfold wRows; first | rw [if_pos (by omega)] | rw [if_neg (by omega)])
          · skip
            refine k_iload_n hX.1 dX8_wantedNow_114 rfl rfl ?_
            refine k_goto (tgt := 130) hX.1 dX8_wantedNow_115 (by decide) ?_
            exact jn_106 _ (by unfold wRows; first | rw [if_pos (by omega)] | rw [if_neg (by omega)])
    · skip
      exact absurd c_17 (by omega)
  | succ m ih =>
    intro p o q f hm
    obtain ⟨e0, e1, e2, e3, e4, e5, e6, e7⟩ := hmp (p) (by omega)
    obtain ⟨⟨ek1, ek2⟩, ⟨er1, er2⟩, ew2, ew3, ew4, ew5, ew6, ew7⟩ := hwp (p) (by omega)
    refine k_iload hX.1 dX8_wantedNow_11 rfl ?_
    refine k_aload_n hX.1 dX8_wantedNow_13 rfl rfl ?_
    refine k_geti hX.1 dX8_wantedNow_14 flX8_119 rfl (by decide) rfl ?_
    refine k_icmp_ge (tgt := 105) hX.1 dX8_wantedNow_17 (by decide) (by omega) (by omega) (fun c_17 => ?_) (fun c_17 => ?_)
    · skip
      exact absurd c_17 (by omega)
    · skip
      refine k_iload_n hX.1 dX8_wantedNow_20 rfl rfl ?_
      refine k_aload_n hX.1 dX8_wantedNow_21 rfl rfl ?_
      refine k_getr (t := 49) hX.1 dX8_wantedNow_22 flX8_16 rfl (by decide) rfl rfl ?_
      refine k_iload hX.1 dX8_wantedNow_25 rfl ?_
      refine k_iald (j := p) hX.1 dX8_wantedNow_27 rfl (by omega) (n := 5) rfl (by omega) (by omega) ?_
      refine k_iconst hX.1 dX8_wantedNow_28 ?_
      refine k_join2 43 (fun z => z = if A 2 p = -1 then A 1 p else 0) (fun y1 hy1 => ?_) (fun jn_29 => ?_)
      · skip
        subst hy1
        refine k_iadd hX.1 dX8_wantedNow_43 ?_
        refine k_istore_n hX.1 dX8_wantedNow_44 rfl (by decide) rfl rfl ?_
        try simp only [List.set_cons_zero, List.set_cons_succ]
        refine k_iload hX.1 dX8_wantedNow_45 rfl ?_
        refine k_aload_n hX.1 dX8_wantedNow_47 rfl rfl ?_
        refine k_getr (t := 53) hX.1 dX8_wantedNow_48 flX8_28 rfl (by decide) rfl rfl ?_
        refine k_iload hX.1 dX8_wantedNow_51 rfl ?_
        refine k_iald (j := p) hX.1 dX8_wantedNow_53 rfl (by omega) (n := 5) rfl (by omega) (by omega) ?_
        refine k_iconst hX.1 dX8_wantedNow_54 ?_
        refine k_join2 69 (fun z => z = if A 6 p = -1 then 0 else A 6 p) (fun y2 hy2 => ?_) (fun jn_55 => ?_)
        · skip
          subst hy2
          refine k_iadd hX.1 dX8_wantedNow_69 ?_
          refine k_istore hX.1 dX8_wantedNow_70 (by decide) rfl rfl ?_
          try simp only [List.set_cons_zero, List.set_cons_succ]
          refine k_iload hX.1 dX8_wantedNow_72 rfl ?_
          refine k_aload_n hX.1 dX8_wantedNow_74 rfl rfl ?_
          refine k_getr (t := 53) hX.1 dX8_wantedNow_75 flX8_28 rfl (by decide) rfl rfl ?_
          refine k_iload hX.1 dX8_wantedNow_78 rfl ?_
          refine k_iald (j := p) hX.1 dX8_wantedNow_80 rfl (by omega) (n := 5) rfl (by omega) (by omega) ?_
          refine k_iconst hX.1 dX8_wantedNow_81 ?_
          refine k_join2 96 (fun z => z = if A 6 p = -1 then 0 else A 1 p) (fun y3 hy3 => ?_) (fun jn_82 => ?_)
          · skip
            subst hy3
            refine k_iadd hX.1 dX8_wantedNow_96 ?_
            refine k_istore hX.1 dX8_wantedNow_97 (by decide) rfl rfl ?_
            try simp only [List.set_cons_zero, List.set_cons_succ]
            refine k_iinc hX.1 dX8_wantedNow_99 rfl (by decide) rfl rfl ?_
            try simp only [List.set_cons_zero, List.set_cons_succ]
            refine k_goto (tgt := 11) hX.1 dX8_wantedNow_102 (by decide) ?_
            exact k_sub (by repeat first | exact trivial | refine And.intro rfl ?_) (ih (p + 1) _ _ _ ⟨by omega, by rw [hm.2.1]; rfl, by rw [hm.2.2.1]; rfl, by rw [hm.2.2.2]; rfl⟩)
          · refine k_icmp_ne (tgt := 89) hX.1 dX8_wantedNow_82 (by decide) (by omega) (by omega) (fun c_82 => ?_) (fun c_82 => ?_)
            · skip
              refine k_aload_n hX.1 dX8_wantedNow_89 rfl rfl ?_
              refine k_getr (t := 48) hX.1 dX8_wantedNow_90 flX8_13 rfl (by decide) rfl rfl ?_
              refine k_iload hX.1 dX8_wantedNow_93 rfl ?_
              refine k_iald (j := p) hX.1 dX8_wantedNow_95 rfl (by omega) (n := 5) rfl (by omega) (by omega) ?_
              exact jn_82 _ (by first | (rw [if_pos (by omega)]) | (rw [if_neg (by omega)]; omega))
            · skip
              refine k_iconst hX.1 dX8_wantedNow_85 ?_
              refine k_goto (tgt := 96) hX.1 dX8_wantedNow_86 (by decide) ?_
              exact jn_82 _ (by first | (rw [if_pos (by omega)]) | (rw [if_neg (by omega)]; omega))
        · refine k_icmp_ne (tgt := 62) hX.1 dX8_wantedNow_55 (by decide) (by omega) (by omega) (fun c_55 => ?_) (fun c_55 => ?_)
          · skip
            refine k_aload_n hX.1 dX8_wantedNow_62 rfl rfl ?_
            refine k_getr (t := 53) hX.1 dX8_wantedNow_63 flX8_28 rfl (by decide) rfl rfl ?_
            refine k_iload hX.1 dX8_wantedNow_66 rfl ?_
            refine k_iald (j := p) hX.1 dX8_wantedNow_68 rfl (by omega) (n := 5) rfl (by omega) (by omega) ?_
            exact jn_55 _ (by first | (rw [if_pos (by omega)]) | (rw [if_neg (by omega)]; omega))
          · skip
            refine k_iconst hX.1 dX8_wantedNow_58 ?_
            refine k_goto (tgt := 69) hX.1 dX8_wantedNow_59 (by decide) ?_
            exact jn_55 _ (by first | (rw [if_pos (by omega)]) | (rw [if_neg (by omega)]; omega))
      · refine k_icmp_ne (tgt := 42) hX.1 dX8_wantedNow_29 (by decide) (by omega) (by omega) (fun c_29 => ?_) (fun c_29 => ?_)
        · skip
          refine k_iconst hX.1 dX8_wantedNow_42 ?_
          exact jn_29 _ (by first | (rw [if_pos (by omega)]; omega) | (rw [if_neg (by omega)]))
        · skip
          refine k_aload_n hX.1 dX8_wantedNow_32 rfl rfl ?_
          refine k_getr (t := 48) hX.1 dX8_wantedNow_33 flX8_13 rfl (by decide) rfl rfl ?_
          refine k_iload hX.1 dX8_wantedNow_36 rfl ?_
          refine k_iald (j := p) hX.1 dX8_wantedNow_38 rfl (by omega) (n := 5) rfl (by omega) (by omega) ?_
          refine k_goto (tgt := 43) hX.1 dX8_wantedNow_39 (by decide) ?_
          exact jn_29 _ (by first | (rw [if_pos (by omega)]; omega) | (rw [if_neg (by omega)]))

set_option maxRecDepth 100000 in
set_option maxHeartbeats 4000000 in
theorem cM_wantedNow (E : En) {A : St} {g : Mm} {n : Int} (hM : MW A g) (hW : WW A n) {t : Nat} (ht : (t : Int) < A 12 2) {b : Int} (hb : b = 0 ∨ b = 1) : Fn E 2 mX8_wantedNow [vR 46, vI (t : Int), vI b] g (vI (want A t b)) := by
  obtain ⟨⟨hm1, hm2, hm3⟩, hmp, hml⟩ := id hM
  obtain ⟨⟨hw1, hw2, hw3, hw4, hw5, hw6, hw7, hw8⟩, hwp, hwl⟩ := id hW
  refine Ok_of gmX8_wantedNow (by omega) (Nat.le_of_ble_eq_true rfl) (fun X hX => ?_)
  show V E X 0 [some (vR 46), some (vI (t : Int)), some (vI b), none, none, none, none, none] [] g
  refine k_iconst hX.1 dX8_wantedNow_0 ?_
  refine k_istore_n hX.1 dX8_wantedNow_1 rfl (by decide) rfl rfl ?_
  try simp only [List.set_cons_zero, List.set_cons_succ]
  refine k_iconst hX.1 dX8_wantedNow_2 ?_
  refine k_istore hX.1 dX8_wantedNow_3 (by decide) rfl rfl ?_
  try simp only [List.set_cons_zero, List.set_cons_succ]
  refine k_iconst hX.1 dX8_wantedNow_5 ?_
  refine k_istore hX.1 dX8_wantedNow_6 (by decide) rfl rfl ?_
  try simp only [List.set_cons_zero, List.set_cons_succ]
  refine k_iconst hX.1 dX8_wantedNow_8 ?_
  refine k_istore hX.1 dX8_wantedNow_9 (by decide) rfl rfl ?_
  try simp only [List.set_cons_zero, List.set_cons_succ]
  exact lpM_wanted E hM hW ht hb hX (A 12 0).toNat 0 0 0 0 ⟨by omega, rfl, rfl, rfl⟩
