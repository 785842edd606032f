set_option maxRecDepth 100000 in
set_option maxHeartbeats 4000000 in
theorem cP_isKnitted (E : En) (g : Mm) {p : Nat} (hp : p < 5) (h : bd (g.1 (6 + p) 2)) : Fn E 1 mX4_isKnitted [vR (6 + p)] g (vI (if g.1 (6 + p) 2 = -1 then 0 else 1)) := by
  refine Ok_of gmX4_isKnitted (by omega) (Nat.le_of_ble_eq_true rfl) (fun X hX => ?_)
  show V E X 0 [some (vR (6 + p))] [] g
  refine k_aload_n hX.1 dX4_isKnitted_0 rfl rfl ?_
  refine k_geti hX.1 dX4_isKnitted_1 flX4_24 (sk_P6 (by omega)) (by decide) rfl ?_
  refine k_iconst hX.1 dX4_isKnitted_4 ?_
  refine k_icmp_eq (tgt := 12) hX.1 dX4_isKnitted_5 (by decide) (by omega) (by omega) (fun c_5 => ?_) (fun c_5 => ?_)
  · skip
    refine k_iconst hX.1 dX4_isKnitted_12 ?_
    refine k_zret hX dX4_isKnitted_13 rfl (by omega) ?_
    refine ⟨?_, rfl⟩
    congr 2
    split <;> omega
  · skip
    refine k_iconst hX.1 dX4_isKnitted_8 ?_
    refine k_goto (tgt := 13) hX.1 dX4_isKnitted_9 (by decide) ?_
    refine k_zret hX dX4_isKnitted_13 rfl (by omega) ?_
    refine ⟨?_, rfl⟩
    congr 2
    split <;> omega

set_option maxRecDepth 100000 in
set_option maxHeartbeats 4000000 in
theorem cP_isMixed (E : En) (g : Mm) {p : Nat} (hp : p < 5) (h : bd (g.1 (6 + p) 3)) : Fn E 1 mX4_isMixed [vR (6 + p)] g (vI (if g.1 (6 + p) 3 = -1 then 0 else 1)) := by
  refine Ok_of gmX4_isMixed (by omega) (Nat.le_of_ble_eq_true rfl) (fun X hX => ?_)
  show V E X 0 [some (vR (6 + p))] [] g
  refine k_aload_n hX.1 dX4_isMixed_0 rfl rfl ?_
  refine k_geti hX.1 dX4_isMixed_1 flX4_27 (sk_P6 (by omega)) (by decide) rfl ?_
  refine k_iconst hX.1 dX4_isMixed_4 ?_
  refine k_icmp_eq (tgt := 12) hX.1 dX4_isMixed_5 (by decide) (by omega) (by omega) (fun c_5 => ?_) (fun c_5 => ?_)
  · skip
    refine k_iconst hX.1 dX4_isMixed_12 ?_
    refine k_zret hX dX4_isMixed_13 rfl (by omega) ?_
    refine ⟨?_, rfl⟩
    congr 2
    split <;> omega
  · skip
    refine k_iconst hX.1 dX4_isMixed_8 ?_
    refine k_goto (tgt := 13) hX.1 dX4_isMixed_9 (by decide) ?_
    refine k_zret hX dX4_isMixed_13 rfl (by omega) ?_
    refine ⟨?_, rfl⟩
    congr 2
    split <;> omega

set_option maxRecDepth 100000 in
set_option maxHeartbeats 4000000 in
theorem cP_isOf (E : En) (g : Mm) {p : Nat} (hp : p < 5) (h : bd (g.1 (6 + p) 0)) {q : Int} (hq : bd q) : Fn E 1 mX4_isOf [vR (6 + p), vI q] g (vI (if q = 0 ∨ q = g.1 (6 + p) 0 ∨ (g.1 (6 + p) 0 = 4 ∧ q = 3) then 1 else 0)) := by
  refine Ok_of gmX4_isOf (by omega) (Nat.le_of_ble_eq_true rfl) (fun X hX => ?_)
  show V E X 0 [some (vR (6 + p)), some (vI q)] [] g
  refine k_iload_n hX.1 dX4_isOf_0 rfl rfl ?_
  refine k_if_eq (tgt := 25) hX.1 dX4_isOf_1 (by decide) (by omega) (fun c_1 => ?_) (fun c_1 => ?_)
  · skip
    refine k_iconst hX.1 dX4_isOf_25 ?_
    refine k_goto (tgt := 30) hX.1 dX4_isOf_26 (by decide) ?_
    refine k_zret hX dX4_isOf_30 rfl (by omega) ?_
    refine ⟨?_, rfl⟩
    congr 2
    split <;> omega
  · skip
    refine k_iload_n hX.1 dX4_isOf_4 rfl rfl ?_
    refine k_aload_n hX.1 dX4_isOf_5 rfl rfl ?_
    refine k_geti hX.1 dX4_isOf_6 flX4_9 (sk_P6 (by omega)) (by decide) rfl ?_
    refine k_icmp_eq (tgt := 25) hX.1 dX4_isOf_9 (by decide) (by omega) (by omega) (fun c_9 => ?_) (fun c_9 => ?_)
    · skip
      refine k_iconst hX.1 dX4_isOf_25 ?_
      refine k_goto (tgt := 30) hX.1 dX4_isOf_26 (by decide) ?_
      refine k_zret hX dX4_isOf_30 rfl (by omega) ?_
      refine ⟨?_, rfl⟩
      congr 2
      split <;> omega
    · skip
      refine k_aload_n hX.1 dX4_isOf_12 rfl rfl ?_
      refine k_geti hX.1 dX4_isOf_13 flX4_9 (sk_P6 (by omega)) (by decide) rfl ?_
      refine k_iconst hX.1 dX4_isOf_16 ?_
      refine k_icmp_ne (tgt := 29) hX.1 dX4_isOf_17 (by decide) (by omega) (by omega) (fun c_17 => ?_) (fun c_17 => ?_)
      · skip
        refine k_iconst hX.1 dX4_isOf_29 ?_
        refine k_zret hX dX4_isOf_30 rfl (by omega) ?_
        refine ⟨?_, rfl⟩
        congr 2
        split <;> omega
      · skip
        refine k_iload_n hX.1 dX4_isOf_20 rfl rfl ?_
        refine k_iconst hX.1 dX4_isOf_21 ?_
        refine k_icmp_ne (tgt := 29) hX.1 dX4_isOf_22 (by decide) (by omega) (by omega) (fun c_22 => ?_) (fun c_22 => ?_)
        · skip
          refine k_iconst hX.1 dX4_isOf_29 ?_
          refine k_zret hX dX4_isOf_30 rfl (by omega) ?_
          refine ⟨?_, rfl⟩
          congr 2
          split <;> omega
        · skip
          refine k_iconst hX.1 dX4_isOf_25 ?_
          refine k_goto (tgt := 30) hX.1 dX4_isOf_26 (by decide) ?_
          refine k_zret hX dX4_isOf_30 rfl (by omega) ?_
          refine ⟨?_, rfl⟩
          congr 2
          split <;> omega

theorem flN40 : Cond.fieldLinkNest RX4 40 "DyeLots" "LIGHTS" "[I" "DyeLots" ∈ nestW := inNest 436 (by decide +kernel) (by decide +kernel)
set_option maxRecDepth 100000 in
set_option maxHeartbeats 4000000 in
theorem cP_light (E : En) (g : Mm) {p : Nat} (hp : p < 5) (h : 0 ≤ g.1 (6 + p) 0 ∧ g.1 (6 + p) 0 ≤ 4) : Fn E 1 mX4_light [vR (6 + p)] g (vI (lig (g.1 (6 + p) 0))) := by
  refine Ok_of gmX4_light (by omega) (Nat.le_of_ble_eq_true rfl) (fun X hX => ?_)
  show V E X 0 [some (vR (6 + p))] [] g
  refine k_aload_n hX.1 dX4_light_0 rfl rfl ?_
  refine k_geti hX.1 dX4_light_1 flX4_9 (sk_P6 (by omega)) (by decide) rfl ?_
  refine k_if_lt (tgt := 29) hX.1 dX4_light_4 (by decide) (by omega) (fun c_4 => ?_) (fun c_4 => ?_)
  · skip
    exact absurd c_4 (by omega)
  · skip
    refine k_aload_n hX.1 dX4_light_7 rfl rfl ?_
    refine k_geti hX.1 dX4_light_8 flX4_9 (sk_P6 (by omega)) (by decide) rfl ?_
    refine k_gsLN hX.1 dX4_light_11 flN40 ?_
    refine k_clen hX.1 dX4_light_14 ?_
    refine k_icmp_ge (tgt := 29) hX.1 dX4_light_15 (by decide) (by omega) (by omega) (fun c_15 => ?_) (fun c_15 => ?_)
    · skip
      exact absurd c_15 (by omega)
    · skip
      refine k_gsLN hX.1 dX4_light_18 flN40 ?_
      refine k_aload_n hX.1 dX4_light_21 rfl rfl ?_
      refine k_geti hX.1 dX4_light_22 flX4_9 (sk_P6 (by omega)) (by decide) rfl ?_
      refine k_cld (j := _) hX.1 dX4_light_25 (by omega) (by omega) rfl ?_
      refine k_goto (tgt := 30) hX.1 dX4_light_26 (by decide) ?_
      refine k_iret hX dX4_light_30 rfl ?_
      rw [lig_lgt h.1 (by omega)]
      exact ⟨rfl, rfl⟩

set_option maxRecDepth 100000 in
set_option maxHeartbeats 4000000 in
theorem cL_rows (E : En) (g : Mm) {t : Nat} (hp : t < 3) : Fn E 1 mX2_rows [vR (11 + t)] g (vI (4 * g.1 (11 + t) 1 + g.1 (11 + t) 2)) := by
  refine Ok_of gmX2_rows (by omega) (Nat.le_of_ble_eq_true rfl) (fun X hX => ?_)
  show V E X 0 [some (vR (11 + t))] [] g
  refine k_iconst hX.1 dX2_rows_0 ?_
  refine k_aload_n hX.1 dX2_rows_1 rfl rfl ?_
  refine k_geti hX.1 dX2_rows_2 flX2_15 (sk_L11 (by omega)) (by decide) rfl ?_
  refine k_imul hX.1 dX2_rows_5 ?_
  refine k_aload_n hX.1 dX2_rows_6 rfl rfl ?_
  refine k_geti hX.1 dX2_rows_7 flX2_18 (sk_L11 (by omega)) (by decide) rfl ?_
  refine k_iadd hX.1 dX2_rows_10 ?_
  refine k_iret hX dX2_rows_11 rfl ?_
  exact ⟨rfl, rfl⟩

set_option maxRecDepth 100000 in
set_option maxHeartbeats 4000000 in
theorem cL_tell (E : En) (g : Mm) {t : Nat} (hp : t < 3) {q : Int} (hq : bd q) : Fn E 1 mX2_tell [vR (11 + t), vI q] g (vI (if q = 0 then g.1 (11 + t) 0 else if q = 1 then g.1 (11 + t) 1 else g.1 (11 + t) 2)) := by
  refine Ok_of gmX2_tell (by omega) (Nat.le_of_ble_eq_true rfl) (fun X hX => ?_)
  show V E X 0 [some (vR (11 + t)), some (vI q)] [] g
  refine k_iload_n hX.1 dX2_tell_0 rfl rfl ?_
  rcases (show q = 0 ∨ q = 1 ∨ (¬ q = 0 ∧ ¬ q = 1) by omega) with s_1 | s_1 | s_1
  · refine k_lookup (tgt := 28) (off := 27) hX.1 dX2_tell_1 (by omega) (by decide) (by rw [s_1]; rfl) (by decide) ?_
    skip
    refine k_aload_n hX.1 dX2_tell_28 rfl rfl ?_
    refine k_geti hX.1 dX2_tell_29 flX2_9 (sk_L11 (by omega)) (by decide) rfl ?_
    refine k_iret hX dX2_tell_32 rfl ?_
    refine ⟨?_, rfl⟩
    simp [s_1]
  · refine k_lookup (tgt := 33) (off := 32) hX.1 dX2_tell_1 (by omega) (by decide) (by rw [s_1]; rfl) (by decide) ?_
    skip
    refine k_aload_n hX.1 dX2_tell_33 rfl rfl ?_
    refine k_geti hX.1 dX2_tell_34 flX2_15 (sk_L11 (by omega)) (by decide) rfl ?_
    refine k_iret hX dX2_tell_37 rfl ?_
    refine ⟨?_, rfl⟩
    simp [s_1]
  · refine k_lookup (tgt := 38) (off := 37) hX.1 dX2_tell_1 (by omega) (by decide) (by have := s_1; simp [Op.lookupswitch.offset]; omega) (by decide) ?_
    skip
    refine k_aload_n hX.1 dX2_tell_38 rfl rfl ?_
    refine k_geti hX.1 dX2_tell_39 flX2_18 (sk_L11 (by omega)) (by decide) rfl ?_
    refine k_iret hX dX2_tell_42 rfl ?_
    refine ⟨?_, rfl⟩
    simp [s_1]

set_option maxRecDepth 100000 in
set_option maxHeartbeats 4000000 in
theorem cW_hasPart (E : En) (g : Mm) {p : Int} (hp : bd p) (h : bd (g.1 3 2)) : Fn E 1 mX6_hasPart [vR 3, vI p] g (vI (if 0 ≤ p ∧ p < g.1 3 2 then 1 else 0)) := by
  refine Ok_of gmX6_hasPart (by omega) (Nat.le_of_ble_eq_true rfl) (fun X hX => ?_)
  show V E X 0 [some (vR 3), some (vI p)] [] g
  refine k_iload_n hX.1 dX6_hasPart_0 rfl rfl ?_
  refine k_if_lt (tgt := 16) hX.1 dX6_hasPart_1 (by decide) (by omega) (fun c_1 => ?_) (fun c_1 => ?_)
  · skip
    refine k_iconst hX.1 dX6_hasPart_16 ?_
    refine k_zret hX dX6_hasPart_17 rfl (by omega) ?_
    refine ⟨?_, rfl⟩
    congr 2
    split <;> omega
  · skip
    refine k_iload_n hX.1 dX6_hasPart_4 rfl rfl ?_
    refine k_aload_n hX.1 dX6_hasPart_5 rfl rfl ?_
    refine k_geti hX.1 dX6_hasPart_6 flX6_37 rfl (by decide) rfl ?_
    refine k_icmp_ge (tgt := 16) hX.1 dX6_hasPart_9 (by decide) (by omega) (by omega) (fun c_9 => ?_) (fun c_9 => ?_)
    · skip
      refine k_iconst hX.1 dX6_hasPart_16 ?_
      refine k_zret hX dX6_hasPart_17 rfl (by omega) ?_
      refine ⟨?_, rfl⟩
      congr 2
      split <;> omega
    · skip
      refine k_iconst hX.1 dX6_hasPart_12 ?_
      refine k_goto (tgt := 17) hX.1 dX6_hasPart_13 (by decide) ?_
      refine k_zret hX dX6_hasPart_17 rfl (by omega) ?_
      refine ⟨?_, rfl⟩
      congr 2
      split <;> omega

theorem cW_hasPart1 (E : En) (g : Mm) {p : Int} (h0 : 0 ≤ p) (h1 : p < g.1 3 2) (h : bd (g.1 3 2)) : Fn E 1 mX6_hasPart [vR 3, vI p] g (vI 1) := by
  have hq := cW_hasPart E g (p := p) (by omega) h
  rwa [if_pos ⟨h0, h1⟩] at hq
theorem cW_hasPart0 (E : En) (g : Mm) {p : Int} (hp : bd p) (h1 : ¬ (0 ≤ p ∧ p < g.1 3 2)) (h : bd (g.1 3 2)) : Fn E 1 mX6_hasPart [vR 3, vI p] g (vI 0) := by
  have hq := cW_hasPart E g (p := p) hp h
  rwa [if_neg h1] at hq
set_option maxRecDepth 100000 in
set_option maxHeartbeats 4000000 in
theorem cW_hasLot (E : En) (g : Mm) {p : Int} (hp : bd p) (h : bd (g.1 3 3)) : Fn E 1 mX6_hasLot [vR 3, vI p] g (vI (if 0 ≤ p ∧ p < g.1 3 3 then 1 else 0)) := by
  refine Ok_of gmX6_hasLot (by omega) (Nat.le_of_ble_eq_true rfl) (fun X hX => ?_)
  show V E X 0 [some (vR 3), some (vI p)] [] g
  refine k_iload_n hX.1 dX6_hasLot_0 rfl rfl ?_
  refine k_if_lt (tgt := 16) hX.1 dX6_hasLot_1 (by decide) (by omega) (fun c_1 => ?_) (fun c_1 => ?_)
  · skip
    refine k_iconst hX.1 dX6_hasLot_16 ?_
    refine k_zret hX dX6_hasLot_17 rfl (by omega) ?_
    refine ⟨?_, rfl⟩
    congr 2
    split <;> omega
  · skip
    refine k_iload_n hX.1 dX6_hasLot_4 rfl rfl ?_
    refine k_aload_n hX.1 dX6_hasLot_5 rfl rfl ?_
    refine k_geti hX.1 dX6_hasLot_6 flX6_40 rfl (by decide) rfl ?_
    refine k_icmp_ge (tgt := 16) hX.1 dX6_hasLot_9 (by decide) (by omega) (by omega) (fun c_9 => ?_) (fun c_9 => ?_)
    · skip
      refine k_iconst hX.1 dX6_hasLot_16 ?_
      refine k_zret hX dX6_hasLot_17 rfl (by omega) ?_
      refine ⟨?_, rfl⟩
      congr 2
      split <;> omega
    · skip
      refine k_iconst hX.1 dX6_hasLot_12 ?_
      refine k_goto (tgt := 17) hX.1 dX6_hasLot_13 (by decide) ?_
      refine k_zret hX dX6_hasLot_17 rfl (by omega) ?_
      refine ⟨?_, rfl⟩
      congr 2
      split <;> omega

theorem cW_hasLot1 (E : En) (g : Mm) {p : Int} (h0 : 0 ≤ p) (h1 : p < g.1 3 3) (h : bd (g.1 3 3)) : Fn E 1 mX6_hasLot [vR 3, vI p] g (vI 1) := by
  have hq := cW_hasLot E g (p := p) (by omega) h
  rwa [if_pos ⟨h0, h1⟩] at hq
theorem cW_hasLot0 (E : En) (g : Mm) {p : Int} (hp : bd p) (h1 : ¬ (0 ≤ p ∧ p < g.1 3 3)) (h : bd (g.1 3 3)) : Fn E 1 mX6_hasLot [vR 3, vI p] g (vI 0) := by
  have hq := cW_hasLot E g (p := p) hp h
  rwa [if_neg h1] at hq

set_option maxRecDepth 100000 in
set_option maxHeartbeats 4000000 in
theorem cW_tone (E : En) {A : St} {g : Mm} {n : Int} (hC : CW A g) (hW : WW A n) {p : Nat} (hp : (p : Int) < A 12 0) : Fn E 2 mX6_tone [vR 3, vI (p : Int)] g (vI (tn A p)) := by
  obtain ⟨⟨hc1, hc2, hc3⟩, hcp, hcl⟩ := hC
  obtain ⟨⟨hw1, hw2, hw3, hw4, hw5, hw6, hw7, hw8⟩, hwp, hwl⟩ := id hW
  obtain ⟨e0, e1, e2, e3, e4, e5, e6, e7⟩ := hcp (p) (by omega)
  obtain ⟨⟨ek1, ek2⟩, ⟨er1, er2⟩, ew2, ew3, ew4, ew5, ew6, ew7⟩ := hwp (p) (by omega)
  refine Ok_of gmX6_tone (by omega) (Nat.le_of_ble_eq_true rfl) (fun X hX => ?_)
  show V E X 0 [some (vR 3), some (vI (p : Int)), none, none] [] g
  by_cases h1 : A 2 p = -1
  · skip
    refine k_aload_n hX.1 dX6_tone_0 rfl rfl ?_
    refine k_getr (t := 4) hX.1 dX6_tone_1 flX6_11 rfl (by decide) rfl rfl ?_
    refine k_iload_n hX.1 dX6_tone_4 rfl rfl ?_
    refine k_aaldP (j := p) (q := 6 + p) hX.1 dX6_tone_5 rfl (by omega) (n := 5) rfl (by omega) (by omega) rfl ?_
    refine k_astore_n hX.1 dX6_tone_6 rfl (by decide) rfl rfl ?_
    try simp only [List.set_cons_zero, List.set_cons_succ]
    refine k_aload_n hX.1 dX6_tone_7 rfl rfl ?_
    refine k_aload_n hX.1 dX6_tone_8 rfl rfl ?_
    refine k_geti hX.1 dX6_tone_9 flX6_79 (sk_P6 (by omega)) (by decide) rfl ?_
    refine k_callVf (d2 := 1) (n := 1) (as := [_]) hX.1 dX6_tone_12 lkX6_95 (fit_of hX (by omega) gmX6_hasLot) rfl rfl (by decide) rfl rfl rfl (Nat.le_of_ble_eq_true rfl) (cW_hasLot0 E g (by omega) (by omega) (by omega)) ?_
    refine k_if_ne (tgt := 20) hX.1 dX6_tone_15 (by decide) (by omega) (fun c_15 => ?_) (fun c_15 => ?_)
    · skip
      exact absurd rfl c_15
    · skip
      refine k_iconst hX.1 dX6_tone_18 ?_
      refine k_iret hX dX6_tone_19 rfl ?_
      refine ⟨?_, rfl⟩
      rw [tn, if_pos h1]
  · skip
    have f1 := hcl (A 2 p).toNat (by omega)
    obtain ⟨f1, f2, f3⟩ := f1
    by_cases h2 : A 3 p = -1
    · skip
      refine k_aload_n hX.1 dX6_tone_0 rfl rfl ?_
      refine k_getr (t := 4) hX.1 dX6_tone_1 flX6_11 rfl (by decide) rfl rfl ?_
      refine k_iload_n hX.1 dX6_tone_4 rfl rfl ?_
      refine k_aaldP (j := p) (q := 6 + p) hX.1 dX6_tone_5 rfl (by omega) (n := 5) rfl (by omega) (by omega) rfl ?_
      refine k_astore_n hX.1 dX6_tone_6 rfl (by decide) rfl rfl ?_
      try simp only [List.set_cons_zero, List.set_cons_succ]
      refine k_aload_n hX.1 dX6_tone_7 rfl rfl ?_
      refine k_aload_n hX.1 dX6_tone_8 rfl rfl ?_
      refine k_geti hX.1 dX6_tone_9 flX6_79 (sk_P6 (by omega)) (by decide) rfl ?_
      refine k_callVf (d2 := 1) (n := 1) (as := [_]) hX.1 dX6_tone_12 lkX6_95 (fit_of hX (by omega) gmX6_hasLot) rfl rfl (by decide) rfl rfl rfl (Nat.le_of_ble_eq_true rfl) (cW_hasLot1 E g (by omega) (by omega) (by omega)) ?_
      refine k_if_ne (tgt := 20) hX.1 dX6_tone_15 (by decide) (by omega) (fun c_15 => ?_) (fun c_15 => ?_)
      · skip
        refine k_aload_n hX.1 dX6_tone_20 rfl rfl ?_
        refine k_aload_n hX.1 dX6_tone_21 rfl rfl ?_
        refine k_geti hX.1 dX6_tone_22 flX6_82 (sk_P6 (by omega)) (by decide) rfl ?_
        refine k_callVf (d2 := 1) (n := 1) (as := [_]) hX.1 dX6_tone_25 lkX6_95 (fit_of hX (by omega) gmX6_hasLot) rfl rfl (by decide) rfl rfl rfl (Nat.le_of_ble_eq_true rfl) (cW_hasLot0 E g (by omega) (by omega) (by omega)) ?_
        refine k_if_eq (tgt := 38) hX.1 dX6_tone_28 (by decide) (by omega) (fun c_28 => ?_) (fun c_28 => ?_)
        · skip
          refine k_aload_n hX.1 dX6_tone_38 rfl rfl ?_
          refine k_geti hX.1 dX6_tone_39 flX6_79 (sk_P6 (by omega)) (by decide) rfl ?_
          refine k_istore_n hX.1 dX6_tone_42 rfl (by decide) rfl rfl ?_
          try simp only [List.set_cons_zero, List.set_cons_succ]
          refine k_aload_n hX.1 dX6_tone_43 rfl rfl ?_
          refine k_getr (t := 5) hX.1 dX6_tone_44 flX6_19 rfl (by decide) rfl rfl ?_
          refine k_aload_n hX.1 dX6_tone_47 rfl rfl ?_
          refine k_geti hX.1 dX6_tone_48 flX6_79 (sk_P6 (by omega)) (by decide) rfl ?_
          refine k_aaldL (j := (A 2 p).toNat) (q := 11 + (A 2 p).toNat) hX.1 dX6_tone_51 rfl (by omega) (n := 3) rfl (by omega) (by omega) rfl ?_
          refine k_geti hX.1 dX6_tone_52 flX6_105 (sk_L11 (by omega)) (by decide) rfl ?_
          refine k_aload_n hX.1 dX6_tone_55 rfl rfl ?_
          refine k_getr (t := 5) hX.1 dX6_tone_56 flX6_19 rfl (by decide) rfl rfl ?_
          refine k_iload_n hX.1 dX6_tone_59 rfl rfl ?_
          refine k_aaldL (j := (A 2 p).toNat) (q := 11 + (A 2 p).toNat) hX.1 dX6_tone_60 rfl (by omega) (n := 3) rfl (by omega) (by omega) rfl ?_
          refine k_geti hX.1 dX6_tone_61 flX6_105 (sk_L11 (by omega)) (by decide) rfl ?_
          refine k_iadd hX.1 dX6_tone_64 ?_
          refine k_iret hX dX6_tone_65 rfl ?_
          refine ⟨?_, rfl⟩
          rw [tn, if_neg h1, if_pos h2, f1]
        · skip
          exact absurd rfl c_28
      · skip
        exact absurd c_15 (by decide)
    · skip
      have q1 := hcl (A 3 p).toNat (by omega)
      obtain ⟨q1, q2, q3⟩ := q1
      refine k_aload_n hX.1 dX6_tone_0 rfl rfl ?_
      refine k_getr (t := 4) hX.1 dX6_tone_1 flX6_11 rfl (by decide) rfl rfl ?_
      refine k_iload_n hX.1 dX6_tone_4 rfl rfl ?_
      refine k_aaldP (j := p) (q := 6 + p) hX.1 dX6_tone_5 rfl (by omega) (n := 5) rfl (by omega) (by omega) rfl ?_
      refine k_astore_n hX.1 dX6_tone_6 rfl (by decide) rfl rfl ?_
      try simp only [List.set_cons_zero, List.set_cons_succ]
      refine k_aload_n hX.1 dX6_tone_7 rfl rfl ?_
      refine k_aload_n hX.1 dX6_tone_8 rfl rfl ?_
      refine k_geti hX.1 dX6_tone_9 flX6_79 (sk_P6 (by omega)) (by decide) rfl ?_
      refine k_callVf (d2 := 1) (n := 1) (as := [_]) hX.1 dX6_tone_12 lkX6_95 (fit_of hX (by omega) gmX6_hasLot) rfl rfl (by decide) rfl rfl rfl (Nat.le_of_ble_eq_true rfl) (cW_hasLot1 E g (by omega) (by omega) (by omega)) ?_
      refine k_if_ne (tgt := 20) hX.1 dX6_tone_15 (by decide) (by omega) (fun c_15 => ?_) (fun c_15 => ?_)
      · skip
        refine k_aload_n hX.1 dX6_tone_20 rfl rfl ?_
        refine k_aload_n hX.1 dX6_tone_21 rfl rfl ?_
        refine k_geti hX.1 dX6_tone_22 flX6_82 (sk_P6 (by omega)) (by decide) rfl ?_
        refine k_callVf (d2 := 1) (n := 1) (as := [_]) hX.1 dX6_tone_25 lkX6_95 (fit_of hX (by omega) gmX6_hasLot) rfl rfl (by decide) rfl rfl rfl (Nat.le_of_ble_eq_true rfl) (cW_hasLot1 E g (by omega) (by omega) (by omega)) ?_
        refine k_if_eq (tgt := 38) hX.1 dX6_tone_28 (by decide) (by omega) (fun c_28 => ?_) (fun c_28 => ?_)
        · skip
          exact absurd c_28 (by decide)
        · skip
          refine k_aload_n hX.1 dX6_tone_31 rfl rfl ?_
          refine k_geti hX.1 dX6_tone_32 flX6_82 (sk_P6 (by omega)) (by decide) rfl ?_
          refine k_goto (tgt := 42) hX.1 dX6_tone_35 (by decide) ?_
          refine k_istore_n hX.1 dX6_tone_42 rfl (by decide) rfl rfl ?_
          try simp only [List.set_cons_zero, List.set_cons_succ]
          refine k_aload_n hX.1 dX6_tone_43 rfl rfl ?_
          refine k_getr (t := 5) hX.1 dX6_tone_44 flX6_19 rfl (by decide) rfl rfl ?_
          refine k_aload_n hX.1 dX6_tone_47 rfl rfl ?_
          refine k_geti hX.1 dX6_tone_48 flX6_79 (sk_P6 (by omega)) (by decide) rfl ?_
          refine k_aaldL (j := (A 2 p).toNat) (q := 11 + (A 2 p).toNat) hX.1 dX6_tone_51 rfl (by omega) (n := 3) rfl (by omega) (by omega) rfl ?_
          refine k_geti hX.1 dX6_tone_52 flX6_105 (sk_L11 (by omega)) (by decide) rfl ?_
          refine k_aload_n hX.1 dX6_tone_55 rfl rfl ?_
          refine k_getr (t := 5) hX.1 dX6_tone_56 flX6_19 rfl (by decide) rfl rfl ?_
          refine k_iload_n hX.1 dX6_tone_59 rfl rfl ?_
          refine k_aaldL (j := (A 3 p).toNat) (q := 11 + (A 3 p).toNat) hX.1 dX6_tone_60 rfl (by omega) (n := 3) rfl (by omega) (by omega) rfl ?_
          refine k_geti hX.1 dX6_tone_61 flX6_105 (sk_L11 (by omega)) (by decide) rfl ?_
          refine k_iadd hX.1 dX6_tone_64 ?_
          refine k_iret hX dX6_tone_65 rfl ?_
          refine ⟨?_, rfl⟩
          rw [tn, if_neg h1, if_neg h2, f1, q1]
      · skip
        exact absurd c_15 (by decide)

set_option maxRecDepth 100000 in
set_option maxHeartbeats 4000000 in
theorem cW_seenWith (E : En) {A : St} {g : Mm} {n : Int} (hC : CW A g) (hW : WW A n) {p : Nat} (hp : (p : Int) + 1 < A 12 0) {a b : Int} (ha : -1 ≤ a ∧ a ≤ 100) (hb : -1 ≤ b ∧ b ≤ 100) : Fn E 2 mX6_seenWith [vR 3, vI (p : Int), vI a, vI b] g (vI (s2 A p a b)) := by
  obtain ⟨⟨hc1, hc2, hc3⟩, hcp, hcl⟩ := hC
  obtain ⟨⟨hw1, hw2, hw3, hw4, hw5, hw6, hw7, hw8⟩, hwp, hwl⟩ := id hW
  obtain ⟨e0, e1, e2, e3, e4, e5, e6, e7⟩ := hcp (p) (by omega)
  obtain ⟨⟨ek1, ek2⟩, ⟨er1, er2⟩, ew2, ew3, ew4, ew5, ew6, ew7⟩ := hwp (p) (by omega)
  obtain ⟨f0, f1, f2, f3, f4, f5, f6, f7⟩ := hcp (p + 1) (by omega)
  obtain ⟨⟨fk1, fk2⟩, ⟨fr1, fr2⟩, fw2, fw3, fw4, fw5, fw6, fw7⟩ := hwp (p + 1) (by omega)
  have l1 := lig_bd (g.1 (6 + p) 0)
  have l2 := lig_bd (g.1 (6 + (p + 1)) 0)
  refine Ok_of gmX6_seenWith (by omega) (Nat.le_of_ble_eq_true rfl) (fun X hX => ?_)
  show V E X 0 [some (vR 3), some (vI (p : Int)), some (vI a), some (vI b), none, none, none] [] g
  refine k_aload_n hX.1 dX6_seenWith_0 rfl rfl ?_
  refine k_iload_n hX.1 dX6_seenWith_1 rfl rfl ?_
  refine k_callVf (d2 := 1) (n := 1) (as := [_]) hX.1 dX6_seenWith_2 lkX6_108 (fit_of hX (by omega) gmX6_hasPart) rfl rfl (by decide) rfl rfl rfl (Nat.le_of_ble_eq_true rfl) (cW_hasPart1 E g (by omega) (by omega) (by omega)) ?_
  refine k_if_eq (tgt := 18) hX.1 dX6_seenWith_5 (by decide) (by omega) (fun c_5 => ?_) (fun c_5 => ?_)
  · skip
    exact absurd c_5 (by decide)
  · skip
    refine k_aload_n hX.1 dX6_seenWith_8 rfl rfl ?_
    refine k_iload_n hX.1 dX6_seenWith_9 rfl rfl ?_
    refine k_iconst hX.1 dX6_seenWith_10 ?_
    refine k_iadd hX.1 dX6_seenWith_11 ?_
    refine k_callVf (d2 := 1) (n := 1) (as := [_]) hX.1 dX6_seenWith_12 lkX6_108 (fit_of hX (by omega) gmX6_hasPart) rfl rfl (by decide) rfl rfl rfl (Nat.le_of_ble_eq_true rfl) (cW_hasPart1 E g (by omega) (by omega) (by omega)) ?_
    refine k_if_ne (tgt := 20) hX.1 dX6_seenWith_15 (by decide) (by omega) (fun c_15 => ?_) (fun c_15 => ?_)
    · skip
      refine k_aload_n hX.1 dX6_seenWith_20 rfl rfl ?_
      refine k_getr (t := 4) hX.1 dX6_seenWith_21 flX6_11 rfl (by decide) rfl rfl ?_
      refine k_iload_n hX.1 dX6_seenWith_24 rfl rfl ?_
      refine k_aaldP (j := p) (q := 6 + p) hX.1 dX6_seenWith_25 rfl (by omega) (n := 5) rfl (by omega) (by omega) rfl ?_
      refine k_astore hX.1 dX6_seenWith_26 (by decide) rfl rfl ?_
      try simp only [List.set_cons_zero, List.set_cons_succ]
      refine k_aload_n hX.1 dX6_seenWith_28 rfl rfl ?_
      refine k_getr (t := 4) hX.1 dX6_seenWith_29 flX6_11 rfl (by decide) rfl rfl ?_
      refine k_iload_n hX.1 dX6_seenWith_32 rfl rfl ?_
      refine k_iconst hX.1 dX6_seenWith_33 ?_
      refine k_iadd hX.1 dX6_seenWith_34 ?_
      refine k_aaldP (j := (p + 1)) (q := 6 + (p + 1)) hX.1 dX6_seenWith_35 rfl (by omega) (n := 5) rfl (by omega) (by omega) rfl ?_
      refine k_astore hX.1 dX6_seenWith_36 (by decide) rfl rfl ?_
      try simp only [List.set_cons_zero, List.set_cons_succ]
      refine k_iload_n hX.1 dX6_seenWith_38 rfl rfl ?_
      refine k_iload_n hX.1 dX6_seenWith_39 rfl rfl ?_
      refine k_isub hX.1 dX6_seenWith_40 ?_
      refine k_abs hX.1 dX6_seenWith_41 lkX6_111 (by omega) (Nat.le_of_ble_eq_true rfl) ?_
      refine k_aload hX.1 dX6_seenWith_44 rfl ?_
      refine k_callVf (d2 := 1) (n := 0) (as := []) hX.1 dX6_seenWith_46 lkX6_114 (fit_of hX (by omega) gmX4_light) rfl (sk_P6 (by omega)) (by decide) rfl rfl rfl (Nat.le_of_ble_eq_true rfl) (cP_light E g (by omega) (by omega)) ?_
      refine k_aload hX.1 dX6_seenWith_49 rfl ?_
      refine k_callVf (d2 := 1) (n := 0) (as := []) hX.1 dX6_seenWith_51 lkX6_114 (fit_of hX (by omega) gmX4_light) rfl (sk_P6 (by omega)) (by decide) rfl rfl rfl (Nat.le_of_ble_eq_true rfl) (cP_light E g (by omega) (by omega)) ?_
      refine k_min hX.1 dX6_seenWith_54 lkX6_31 (by omega) (by omega) (Nat.le_of_ble_eq_true rfl) ?_
      refine k_imul hX.1 dX6_seenWith_57 ?_
      refine k_istore hX.1 dX6_seenWith_58 (by decide) rfl rfl ?_
      try simp only [List.set_cons_zero, List.set_cons_succ]
      refine k_aload hX.1 dX6_seenWith_60 rfl ?_
      refine k_geti hX.1 dX6_seenWith_62 flX6_117 (sk_P6 (by omega)) (by decide) rfl ?_
      refine k_iconst hX.1 dX6_seenWith_65 ?_
      refine k_icmp_ne (tgt := 85) hX.1 dX6_seenWith_66 (by decide) (by omega) (by omega) (fun c_66 => ?_) (fun c_66 => ?_)
      · skip
        refine k_iload hX.1 dX6_seenWith_85 rfl ?_
        refine k_iret hX dX6_seenWith_87 rfl ?_
        refine ⟨?_, rfl⟩
        unfold s2
        simp only [e0, f0] at *
        first | (rw [if_pos (by omega), Int.mul_comm 2]) | (rw [if_neg (by omega), Int.mul_one])
      · skip
        refine k_aload hX.1 dX6_seenWith_69 rfl ?_
        refine k_geti hX.1 dX6_seenWith_71 flX6_117 (sk_P6 (by omega)) (by decide) rfl ?_
        refine k_iconst hX.1 dX6_seenWith_74 ?_
        refine k_icmp_ne (tgt := 85) hX.1 dX6_seenWith_75 (by decide) (by omega) (by omega) (fun c_75 => ?_) (fun c_75 => ?_)
        · skip
          refine k_iload hX.1 dX6_seenWith_85 rfl ?_
          refine k_iret hX dX6_seenWith_87 rfl ?_
          refine ⟨?_, rfl⟩
          unfold s2
          simp only [e0, f0] at *
          first | (rw [if_pos (by omega), Int.mul_comm 2]) | (rw [if_neg (by omega), Int.mul_one])
        · skip
          refine k_iconst hX.1 dX6_seenWith_78 ?_
          refine k_iload hX.1 dX6_seenWith_79 rfl ?_
          refine k_imul hX.1 dX6_seenWith_81 ?_
          refine k_goto (tgt := 87) hX.1 dX6_seenWith_82 (by decide) ?_
          refine k_iret hX dX6_seenWith_87 rfl ?_
          refine ⟨?_, rfl⟩
          unfold s2
          simp only [e0, f0] at *
          first | (rw [if_pos (by omega), Int.mul_comm 2]) | (rw [if_neg (by omega), Int.mul_one])
    · skip
      exact absurd c_15 (by decide)

set_option maxRecDepth 100000 in
set_option maxHeartbeats 4000000 in
theorem cW_seenNext (E : En) {A : St} {g : Mm} {n : Int} (hC : CW A g) (hW : WW A n) {p : Nat} (hp : (p : Int) < A 12 0) : Fn E 3 mX6_seenNext [vR 3, vI (p : Int)] g (vI (sN A p)) := by
  have hC0 := hC
  obtain ⟨⟨hc1, hc2, hc3⟩, hcp, hcl⟩ := hC
  obtain ⟨⟨hw1, hw2, hw3, hw4, hw5, hw6, hw7, hw8⟩, hwp, hwl⟩ := id hW
  obtain ⟨e0, e1, e2, e3, e4, e5, e6, e7⟩ := hcp (p) (by omega)
  obtain ⟨⟨ek1, ek2⟩, ⟨er1, er2⟩, ew2, ew3, ew4, ew5, ew6, ew7⟩ := hwp (p) (by omega)
  refine Ok_of gmX6_seenNext (by omega) (Nat.le_of_ble_eq_true rfl) (fun X hX => ?_)
  show V E X 0 [some (vR 3), some (vI (p : Int))] [] g
  by_cases h1 : (p : Int) + 1 < A 12 0
  · skip
    obtain ⟨f0, f1, f2, f3, f4, f5, f6, f7⟩ := hcp (p + 1) (by omega)
    obtain ⟨⟨fk1, fk2⟩, ⟨fr1, fr2⟩, fw2, fw3, fw4, fw5, fw6, fw7⟩ := hwp (p + 1) (by omega)
    by_cases h2 : A 2 p = -1
    · skip
      refine k_aload_n hX.1 dX6_seenNext_0 rfl rfl ?_
      refine k_iload_n hX.1 dX6_seenNext_1 rfl rfl ?_
      refine k_callVf (d2 := 1) (n := 1) (as := [_]) hX.1 dX6_seenNext_2 lkX6_108 (fit_of hX (by omega) gmX6_hasPart) rfl rfl (by decide) rfl rfl rfl (Nat.le_of_ble_eq_true rfl) (cW_hasPart1 E g (by omega) (by omega) (by omega)) ?_
      refine k_if_eq (tgt := 18) hX.1 dX6_seenNext_5 (by decide) (by omega) (fun c_5 => ?_) (fun c_5 => ?_)
      · skip
        exact absurd c_5 (by decide)
      · skip
        refine k_aload_n hX.1 dX6_seenNext_8 rfl rfl ?_
        refine k_iload_n hX.1 dX6_seenNext_9 rfl rfl ?_
        refine k_iconst hX.1 dX6_seenNext_10 ?_
        refine k_iadd hX.1 dX6_seenNext_11 ?_
        refine k_callVf (d2 := 1) (n := 1) (as := [_]) hX.1 dX6_seenNext_12 lkX6_108 (fit_of hX (by omega) gmX6_hasPart) rfl rfl (by decide) rfl rfl rfl (Nat.le_of_ble_eq_true rfl) (cW_hasPart1 E g (by omega) (by omega) (by omega)) ?_
        refine k_if_ne (tgt := 20) hX.1 dX6_seenNext_15 (by decide) (by omega) (fun c_15 => ?_) (fun c_15 => ?_)
        · skip
          refine k_aload_n hX.1 dX6_seenNext_20 rfl rfl ?_
          refine k_getr (t := 4) hX.1 dX6_seenNext_21 flX6_11 rfl (by decide) rfl rfl ?_
          refine k_iload_n hX.1 dX6_seenNext_24 rfl rfl ?_
          refine k_aaldP (j := p) (q := 6 + p) hX.1 dX6_seenNext_25 rfl (by omega) (n := 5) rfl (by omega) (by omega) rfl ?_
          refine k_callVf (d2 := 1) (n := 0) (as := []) hX.1 dX6_seenNext_26 lkX6_120 (fit_of hX (by omega) gmX4_isKnitted) rfl (sk_P6 (by omega)) (by decide) rfl rfl rfl (Nat.le_of_ble_eq_true rfl) (cP_isKnitted E g (by omega) (by omega)) ?_
          refine k_if_eq (tgt := 46) hX.1 dX6_seenNext_29 (by decide) (by split <;> omega) (fun c_29 => ?_) (fun c_29 => ?_)
          · skip
            refine k_iconst hX.1 dX6_seenNext_46 ?_
            refine k_iret hX dX6_seenNext_47 rfl ?_
            refine ⟨?_, rfl⟩
            rw [sN, if_neg (fun q => q.2.1 h2)]
          · skip
            exact absurd (if_pos (by omega)) c_29
        · skip
          exact absurd c_15 (by decide)
    · skip
      by_cases h3 : A 2 (p + 1) = -1
      · skip
        refine k_aload_n hX.1 dX6_seenNext_0 rfl rfl ?_
        refine k_iload_n hX.1 dX6_seenNext_1 rfl rfl ?_
        refine k_callVf (d2 := 1) (n := 1) (as := [_]) hX.1 dX6_seenNext_2 lkX6_108 (fit_of hX (by omega) gmX6_hasPart) rfl rfl (by decide) rfl rfl rfl (Nat.le_of_ble_eq_true rfl) (cW_hasPart1 E g (by omega) (by omega) (by omega)) ?_
        refine k_if_eq (tgt := 18) hX.1 dX6_seenNext_5 (by decide) (by omega) (fun c_5 => ?_) (fun c_5 => ?_)
        · skip
          exact absurd c_5 (by decide)
        · skip
          refine k_aload_n hX.1 dX6_seenNext_8 rfl rfl ?_
          refine k_iload_n hX.1 dX6_seenNext_9 rfl rfl ?_
          refine k_iconst hX.1 dX6_seenNext_10 ?_
          refine k_iadd hX.1 dX6_seenNext_11 ?_
          refine k_callVf (d2 := 1) (n := 1) (as := [_]) hX.1 dX6_seenNext_12 lkX6_108 (fit_of hX (by omega) gmX6_hasPart) rfl rfl (by decide) rfl rfl rfl (Nat.le_of_ble_eq_true rfl) (cW_hasPart1 E g (by omega) (by omega) (by omega)) ?_
          refine k_if_ne (tgt := 20) hX.1 dX6_seenNext_15 (by decide) (by omega) (fun c_15 => ?_) (fun c_15 => ?_)
          · skip
            refine k_aload_n hX.1 dX6_seenNext_20 rfl rfl ?_
            refine k_getr (t := 4) hX.1 dX6_seenNext_21 flX6_11 rfl (by decide) rfl rfl ?_
            refine k_iload_n hX.1 dX6_seenNext_24 rfl rfl ?_
            refine k_aaldP (j := p) (q := 6 + p) hX.1 dX6_seenNext_25 rfl (by omega) (n := 5) rfl (by omega) (by omega) rfl ?_
            refine k_callVf (d2 := 1) (n := 0) (as := []) hX.1 dX6_seenNext_26 lkX6_120 (fit_of hX (by omega) gmX4_isKnitted) rfl (sk_P6 (by omega)) (by decide) rfl rfl rfl (Nat.le_of_ble_eq_true rfl) (cP_isKnitted E g (by omega) (by omega)) ?_
            refine k_if_eq (tgt := 46) hX.1 dX6_seenNext_29 (by decide) (by split <;> omega) (fun c_29 => ?_) (fun c_29 => ?_)
            · skip
              rw [if_neg (by omega)] at c_29; exact absurd c_29 (by decide)
            · skip
              refine k_aload_n hX.1 dX6_seenNext_32 rfl rfl ?_
              refine k_getr (t := 4) hX.1 dX6_seenNext_33 flX6_11 rfl (by decide) rfl rfl ?_
              refine k_iload_n hX.1 dX6_seenNext_36 rfl rfl ?_
              refine k_iconst hX.1 dX6_seenNext_37 ?_
              refine k_iadd hX.1 dX6_seenNext_38 ?_
              refine k_aaldP (j := (p + 1)) (q := 6 + (p + 1)) hX.1 dX6_seenNext_39 rfl (by omega) (n := 5) rfl (by omega) (by omega) rfl ?_
              refine k_callVf (d2 := 1) (n := 0) (as := []) hX.1 dX6_seenNext_40 lkX6_120 (fit_of hX (by omega) gmX4_isKnitted) rfl (sk_P6 (by omega)) (by decide) rfl rfl rfl (Nat.le_of_ble_eq_true rfl) (cP_isKnitted E g (by omega) (by omega)) ?_
              refine k_if_ne (tgt := 48) hX.1 dX6_seenNext_43 (by decide) (by split <;> omega) (fun c_43 => ?_) (fun c_43 => ?_)
              · skip
                exact absurd (if_pos (by omega)) c_43
              · skip
                refine k_iconst hX.1 dX6_seenNext_46 ?_
                refine k_iret hX dX6_seenNext_47 rfl ?_
                refine ⟨?_, rfl⟩
                rw [sN, if_neg (fun q => q.2.2 h3)]
          · skip
            exact absurd c_15 (by decide)
      · skip
        have b1 := (tn_bd hW hp).2 h2
        have b2 := (tn_bd hW (p := p + 1) (by omega)).2 h3
        refine k_aload_n hX.1 dX6_seenNext_0 rfl rfl ?_
        refine k_iload_n hX.1 dX6_seenNext_1 rfl rfl ?_
        refine k_callVf (d2 := 1) (n := 1) (as := [_]) hX.1 dX6_seenNext_2 lkX6_108 (fit_of hX (by omega) gmX6_hasPart) rfl rfl (by decide) rfl rfl rfl (Nat.le_of_ble_eq_true rfl) (cW_hasPart1 E g (by omega) (by omega) (by omega)) ?_
        refine k_if_eq (tgt := 18) hX.1 dX6_seenNext_5 (by decide) (by omega) (fun c_5 => ?_) (fun c_5 => ?_)
        · skip
          exact absurd c_5 (by decide)
        · skip
          refine k_aload_n hX.1 dX6_seenNext_8 rfl rfl ?_
          refine k_iload_n hX.1 dX6_seenNext_9 rfl rfl ?_
          refine k_iconst hX.1 dX6_seenNext_10 ?_
          refine k_iadd hX.1 dX6_seenNext_11 ?_
          refine k_callVf (d2 := 1) (n := 1) (as := [_]) hX.1 dX6_seenNext_12 lkX6_108 (fit_of hX (by omega) gmX6_hasPart) rfl rfl (by decide) rfl rfl rfl (Nat.le_of_ble_eq_true rfl) (cW_hasPart1 E g (by omega) (by omega) (by omega)) ?_
          refine k_if_ne (tgt := 20) hX.1 dX6_seenNext_15 (by decide) (by omega) (fun c_15 => ?_) (fun c_15 => ?_)
          · skip
            refine k_aload_n hX.1 dX6_seenNext_20 rfl rfl ?_
            refine k_getr (t := 4) hX.1 dX6_seenNext_21 flX6_11 rfl (by decide) rfl rfl ?_
            refine k_iload_n hX.1 dX6_seenNext_24 rfl rfl ?_
            refine k_aaldP (j := p) (q := 6 + p) hX.1 dX6_seenNext_25 rfl (by omega) (n := 5) rfl (by omega) (by omega) rfl ?_
            refine k_callVf (d2 := 1) (n := 0) (as := []) hX.1 dX6_seenNext_26 lkX6_120 (fit_of hX (by omega) gmX4_isKnitted) rfl (sk_P6 (by omega)) (by decide) rfl rfl rfl (Nat.le_of_ble_eq_true rfl) (cP_isKnitted E g (by omega) (by omega)) ?_
            refine k_if_eq (tgt := 46) hX.1 dX6_seenNext_29 (by decide) (by split <;> omega) (fun c_29 => ?_) (fun c_29 => ?_)
            · skip
              rw [if_neg (by omega)] at c_29; exact absurd c_29 (by decide)
            · skip
              refine k_aload_n hX.1 dX6_seenNext_32 rfl rfl ?_
              refine k_getr (t := 4) hX.1 dX6_seenNext_33 flX6_11 rfl (by decide) rfl rfl ?_
              refine k_iload_n hX.1 dX6_seenNext_36 rfl rfl ?_
              refine k_iconst hX.1 dX6_seenNext_37 ?_
              refine k_iadd hX.1 dX6_seenNext_38 ?_
              refine k_aaldP (j := (p + 1)) (q := 6 + (p + 1)) hX.1 dX6_seenNext_39 rfl (by omega) (n := 5) rfl (by omega) (by omega) rfl ?_
              refine k_callVf (d2 := 1) (n := 0) (as := []) hX.1 dX6_seenNext_40 lkX6_120 (fit_of hX (by omega) gmX4_isKnitted) rfl (sk_P6 (by omega)) (by decide) rfl rfl rfl (Nat.le_of_ble_eq_true rfl) (cP_isKnitted E g (by omega) (by omega)) ?_
              refine k_if_ne (tgt := 48) hX.1 dX6_seenNext_43 (by decide) (by split <;> omega) (fun c_43 => ?_) (fun c_43 => ?_)
              · skip
                refine k_aload_n hX.1 dX6_seenNext_48 rfl rfl ?_
                refine k_iload_n hX.1 dX6_seenNext_49 rfl rfl ?_
                refine k_aload_n hX.1 dX6_seenNext_50 rfl rfl ?_
                refine k_iload_n hX.1 dX6_seenNext_51 rfl rfl ?_
                refine k_callVf (d2 := 2) (n := 1) (as := [_]) hX.1 dX6_seenNext_52 lkX6_124 (fit_of hX (by omega) gmX6_tone) rfl rfl (by decide) rfl rfl rfl (Nat.le_of_ble_eq_true rfl) (cW_tone E hC0 hW (p := p) (by omega)) ?_
                refine k_aload_n hX.1 dX6_seenNext_55 rfl rfl ?_
                refine k_iload_n hX.1 dX6_seenNext_56 rfl rfl ?_
                refine k_iconst hX.1 dX6_seenNext_57 ?_
                refine k_iadd hX.1 dX6_seenNext_58 ?_
                refine k_callVf (d2 := 2) (n := 1) (as := [_]) hX.1 dX6_seenNext_59 lkX6_124 (fit_of hX (by omega) gmX6_tone) rfl rfl (by decide) rfl rfl rfl (Nat.le_of_ble_eq_true rfl) (cW_tone E hC0 hW (p := p + 1) (by omega)) ?_
                refine k_callVf (d2 := 2) (n := 3) (as := [_, _, _]) hX.1 dX6_seenNext_62 lkX6_127 (fit_of hX (by omega) gmX6_seenWith) rfl rfl (by decide) rfl rfl rfl (Nat.le_of_ble_eq_true rfl) (cW_seenWith E hC0 hW (p := p) (by omega) (by omega) (by omega)) ?_
                refine k_iret hX dX6_seenNext_65 rfl ?_
                refine ⟨?_, rfl⟩
                rw [sN, if_pos ⟨h1, h2, h3⟩]
              · skip
                rw [if_neg (by omega)] at c_43; exact absurd c_43 (by decide)
          · skip
            exact absurd c_15 (by decide)
  · skip
    refine k_aload_n hX.1 dX6_seenNext_0 rfl rfl ?_
    refine k_iload_n hX.1 dX6_seenNext_1 rfl rfl ?_
    refine k_callVf (d2 := 1) (n := 1) (as := [_]) hX.1 dX6_seenNext_2 lkX6_108 (fit_of hX (by omega) gmX6_hasPart) rfl rfl (by decide) rfl rfl rfl (Nat.le_of_ble_eq_true rfl) (cW_hasPart1 E g (by omega) (by omega) (by omega)) ?_
    refine k_if_eq (tgt := 18) hX.1 dX6_seenNext_5 (by decide) (by omega) (fun c_5 => ?_) (fun c_5 => ?_)
    · skip
      exact absurd c_5 (by decide)
    · skip
      refine k_aload_n hX.1 dX6_seenNext_8 rfl rfl ?_
      refine k_iload_n hX.1 dX6_seenNext_9 rfl rfl ?_
      refine k_iconst hX.1 dX6_seenNext_10 ?_
      refine k_iadd hX.1 dX6_seenNext_11 ?_
      refine k_callVf (d2 := 1) (n := 1) (as := [_]) hX.1 dX6_seenNext_12 lkX6_108 (fit_of hX (by omega) gmX6_hasPart) rfl rfl (by decide) rfl rfl rfl (Nat.le_of_ble_eq_true rfl) (cW_hasPart0 E g (by omega) (by omega) (by omega)) ?_
      refine k_if_ne (tgt := 20) hX.1 dX6_seenNext_15 (by decide) (by omega) (fun c_15 => ?_) (fun c_15 => ?_)
      · skip
        exact absurd rfl c_15
      · skip
        refine k_iconst hX.1 dX6_seenNext_18 ?_
        refine k_iret hX dX6_seenNext_19 rfl ?_
        refine ⟨?_, rfl⟩
        rw [sN, if_neg (fun q => h1 q.1)]
