set_option maxRecDepth 100000 in
set_option maxHeartbeats 4000000 in
theorem c7_about (E : En) {A : St} {g : Mm} {n : Int} (hR : RC A g) (hW : Wf A n) {q w : Int} (hq : bd q) (hw : bd w) : Ok E 5 mX7_about [vR 0, vI q, vI w] g (fun r g' => r = some (vI (rAbout A q w)) ∧ RC (A) g' ∧ sameM g g') := by
  have hC0 := hR.1
  have hW0 := hW.1
  obtain ⟨⟨⟨hc1, hc2, hc3⟩, hcp, hcl⟩, ⟨hg1, hg2⟩, ⟨ht1, ht2, ht3⟩, hck, hcb⟩ := id hR
  obtain ⟨⟨⟨hw1, hw2, hw3, hw4, hw5, hw6, hw7, hw8⟩, hwp, hwl⟩, ⟨hq1, hq2, hq3⟩, ⟨hz1, ⟨hz2, hz3⟩, ⟨hz4, hz5⟩⟩, hwk⟩ := id hW
  refine Ok_of gmX7_about (by omega) (Nat.le_of_ble_eq_true rfl) (fun X hX => ?_)
  show V E X 0 [some (vR 0), some (vI q), some (vI w)] [] g
  by_cases hin : 0 ≤ q ∧ q < A 12 0
  · skip
    obtain ⟨p, rfl⟩ : ∃ m : Nat, q = (m : Int) := ⟨q.toNat, by omega⟩
    refine k_aload_n hX.1 dX7_about_0 rfl rfl ?_
    refine k_getr (t := 3) hX.1 dX7_about_1 flX7_19 rfl (by decide) rfl rfl ?_
    refine k_iload_n hX.1 dX7_about_4 rfl rfl ?_
    refine k_callVf (d2 := 1) (n := 1) (as := [_]) hX.1 dX7_about_5 lkX7_77 (fit_of hX (by omega) gmX6_hasPart) rfl rfl (by decide) rfl rfl rfl (Nat.le_of_ble_eq_true rfl) (cW_hasPart1 E g (by omega) (by omega) (by omega)) ?_
    refine k_if_ne (tgt := 14) hX.1 dX7_about_8 (by decide) (by omega) (fun c_8 => ?_) (fun c_8 => ?_)
    · skip
      refine k_iload_n hX.1 dX7_about_14 rfl rfl ?_
      refine k_if_lt (tgt := 24) hX.1 dX7_about_15 (by decide) (by omega) (fun c_15 => ?_) (fun c_15 => ?_)
      · skip
        refine k_bipush hX.1 dX7_about_24 (by decide) ?_
        refine k_iret hX dX7_about_26 rfl ?_
        refine ⟨?_, hR, sameM.rf g⟩
        congr 2
        unfold rAbout
        (repeat first | rw [if_pos (by omega)] | rw [if_neg (by omega)])
        try rw [Int.toNat_natCast]
      · skip
        refine k_iload_n hX.1 dX7_about_18 rfl rfl ?_
        refine k_bipush hX.1 dX7_about_19 (by decide) ?_
        refine k_icmp_le (tgt := 27) hX.1 dX7_about_21 (by decide) (by omega) (by omega) (fun c_21 => ?_) (fun c_21 => ?_)
        · skip
          refine k_aload_n hX.1 dX7_about_27 rfl rfl ?_
          refine k_getr (t := 3) hX.1 dX7_about_28 flX7_19 rfl (by decide) rfl rfl ?_
          refine k_iload_n hX.1 dX7_about_31 rfl rfl ?_
          refine k_iload_n hX.1 dX7_about_32 rfl rfl ?_
          refine k_callVf (d2 := 4) (n := 2) (as := [_, _]) hX.1 dX7_about_33 lkX7_81 (fit_of hX (by omega) gmX6_tellPart) rfl rfl (by decide) rfl rfl rfl (Nat.le_of_ble_eq_true rfl) (cW_tellPart E hC0 hW0 (p := p) (by omega) (by omega)) ?_
          refine k_iret hX dX7_about_36 rfl ?_
          refine ⟨?_, hR, sameM.rf g⟩
          congr 2
          unfold rAbout
          (repeat first | rw [if_pos (by omega)] | rw [if_neg (by omega)])
          try rw [Int.toNat_natCast]
        · skip
          refine k_bipush hX.1 dX7_about_24 (by decide) ?_
          refine k_iret hX dX7_about_26 rfl ?_
          refine ⟨?_, hR, sameM.rf g⟩
          congr 2
          unfold rAbout
          (repeat first | rw [if_pos (by omega)] | rw [if_neg (by omega)])
          try rw [Int.toNat_natCast]
    · skip
      exact absurd c_8 (by decide)
  · skip
    refine k_aload_n hX.1 dX7_about_0 rfl rfl ?_
    refine k_getr (t := 3) hX.1 dX7_about_1 flX7_19 rfl (by decide) rfl rfl ?_
    refine k_iload_n hX.1 dX7_about_4 rfl rfl ?_
    refine k_callVf (d2 := 1) (n := 1) (as := [_]) hX.1 dX7_about_5 lkX7_77 (fit_of hX (by omega) gmX6_hasPart) rfl rfl (by decide) rfl rfl rfl (Nat.le_of_ble_eq_true rfl) (cW_hasPart0 E g (by omega) (by omega) (by omega)) ?_
    refine k_if_ne (tgt := 14) hX.1 dX7_about_8 (by decide) (by omega) (fun c_8 => ?_) (fun c_8 => ?_)
    · skip
      exact absurd rfl c_8
    · skip
      refine k_bipush hX.1 dX7_about_11 (by decide) ?_
      refine k_iret hX dX7_about_13 rfl ?_
      refine ⟨?_, hR, sameM.rf g⟩
      congr 2
      unfold rAbout
      (repeat first | rw [if_pos (by omega)] | rw [if_neg (by omega)])
      skip

theorem fs85 : Cond.fieldLink RX7 85 "DyeLots" "LIGHTS" "[I" ∈ TB := inTB 466 (by decide +kernel) (by decide +kernel)
set_option maxRecDepth 100000 in
set_option maxHeartbeats 4000000 in
theorem c7_as (E : En) {A : St} {g : Mm} {n : Int} (hR : RC A g) (hW : Wf A n) {q w : Int} (hq : bd q) (hw : bd w) : Ok E 5 mX7_as [vR 0, vI q, vI w] g (fun r g' => r = some (vI (rAs A q w)) ∧ RC (A) g' ∧ sameM g g') := by
  have hC0 := hR.1
  have hW0 := hW.1
  obtain ⟨⟨⟨hc1, hc2, hc3⟩, hcp, hcl⟩, ⟨hg1, hg2⟩, ⟨ht1, ht2, ht3⟩, hck, hcb⟩ := id hR
  obtain ⟨⟨⟨hw1, hw2, hw3, hw4, hw5, hw6, hw7, hw8⟩, hwp, hwl⟩, ⟨hq1, hq2, hq3⟩, ⟨hz1, ⟨hz2, hz3⟩, ⟨hz4, hz5⟩⟩, hwk⟩ := id hW
  refine Ok_of gmX7_as (by omega) (Nat.le_of_ble_eq_true rfl) (fun X hX => ?_)
  show V E X 0 [some (vR 0), some (vI q), some (vI w)] [] g
  by_cases hin : 0 ≤ q ∧ q < A 12 0
  · skip
    obtain ⟨p, rfl⟩ : ∃ m : Nat, q = (m : Int) := ⟨q.toNat, by omega⟩
    obtain ⟨e0, e1, e2, e3, e4, e5, e6, e7⟩ := hcp (p) (by omega)
    obtain ⟨⟨ek1, ek2⟩, ⟨er1, er2⟩, ew2, ew3, ew4, ew5, ew6, ew7⟩ := hwp (p) (by omega)
    refine k_aload_n hX.1 dX7_as_0 rfl rfl ?_
    refine k_getr (t := 3) hX.1 dX7_as_1 flX7_19 rfl (by decide) rfl rfl ?_
    refine k_iload_n hX.1 dX7_as_4 rfl rfl ?_
    refine k_callVf (d2 := 1) (n := 1) (as := [_]) hX.1 dX7_as_5 lkX7_77 (fit_of hX (by omega) gmX6_hasPart) rfl rfl (by decide) rfl rfl rfl (Nat.le_of_ble_eq_true rfl) (cW_hasPart1 E g (by omega) (by omega) (by omega)) ?_
    refine k_if_ne (tgt := 14) hX.1 dX7_as_8 (by decide) (by omega) (fun c_8 => ?_) (fun c_8 => ?_)
    · skip
      refine k_iload_n hX.1 dX7_as_14 rfl rfl ?_
      refine k_if_lt (tgt := 26) hX.1 dX7_as_15 (by decide) (by omega) (fun c_15 => ?_) (fun c_15 => ?_)
      · skip
        refine k_bipush hX.1 dX7_as_26 (by decide) ?_
        refine k_iret hX dX7_as_28 rfl ?_
        refine ⟨?_, hR, sameM.rf g⟩
        congr 2
        unfold rAs
        rw [Int.toNat_natCast]
        (repeat first | rw [if_pos (by omega)] | rw [if_neg (by omega)])
      · skip
        refine k_iload_n hX.1 dX7_as_18 rfl rfl ?_
        refine k_gsL hX.1 dX7_as_19 fs85 ?_
        refine k_clen hX.1 dX7_as_22 ?_
        refine k_icmp_lt (tgt := 29) hX.1 dX7_as_23 (by decide) (by omega) (by omega) (fun c_23 => ?_) (fun c_23 => ?_)
        · skip
          refine k_aload_n hX.1 dX7_as_29 rfl rfl ?_
          refine k_getr (t := 3) hX.1 dX7_as_30 flX7_19 rfl (by decide) rfl rfl ?_
          refine k_getr (t := 4) hX.1 dX7_as_33 flX7_89 rfl (by decide) rfl rfl ?_
          refine k_iload_n hX.1 dX7_as_36 rfl rfl ?_
          refine k_aaldP (j := p) (q := 6 + p) hX.1 dX7_as_37 rfl (by omega) (n := 5) rfl (by omega) (by omega) rfl ?_
          refine k_iload_n hX.1 dX7_as_38 rfl rfl ?_
          refine k_callVf (d2 := 1) (n := 1) (as := [_]) hX.1 dX7_as_39 lkX7_93 (fit_of hX (by omega) gmX4_isOf) rfl (sk_P6 (by omega)) (by decide) rfl rfl rfl (Nat.le_of_ble_eq_true rfl) (cP_isOf E g (p := p) (by omega) (by omega) (by omega)) ?_
          refine k_if_eq (tgt := 49) hX.1 dX7_as_42 (by decide) (by split <;> omega) (fun c_42 => ?_) (fun c_42 => ?_)
          · skip
            have h0 : ¬ (w = 0 ∨ w = A 0 p ∨ (A 0 p = 4 ∧ w = 3)) := by
              intro z; rw [if_pos (by omega)] at c_42; exact absurd c_42 (by decide)
            refine k_iconst hX.1 dX7_as_49 ?_
            refine k_iret hX dX7_as_50 rfl ?_
            refine ⟨?_, hR, sameM.rf g⟩
            congr 2
            unfold rAs
            rw [Int.toNat_natCast]
            (repeat first | rw [if_pos (by omega)] | rw [if_neg (by omega)])
          · skip
            have h0 : (w = 0 ∨ w = A 0 p ∨ (A 0 p = 4 ∧ w = 3)) := by
              apply Classical.byContradiction; intro z; exact c_42 (if_neg (by omega))
            refine k_iload_n hX.1 dX7_as_45 rfl rfl ?_
            refine k_goto (tgt := 50) hX.1 dX7_as_46 (by decide) ?_
            refine k_iret hX dX7_as_50 rfl ?_
            refine ⟨?_, hR, sameM.rf g⟩
            congr 2
            unfold rAs
            rw [Int.toNat_natCast]
            (repeat first | rw [if_pos (by omega)] | rw [if_neg (by omega)])
        · skip
          refine k_bipush hX.1 dX7_as_26 (by decide) ?_
          refine k_iret hX dX7_as_28 rfl ?_
          refine ⟨?_, hR, sameM.rf g⟩
          congr 2
          unfold rAs
          rw [Int.toNat_natCast]
          (repeat first | rw [if_pos (by omega)] | rw [if_neg (by omega)])
    · skip
      exact absurd c_8 (by decide)
  · skip
    refine k_aload_n hX.1 dX7_as_0 rfl rfl ?_
    refine k_getr (t := 3) hX.1 dX7_as_1 flX7_19 rfl (by decide) rfl rfl ?_
    refine k_iload_n hX.1 dX7_as_4 rfl rfl ?_
    refine k_callVf (d2 := 1) (n := 1) (as := [_]) hX.1 dX7_as_5 lkX7_77 (fit_of hX (by omega) gmX6_hasPart) rfl rfl (by decide) rfl rfl rfl (Nat.le_of_ble_eq_true rfl) (cW_hasPart0 E g (by omega) (by omega) (by omega)) ?_
    refine k_if_ne (tgt := 14) hX.1 dX7_as_8 (by decide) (by omega) (fun c_8 => ?_) (fun c_8 => ?_)
    · skip
      exact absurd rfl c_8
    · skip
      refine k_bipush hX.1 dX7_as_11 (by decide) ?_
      refine k_iret hX dX7_as_13 rfl ?_
      refine ⟨?_, hR, sameM.rf g⟩
      congr 2
      unfold rAs
      (repeat first | rw [if_pos (by omega)] | rw [if_neg (by omega)])
      skip

set_option maxRecDepth 100000 in
set_option maxHeartbeats 4000000 in
theorem c7_lotOf (E : En) {A : St} {g : Mm} {n : Int} (hR : RC A g) (hW : Wf A n) {q w : Int} (hq : bd q) (hw : bd w) : Ok E 5 mX7_lotOf [vR 0, vI q, vI w] g (fun r g' => r = some (vI (rLotOf A q w)) ∧ RC (A) g' ∧ sameM g g') := by
  have hC0 := hR.1
  have hW0 := hW.1
  obtain ⟨⟨⟨hc1, hc2, hc3⟩, hcp, hcl⟩, ⟨hg1, hg2⟩, ⟨ht1, ht2, ht3⟩, hck, hcb⟩ := id hR
  obtain ⟨⟨⟨hw1, hw2, hw3, hw4, hw5, hw6, hw7, hw8⟩, hwp, hwl⟩, ⟨hq1, hq2, hq3⟩, ⟨hz1, ⟨hz2, hz3⟩, ⟨hz4, hz5⟩⟩, hwk⟩ := id hW
  refine Ok_of gmX7_lotOf (by omega) (Nat.le_of_ble_eq_true rfl) (fun X hX => ?_)
  show V E X 0 [some (vR 0), some (vI q), some (vI w)] [] g
  by_cases hin : 0 ≤ q ∧ q < A 12 2
  · skip
    obtain ⟨t, rfl⟩ : ∃ m : Nat, q = (m : Int) := ⟨q.toNat, by omega⟩
    obtain ⟨e0, e1, e2⟩ := hcl (t) (by omega)
    obtain ⟨⟨ea, eb⟩, ⟨ec, ed⟩, ⟨ee, ef⟩⟩ := hwl (t) (by omega)
    refine k_aload_n hX.1 dX7_lotOf_0 rfl rfl ?_
    refine k_getr (t := 3) hX.1 dX7_lotOf_1 flX7_19 rfl (by decide) rfl rfl ?_
    refine k_iload_n hX.1 dX7_lotOf_4 rfl rfl ?_
    refine k_callVf (d2 := 1) (n := 1) (as := [_]) hX.1 dX7_lotOf_5 lkX7_109 (fit_of hX (by omega) gmX6_hasLot) rfl rfl (by decide) rfl rfl rfl (Nat.le_of_ble_eq_true rfl) (cW_hasLot1 E g (by omega) (by omega) (by omega)) ?_
    refine k_if_ne (tgt := 14) hX.1 dX7_lotOf_8 (by decide) (by omega) (fun c_8 => ?_) (fun c_8 => ?_)
    · skip
      refine k_iload_n hX.1 dX7_lotOf_14 rfl rfl ?_
      refine k_if_lt (tgt := 23) hX.1 dX7_lotOf_15 (by decide) (by omega) (fun c_15 => ?_) (fun c_15 => ?_)
      · skip
        refine k_bipush hX.1 dX7_lotOf_23 (by decide) ?_
        refine k_iret hX dX7_lotOf_25 rfl ?_
        refine ⟨?_, hR, sameM.rf g⟩
        congr 2
        unfold rLotOf
        (repeat first | rw [if_pos (show 0 ≤ (t : Int) ∧ (t : Int) < A 12 2 by omega)] | rw [if_pos (show 0 ≤ w ∧ w ≤ 2 by omega)] | rw [if_neg (show ¬ (0 ≤ w ∧ w ≤ 2) by omega)])
        try rw [Int.toNat_natCast, lt1, e0, e1, e2]
      · skip
        refine k_iload_n hX.1 dX7_lotOf_18 rfl rfl ?_
        refine k_iconst hX.1 dX7_lotOf_19 ?_
        refine k_icmp_le (tgt := 26) hX.1 dX7_lotOf_20 (by decide) (by omega) (by omega) (fun c_20 => ?_) (fun c_20 => ?_)
        · skip
          refine k_aload_n hX.1 dX7_lotOf_26 rfl rfl ?_
          refine k_getr (t := 3) hX.1 dX7_lotOf_27 flX7_19 rfl (by decide) rfl rfl ?_
          refine k_getr (t := 5) hX.1 dX7_lotOf_30 flX7_101 rfl (by decide) rfl rfl ?_
          refine k_iload_n hX.1 dX7_lotOf_33 rfl rfl ?_
          refine k_aaldL (j := t) (q := 11 + t) hX.1 dX7_lotOf_34 rfl (by omega) (n := 3) rfl (by omega) (by omega) rfl ?_
          refine k_iload_n hX.1 dX7_lotOf_35 rfl rfl ?_
          refine k_callVf (d2 := 1) (n := 1) (as := [_]) hX.1 dX7_lotOf_36 lkX7_112 (fit_of hX (by omega) gmX2_tell) rfl (sk_L11 (by omega)) (by decide) rfl rfl rfl (Nat.le_of_ble_eq_true rfl) (cL_tell E g (t := t) (by omega) (by omega)) ?_
          refine k_iret hX dX7_lotOf_39 rfl ?_
          refine ⟨?_, hR, sameM.rf g⟩
          congr 2
          unfold rLotOf
          (repeat first | rw [if_pos (show 0 ≤ (t : Int) ∧ (t : Int) < A 12 2 by omega)] | rw [if_pos (show 0 ≤ w ∧ w ≤ 2 by omega)] | rw [if_neg (show ¬ (0 ≤ w ∧ w ≤ 2) by omega)])
          try rw [Int.toNat_natCast, lt1, e0, e1, e2]
        · skip
          refine k_bipush hX.1 dX7_lotOf_23 (by decide) ?_
          refine k_iret hX dX7_lotOf_25 rfl ?_
          refine ⟨?_, hR, sameM.rf g⟩
          congr 2
          unfold rLotOf
          (repeat first | rw [if_pos (show 0 ≤ (t : Int) ∧ (t : Int) < A 12 2 by omega)] | rw [if_pos (show 0 ≤ w ∧ w ≤ 2 by omega)] | rw [if_neg (show ¬ (0 ≤ w ∧ w ≤ 2) by omega)])
          try rw [Int.toNat_natCast, lt1, e0, e1, e2]
    · skip
      exact absurd c_8 (by decide)
  · skip
    refine k_aload_n hX.1 dX7_lotOf_0 rfl rfl ?_
    refine k_getr (t := 3) hX.1 dX7_lotOf_1 flX7_19 rfl (by decide) rfl rfl ?_
    refine k_iload_n hX.1 dX7_lotOf_4 rfl rfl ?_
    refine k_callVf (d2 := 1) (n := 1) (as := [_]) hX.1 dX7_lotOf_5 lkX7_109 (fit_of hX (by omega) gmX6_hasLot) rfl rfl (by decide) rfl rfl rfl (Nat.le_of_ble_eq_true rfl) (cW_hasLot0 E g (by omega) (by omega) (by omega)) ?_
    refine k_if_ne (tgt := 14) hX.1 dX7_lotOf_8 (by decide) (by omega) (fun c_8 => ?_) (fun c_8 => ?_)
    · skip
      exact absurd rfl c_8
    · skip
      refine k_bipush hX.1 dX7_lotOf_11 (by decide) ?_
      refine k_iret hX dX7_lotOf_13 rfl ?_
      refine ⟨?_, hR, sameM.rf g⟩
      congr 2
      unfold rLotOf
      (repeat first | rw [if_pos (by omega)] | rw [if_neg (by omega)])
      skip

set_option maxRecDepth 100000 in
set_option maxHeartbeats 4000000 in
theorem c7_wanted (E : En) {A : St} {g : Mm} {n : Int} (hR : RC A g) (hW : Wf A n) {q w : Int} (hq : bd q) (hw : bd w) : Ok E 5 mX7_wanted [vR 0, vI q, vI w] g (fun r g' => r = some (vI (rWanted A q w)) ∧ RC (A) g' ∧ sameM g g') := by
  have hC0 := hR.1
  have hW0 := hW.1
  obtain ⟨⟨⟨hc1, hc2, hc3⟩, hcp, hcl⟩, ⟨hg1, hg2⟩, ⟨ht1, ht2, ht3⟩, hck, hcb⟩ := id hR
  obtain ⟨⟨⟨hw1, hw2, hw3, hw4, hw5, hw6, hw7, hw8⟩, hwp, hwl⟩, ⟨hq1, hq2, hq3⟩, ⟨hz1, ⟨hz2, hz3⟩, ⟨hz4, hz5⟩⟩, hwk⟩ := id hW
  refine Ok_of gmX7_wanted (by omega) (Nat.le_of_ble_eq_true rfl) (fun X hX => ?_)
  show V E X 0 [some (vR 0), some (vI q), some (vI w)] [] g
  by_cases hin : 0 ≤ q ∧ q < A 12 2
  · skip
    obtain ⟨t, rfl⟩ : ∃ m : Nat, q = (m : Int) := ⟨q.toNat, by omega⟩
    obtain ⟨e0, e1, e2⟩ := hcl (t) (by omega)
    obtain ⟨⟨ea, eb⟩, ⟨ec, ed⟩, ⟨ee, ef⟩⟩ := hwl (t) (by omega)
    refine k_aload_n hX.1 dX7_wanted_0 rfl rfl ?_
    refine k_getr (t := 3) hX.1 dX7_wanted_1 flX7_19 rfl (by decide) rfl rfl ?_
    refine k_iload_n hX.1 dX7_wanted_4 rfl rfl ?_
    refine k_callVf (d2 := 1) (n := 1) (as := [_]) hX.1 dX7_wanted_5 lkX7_109 (fit_of hX (by omega) gmX6_hasLot) rfl rfl (by decide) rfl rfl rfl (Nat.le_of_ble_eq_true rfl) (cW_hasLot1 E g (by omega) (by omega) (by omega)) ?_
    refine k_if_ne (tgt := 14) hX.1 dX7_wanted_8 (by decide) (by omega) (fun c_8 => ?_) (fun c_8 => ?_)
    · skip
      refine k_iload_n hX.1 dX7_wanted_14 rfl rfl ?_
      refine k_if_lt (tgt := 23) hX.1 dX7_wanted_15 (by decide) (by omega) (fun c_15 => ?_) (fun c_15 => ?_)
      · skip
        refine k_bipush hX.1 dX7_wanted_23 (by decide) ?_
        refine k_iret hX dX7_wanted_25 rfl ?_
        refine ⟨?_, hR, sameM.rf g⟩
        congr 2
        unfold rWanted
        (repeat first | rw [if_pos (by omega)] | rw [if_neg (by omega)])
        try rw [Int.toNat_natCast]
      · skip
        refine k_iload_n hX.1 dX7_wanted_18 rfl rfl ?_
        refine k_iconst hX.1 dX7_wanted_19 ?_
        refine k_icmp_le (tgt := 26) hX.1 dX7_wanted_20 (by decide) (by omega) (by omega) (fun c_20 => ?_) (fun c_20 => ?_)
        · skip
          refine k_aload_n hX.1 dX7_wanted_26 rfl rfl ?_
          refine k_getr (t := 3) hX.1 dX7_wanted_27 flX7_19 rfl (by decide) rfl rfl ?_
          refine k_iload_n hX.1 dX7_wanted_30 rfl rfl ?_
          refine k_iload_n hX.1 dX7_wanted_31 rfl rfl ?_
          refine k_iconst hX.1 dX7_wanted_32 ?_
          refine k_join2 41 (fun z => z = w) (fun z hz => ?_) (fun jn_33 => ?_)
          · skip
            subst hz
            refine k_callVf (d2 := 2) (n := 2) (as := [_, _]) hX.1 dX7_wanted_41 lkX7_179 (fit_of hX (by omega) gmX6_ballsWanted) rfl rfl (by decide) rfl rfl rfl (Nat.le_of_ble_eq_true rfl) (cW_ballsWanted E hC0 hW0 (t := t) (by omega) (by omega)) ?_
            refine k_iret hX dX7_wanted_44 rfl ?_
            refine ⟨?_, hR, sameM.rf g⟩
            congr 2
            unfold rWanted
            (repeat first | rw [if_pos (by omega)] | rw [if_neg (by omega)])
            try rw [Int.toNat_natCast]
          · refine k_icmp_ne (tgt := 40) hX.1 dX7_wanted_33 (by decide) (by omega) (by omega) (fun c_33 => ?_) (fun c_33 => ?_)
            · skip
              refine k_iconst hX.1 dX7_wanted_40 ?_
              exact jn_33 _ (by omega)
            · skip
              refine k_iconst hX.1 dX7_wanted_36 ?_
              refine k_goto (tgt := 41) hX.1 dX7_wanted_37 (by decide) ?_
              exact jn_33 _ (by omega)
        · skip
          refine k_bipush hX.1 dX7_wanted_23 (by decide) ?_
          refine k_iret hX dX7_wanted_25 rfl ?_
          refine ⟨?_, hR, sameM.rf g⟩
          congr 2
          unfold rWanted
          (repeat first | rw [if_pos (by omega)] | rw [if_neg (by omega)])
          try rw [Int.toNat_natCast]
    · skip
      exact absurd c_8 (by decide)
  · skip
    refine k_aload_n hX.1 dX7_wanted_0 rfl rfl ?_
    refine k_getr (t := 3) hX.1 dX7_wanted_1 flX7_19 rfl (by decide) rfl rfl ?_
    refine k_iload_n hX.1 dX7_wanted_4 rfl rfl ?_
    refine k_callVf (d2 := 1) (n := 1) (as := [_]) hX.1 dX7_wanted_5 lkX7_109 (fit_of hX (by omega) gmX6_hasLot) rfl rfl (by decide) rfl rfl rfl (Nat.le_of_ble_eq_true rfl) (cW_hasLot0 E g (by omega) (by omega) (by omega)) ?_
    refine k_if_ne (tgt := 14) hX.1 dX7_wanted_8 (by decide) (by omega) (fun c_8 => ?_) (fun c_8 => ?_)
    · skip
      exact absurd rfl c_8
    · skip
      refine k_bipush hX.1 dX7_wanted_11 (by decide) ?_
      refine k_iret hX dX7_wanted_13 rfl ?_
      refine ⟨?_, hR, sameM.rf g⟩
      congr 2
      unfold rWanted
      (repeat first | rw [if_pos (by omega)] | rw [if_neg (by omega)])
      skip

set_option maxRecDepth 100000 in
set_option maxHeartbeats 4000000 in
theorem c7_count (E : En) {A : St} {g : Mm} {n : Int} (hR : RC A g) (hW : Wf A n) {q : Int} (hq : bd q) : Ok E 6 mX7_count [vR 0, vI q] g (fun r g' => r = some (vI (rCount A q)) ∧ RC (A) g' ∧ sameM g g') := by
  have hC0 := hR.1
  have hW0 := hW.1
  obtain ⟨⟨⟨hc1, hc2, hc3⟩, hcp, hcl⟩, ⟨hg1, hg2⟩, ⟨ht1, ht2, ht3⟩, hck, hcb⟩ := id hR
  obtain ⟨⟨⟨hw1, hw2, hw3, hw4, hw5, hw6, hw7, hw8⟩, hwp, hwl⟩, ⟨hq1, hq2, hq3⟩, ⟨hz1, ⟨hz2, hz3⟩, ⟨hz4, hz5⟩⟩, hwk⟩ := id hW
  refine Ok_of gmX7_count (by omega) (Nat.le_of_ble_eq_true rfl) (fun X hX => ?_)
  show V E X 0 [some (vR 0), some (vI q)] [] g
  refine k_iload_n hX.1 dX7_count_0 rfl rfl ?_
  refine k_if_lt (tgt := 10) hX.1 dX7_count_1 (by decide) (by omega) (fun c_1 => ?_) (fun c_1 => ?_)
  · skip
    refine k_bipush hX.1 dX7_count_10 (by decide) ?_
    refine k_iret hX dX7_count_12 rfl ?_
    refine ⟨?_, hR, sameM.rf g⟩
    congr 2
    unfold rCount
    (repeat first | rw [if_pos (by omega)] | rw [if_neg (by omega)])
    try assumption
  · skip
    refine k_iload_n hX.1 dX7_count_4 rfl rfl ?_
    refine k_bipush hX.1 dX7_count_5 (by decide) ?_
    refine k_icmp_le (tgt := 13) hX.1 dX7_count_7 (by decide) (by omega) (by omega) (fun c_7 => ?_) (fun c_7 => ?_)
    · skip
      refine k_iload_n hX.1 dX7_count_13 rfl rfl ?_
      rcases (show q = 8 ∨ q = 9 ∨ q = 10 ∨ (¬ q = 8 ∧ ¬ q = 9 ∧ ¬ q = 10) by omega) with s_14 | s_14 | s_14 | s_14
      · refine k_tableIn (tgt := 40) (off := 26) hX.1 dX7_count_14 (by omega) (by omega) (by omega) (by rw [s_14]; rfl) (by decide) ?_
        skip
        refine k_aload_n hX.1 dX7_count_40 rfl rfl ?_
        refine k_getr (t := 1) hX.1 dX7_count_41 flX7_10 rfl (by decide) rfl rfl ?_
        refine k_geti hX.1 dX7_count_44 flX7_47 rfl (by decide) rfl ?_
        refine k_iret hX dX7_count_47 rfl ?_
        refine ⟨?_, hR, sameM.rf g⟩
        congr 2
        unfold rCount
        (repeat first | rw [if_pos (by omega)] | rw [if_neg (by omega)])
        try assumption
      · refine k_tableIn (tgt := 48) (off := 34) hX.1 dX7_count_14 (by omega) (by omega) (by omega) (by rw [s_14]; rfl) (by decide) ?_
        skip
        refine k_aload_n hX.1 dX7_count_48 rfl rfl ?_
        refine k_geti hX.1 dX7_count_49 flX7_71 rfl (by decide) rfl ?_
        refine k_iret hX dX7_count_52 rfl ?_
        refine ⟨?_, hR, sameM.rf g⟩
        congr 2
        unfold rCount
        (repeat first | rw [if_pos (by omega)] | rw [if_neg (by omega)])
        try assumption
      · refine k_tableIn (tgt := 53) (off := 39) hX.1 dX7_count_14 (by omega) (by omega) (by omega) (by rw [s_14]; rfl) (by decide) ?_
        skip
        refine k_aload_n hX.1 dX7_count_53 rfl rfl ?_
        refine k_geti hX.1 dX7_count_54 flX7_163 rfl (by decide) rfl ?_
        refine k_iret hX dX7_count_57 rfl ?_
        refine ⟨?_, hR, sameM.rf g⟩
        congr 2
        unfold rCount
        (repeat first | rw [if_pos (by omega)] | rw [if_neg (by omega)])
        try assumption
      · refine k_tableOut (tgt := 58) hX.1 dX7_count_14 (by omega) (by omega) (by decide) ?_
        skip
        refine k_aload_n hX.1 dX7_count_58 rfl rfl ?_
        refine k_getr (t := 3) hX.1 dX7_count_59 flX7_19 rfl (by decide) rfl rfl ?_
        refine k_iload_n hX.1 dX7_count_62 rfl rfl ?_
        refine k_callVf (d2 := 5) (n := 1) (as := [_]) hX.1 dX7_count_63 lkX7_209 (fit_of hX (by omega) gmX6_tellAll) rfl rfl (by decide) rfl rfl rfl (Nat.le_of_ble_eq_true rfl) (cW_tellAll E hC0 hW0 (by omega)) ?_
        refine k_iret hX dX7_count_66 rfl ?_
        refine ⟨?_, hR, sameM.rf g⟩
        congr 2
        unfold rCount
        (repeat first | rw [if_pos (by omega)] | rw [if_neg (by omega)])
        try assumption
    · skip
      refine k_bipush hX.1 dX7_count_10 (by decide) ?_
      refine k_iret hX dX7_count_12 rfl ?_
      refine ⟨?_, hR, sameM.rf g⟩
      congr 2
      unfold rCount
      (repeat first | rw [if_pos (by omega)] | rw [if_neg (by omega)])
      try assumption

set_option maxRecDepth 100000 in
set_option maxHeartbeats 4000000 in
theorem c7_buy (E : En) {A : St} {g : Mm} {n : Int} (hR : RC A g) (hW : Wf A n) {q w : Int} (hq : bd q) (hw : bd w) : Ok E 5 mX7_buy [vR 0, vI q, vI w] g (fun r g' => r = some (vI (rBuy A q w)) ∧ RC (nBuy A q w) g' ∧ sameM g g') := by
  have hC0 := hR.1
  have hW0 := hW.1
  obtain ⟨⟨⟨hc1, hc2, hc3⟩, hcp, hcl⟩, ⟨hg1, hg2⟩, ⟨ht1, ht2, ht3⟩, hck, hcb⟩ := id hR
  obtain ⟨⟨⟨hw1, hw2, hw3, hw4, hw5, hw6, hw7, hw8⟩, hwp, hwl⟩, ⟨hq1, hq2, hq3⟩, ⟨hz1, ⟨hz2, hz3⟩, ⟨hz4, hz5⟩⟩, hwk⟩ := id hW
  refine Ok_of gmX7_buy (by omega) (Nat.le_of_ble_eq_true rfl) (fun X hX => ?_)
  show V E X 0 [some (vR 0), some (vI q), some (vI w), none] [] g
  by_cases hin : 0 ≤ q ∧ q < A 12 2
  · skip
    obtain ⟨t, rfl⟩ : ∃ m : Nat, q = (m : Int) := ⟨q.toNat, by omega⟩
    obtain ⟨e0, e1, e2⟩ := hcl (t) (by omega)
    obtain ⟨⟨ea, eb⟩, ⟨ec, ed⟩, ⟨ee, ef⟩⟩ := hwl (t) (by omega)
    refine k_aload_n hX.1 dX7_buy_0 rfl rfl ?_
    refine k_getr (t := 3) hX.1 dX7_buy_1 flX7_19 rfl (by decide) rfl rfl ?_
    refine k_iload_n hX.1 dX7_buy_4 rfl rfl ?_
    refine k_callVf (d2 := 1) (n := 1) (as := [_]) hX.1 dX7_buy_5 lkX7_109 (fit_of hX (by omega) gmX6_hasLot) rfl rfl (by decide) rfl rfl rfl (Nat.le_of_ble_eq_true rfl) (cW_hasLot1 E g (by omega) (by omega) (by omega)) ?_
    refine k_if_ne (tgt := 14) hX.1 dX7_buy_8 (by decide) (by omega) (fun c_8 => ?_) (fun c_8 => ?_)
    · skip
      refine k_iload_n hX.1 dX7_buy_14 rfl rfl ?_
      refine k_iconst hX.1 dX7_buy_15 ?_
      refine k_icmp_lt (tgt := 25) hX.1 dX7_buy_16 (by decide) (by omega) (by omega) (fun c_16 => ?_) (fun c_16 => ?_)
      · skip
        refine k_bipush hX.1 dX7_buy_25 (by decide) ?_
        refine k_iret hX dX7_buy_27 rfl ?_
        refine ⟨?_, ?_, sameM.rf g⟩
        · congr 2
          unfold rBuy
          rw [Int.toNat_natCast]
          (repeat first | rw [if_pos (by omega)] | rw [if_neg (by omega)])
        · unfold nBuy
          rw [Int.toNat_natCast]
          (repeat first | rw [if_pos (by omega)] | rw [if_neg (by omega)])
          exact hR
      · skip
        refine k_iload_n hX.1 dX7_buy_19 rfl rfl ?_
        refine k_bipush hX.1 dX7_buy_20 (by decide) ?_
        refine k_icmp_le (tgt := 28) hX.1 dX7_buy_22 (by decide) (by omega) (by omega) (fun c_22 => ?_) (fun c_22 => ?_)
        · skip
          refine k_aload_n hX.1 dX7_buy_28 rfl rfl ?_
          refine k_getr (t := 3) hX.1 dX7_buy_29 flX7_19 rfl (by decide) rfl rfl ?_
          refine k_getr (t := 5) hX.1 dX7_buy_32 flX7_101 rfl (by decide) rfl rfl ?_
          refine k_iload_n hX.1 dX7_buy_35 rfl rfl ?_
          refine k_aaldL (j := t) (q := 11 + t) hX.1 dX7_buy_36 rfl (by omega) (n := 3) rfl (by omega) (by omega) rfl ?_
          refine k_astore_n hX.1 dX7_buy_37 rfl (by decide) rfl rfl ?_
          try simp only [List.set_cons_zero, List.set_cons_succ]
          refine k_aload_n hX.1 dX7_buy_38 rfl rfl ?_
          refine k_geti hX.1 dX7_buy_39 flX7_116 (sk_L11 (by omega)) (by decide) rfl ?_
          refine k_iload_n hX.1 dX7_buy_42 rfl rfl ?_
          refine k_iadd hX.1 dX7_buy_43 ?_
          refine k_bipush hX.1 dX7_buy_44 (by decide) ?_
          refine k_icmp_le (tgt := 52) hX.1 dX7_buy_46 (by decide) (by omega) (by omega) (fun c_46 => ?_) (fun c_46 => ?_)
          · skip
            refine k_aload_n hX.1 dX7_buy_52 rfl rfl ?_
            refine k_dupR hX.1 dX7_buy_53 ?_
            refine k_geti hX.1 dX7_buy_54 flX7_116 (sk_L11 (by omega)) (by decide) rfl ?_
            refine k_iload_n hX.1 dX7_buy_57 rfl rfl ?_
            refine k_iadd hX.1 dX7_buy_58 ?_
            refine k_puti hX.1 dX7_buy_59 flX7_116 (sk_L11 (by omega)) (by decide) rfl ?_
            refine k_aload_n hX.1 dX7_buy_62 rfl rfl ?_
            refine k_geti hX.1 dX7_buy_63 flX7_116 (sk_L11 (by omega)) (by decide) rfl ?_
            refine k_top (b := g.1 (11 + t) 1 + w) (by simp [wr_1]) ?_
            refine k_iret hX dX7_buy_66 rfl ?_
            refine ⟨?_, ?_, sameM.wr (sameM.rf g) (by omega)⟩
            · congr 2
              unfold rBuy
              rw [Int.toNat_natCast]
              (repeat first | rw [if_pos (by omega)] | rw [if_neg (by omega)])
              omega
            · unfold nBuy
              rw [Int.toNat_natCast]
              (repeat first | rw [if_pos (by omega)] | rw [if_neg (by omega)])
              rw [e1]
              exact RC_lot (j := 1) hR hW.b (by omega) _ (by omega)
          · skip
            refine k_bipush hX.1 dX7_buy_49 (by decide) ?_
            refine k_iret hX dX7_buy_51 rfl ?_
            refine ⟨?_, ?_, sameM.rf g⟩
            · congr 2
              unfold rBuy
              rw [Int.toNat_natCast]
              (repeat first | rw [if_pos (by omega)] | rw [if_neg (by omega)])
            · unfold nBuy
              rw [Int.toNat_natCast]
              (repeat first | rw [if_pos (by omega)] | rw [if_neg (by omega)])
              exact hR
        · skip
          refine k_bipush hX.1 dX7_buy_25 (by decide) ?_
          refine k_iret hX dX7_buy_27 rfl ?_
          refine ⟨?_, ?_, sameM.rf g⟩
          · congr 2
            unfold rBuy
            rw [Int.toNat_natCast]
            (repeat first | rw [if_pos (by omega)] | rw [if_neg (by omega)])
          · unfold nBuy
            rw [Int.toNat_natCast]
            (repeat first | rw [if_pos (by omega)] | rw [if_neg (by omega)])
            exact hR
    · skip
      exact absurd c_8 (by decide)
  · skip
    refine k_aload_n hX.1 dX7_buy_0 rfl rfl ?_
    refine k_getr (t := 3) hX.1 dX7_buy_1 flX7_19 rfl (by decide) rfl rfl ?_
    refine k_iload_n hX.1 dX7_buy_4 rfl rfl ?_
    refine k_callVf (d2 := 1) (n := 1) (as := [_]) hX.1 dX7_buy_5 lkX7_109 (fit_of hX (by omega) gmX6_hasLot) rfl rfl (by decide) rfl rfl rfl (Nat.le_of_ble_eq_true rfl) (cW_hasLot0 E g (by omega) (by omega) (by omega)) ?_
    refine k_if_ne (tgt := 14) hX.1 dX7_buy_8 (by decide) (by omega) (fun c_8 => ?_) (fun c_8 => ?_)
    · skip
      exact absurd rfl c_8
    · skip
      refine k_bipush hX.1 dX7_buy_11 (by decide) ?_
      refine k_iret hX dX7_buy_13 rfl ?_
      refine ⟨?_, ?_, sameM.rf g⟩
      · congr 2
        unfold rBuy
        (repeat first | rw [if_pos (by omega)] | rw [if_neg (by omega)])
      · unfold nBuy
        (repeat first | rw [if_pos (by omega)] | rw [if_neg (by omega)])
        exact hR

set_option maxRecDepth 100000 in
set_option maxHeartbeats 4000000 in
theorem c7_back (E : En) {A : St} {g : Mm} {n : Int} (hR : RC A g) (hW : Wf A n) {q w : Int} (hq : bd q) (hw : bd w) : Ok E 5 mX7_back [vR 0, vI q, vI w] g (fun r g' => r = some (vI (rBack A q w)) ∧ RC (nBack A q w) g' ∧ sameM g g') := by
  have hC0 := hR.1
  have hW0 := hW.1
  obtain ⟨⟨⟨hc1, hc2, hc3⟩, hcp, hcl⟩, ⟨hg1, hg2⟩, ⟨ht1, ht2, ht3⟩, hck, hcb⟩ := id hR
  obtain ⟨⟨⟨hw1, hw2, hw3, hw4, hw5, hw6, hw7, hw8⟩, hwp, hwl⟩, ⟨hq1, hq2, hq3⟩, ⟨hz1, ⟨hz2, hz3⟩, ⟨hz4, hz5⟩⟩, hwk⟩ := id hW
  refine Ok_of gmX7_back (by omega) (Nat.le_of_ble_eq_true rfl) (fun X hX => ?_)
  show V E X 0 [some (vR 0), some (vI q), some (vI w), none] [] g
  by_cases hin : 0 ≤ q ∧ q < A 12 2
  · skip
    obtain ⟨t, rfl⟩ : ∃ m : Nat, q = (m : Int) := ⟨q.toNat, by omega⟩
    obtain ⟨e0, e1, e2⟩ := hcl (t) (by omega)
    obtain ⟨⟨ea, eb⟩, ⟨ec, ed⟩, ⟨ee, ef⟩⟩ := hwl (t) (by omega)
    refine k_aload_n hX.1 dX7_back_0 rfl rfl ?_
    refine k_getr (t := 3) hX.1 dX7_back_1 flX7_19 rfl (by decide) rfl rfl ?_
    refine k_iload_n hX.1 dX7_back_4 rfl rfl ?_
    refine k_callVf (d2 := 1) (n := 1) (as := [_]) hX.1 dX7_back_5 lkX7_109 (fit_of hX (by omega) gmX6_hasLot) rfl rfl (by decide) rfl rfl rfl (Nat.le_of_ble_eq_true rfl) (cW_hasLot1 E g (by omega) (by omega) (by omega)) ?_
    refine k_if_ne (tgt := 14) hX.1 dX7_back_8 (by decide) (by omega) (fun c_8 => ?_) (fun c_8 => ?_)
    · skip
      refine k_iload_n hX.1 dX7_back_14 rfl rfl ?_
      refine k_iconst hX.1 dX7_back_15 ?_
      refine k_icmp_lt (tgt := 25) hX.1 dX7_back_16 (by decide) (by omega) (by omega) (fun c_16 => ?_) (fun c_16 => ?_)
      · skip
        refine k_bipush hX.1 dX7_back_25 (by decide) ?_
        refine k_iret hX dX7_back_27 rfl ?_
        refine ⟨?_, ?_, sameM.rf g⟩
        · congr 2
          unfold rBack
          rw [Int.toNat_natCast]
          (repeat first | rw [if_pos (by omega)] | rw [if_neg (by omega)])
        · unfold nBack
          rw [Int.toNat_natCast]
          (repeat first | rw [if_pos (by omega)] | rw [if_neg (by omega)])
          exact hR
      · skip
        refine k_iload_n hX.1 dX7_back_19 rfl rfl ?_
        refine k_bipush hX.1 dX7_back_20 (by decide) ?_
        refine k_icmp_le (tgt := 28) hX.1 dX7_back_22 (by decide) (by omega) (by omega) (fun c_22 => ?_) (fun c_22 => ?_)
        · skip
          refine k_aload_n hX.1 dX7_back_28 rfl rfl ?_
          refine k_getr (t := 3) hX.1 dX7_back_29 flX7_19 rfl (by decide) rfl rfl ?_
          refine k_getr (t := 5) hX.1 dX7_back_32 flX7_101 rfl (by decide) rfl rfl ?_
          refine k_iload_n hX.1 dX7_back_35 rfl rfl ?_
          refine k_aaldL (j := t) (q := 11 + t) hX.1 dX7_back_36 rfl (by omega) (n := 3) rfl (by omega) (by omega) rfl ?_
          refine k_astore_n hX.1 dX7_back_37 rfl (by decide) rfl rfl ?_
          try simp only [List.set_cons_zero, List.set_cons_succ]
          refine k_aload_n hX.1 dX7_back_38 rfl rfl ?_
          refine k_geti hX.1 dX7_back_39 flX7_116 (sk_L11 (by omega)) (by decide) rfl ?_
          refine k_iload_n hX.1 dX7_back_42 rfl rfl ?_
          refine k_icmp_ge (tgt := 49) hX.1 dX7_back_43 (by decide) (by omega) (by omega) (fun c_43 => ?_) (fun c_43 => ?_)
          · skip
            refine k_aload_n hX.1 dX7_back_49 rfl rfl ?_
            refine k_dupR hX.1 dX7_back_50 ?_
            refine k_geti hX.1 dX7_back_51 flX7_116 (sk_L11 (by omega)) (by decide) rfl ?_
            refine k_iload_n hX.1 dX7_back_54 rfl rfl ?_
            refine k_isub hX.1 dX7_back_55 ?_
            refine k_puti hX.1 dX7_back_56 flX7_116 (sk_L11 (by omega)) (by decide) rfl ?_
            refine k_aload_n hX.1 dX7_back_59 rfl rfl ?_
            refine k_geti hX.1 dX7_back_60 flX7_116 (sk_L11 (by omega)) (by decide) rfl ?_
            refine k_top (b := g.1 (11 + t) 1 - w) (by simp [wr_1]) ?_
            refine k_iret hX dX7_back_63 rfl ?_
            refine ⟨?_, ?_, sameM.wr (sameM.rf g) (by omega)⟩
            · congr 2
              unfold rBack
              rw [Int.toNat_natCast]
              (repeat first | rw [if_pos (by omega)] | rw [if_neg (by omega)])
              omega
            · unfold nBack
              rw [Int.toNat_natCast]
              (repeat first | rw [if_pos (by omega)] | rw [if_neg (by omega)])
              rw [e1]
              exact RC_lot (j := 1) hR hW.b (by omega) _ (by omega)
          · skip
            refine k_bipush hX.1 dX7_back_46 (by decide) ?_
            refine k_iret hX dX7_back_48 rfl ?_
            refine ⟨?_, ?_, sameM.rf g⟩
            · congr 2
              unfold rBack
              rw [Int.toNat_natCast]
              (repeat first | rw [if_pos (by omega)] | rw [if_neg (by omega)])
            · unfold nBack
              rw [Int.toNat_natCast]
              (repeat first | rw [if_pos (by omega)] | rw [if_neg (by omega)])
              exact hR
        · skip
          refine k_bipush hX.1 dX7_back_25 (by decide) ?_
          refine k_iret hX dX7_back_27 rfl ?_
          refine ⟨?_, ?_, sameM.rf g⟩
          · congr 2
            unfold rBack
            rw [Int.toNat_natCast]
            (repeat first | rw [if_pos (by omega)] | rw [if_neg (by omega)])
          · unfold nBack
            rw [Int.toNat_natCast]
            (repeat first | rw [if_pos (by omega)] | rw [if_neg (by omega)])
            exact hR
    · skip
      exact absurd c_8 (by decide)
  · skip
    refine k_aload_n hX.1 dX7_back_0 rfl rfl ?_
    refine k_getr (t := 3) hX.1 dX7_back_1 flX7_19 rfl (by decide) rfl rfl ?_
    refine k_iload_n hX.1 dX7_back_4 rfl rfl ?_
    refine k_callVf (d2 := 1) (n := 1) (as := [_]) hX.1 dX7_back_5 lkX7_109 (fit_of hX (by omega) gmX6_hasLot) rfl rfl (by decide) rfl rfl rfl (Nat.le_of_ble_eq_true rfl) (cW_hasLot0 E g (by omega) (by omega) (by omega)) ?_
    refine k_if_ne (tgt := 14) hX.1 dX7_back_8 (by decide) (by omega) (fun c_8 => ?_) (fun c_8 => ?_)
    · skip
      exact absurd rfl c_8
    · skip
      refine k_bipush hX.1 dX7_back_11 (by decide) ?_
      refine k_iret hX dX7_back_13 rfl ?_
      refine ⟨?_, ?_, sameM.rf g⟩
      · congr 2
        unfold rBack
        (repeat first | rw [if_pos (by omega)] | rw [if_neg (by omega)])
      · unfold nBack
        (repeat first | rw [if_pos (by omega)] | rw [if_neg (by omega)])
        exact hR

set_option maxRecDepth 100000 in
set_option maxHeartbeats 4000000 in
theorem c7_found (E : En) {A : St} {g : Mm} {n : Int} (hR : RC A g) (hW : Wf A n) {q w : Int} (hq : bd q) (hw : bd w) : Ok E 5 mX7_found [vR 0, vI q, vI w] g (fun r g' => r = some (vI (rFound A q w)) ∧ RC (nFound A q w) g' ∧ sameM g g') := by
  have hC0 := hR.1
  have hW0 := hW.1
  obtain ⟨⟨⟨hc1, hc2, hc3⟩, hcp, hcl⟩, ⟨hg1, hg2⟩, ⟨ht1, ht2, ht3⟩, hck, hcb⟩ := id hR
  obtain ⟨⟨⟨hw1, hw2, hw3, hw4, hw5, hw6, hw7, hw8⟩, hwp, hwl⟩, ⟨hq1, hq2, hq3⟩, ⟨hz1, ⟨hz2, hz3⟩, ⟨hz4, hz5⟩⟩, hwk⟩ := id hW
  refine Ok_of gmX7_found (by omega) (Nat.le_of_ble_eq_true rfl) (fun X hX => ?_)
  show V E X 0 [some (vR 0), some (vI q), some (vI w), none, none] [] g
  by_cases hin : 0 ≤ q ∧ q < A 12 0
  · skip
    obtain ⟨p, rfl⟩ : ∃ m : Nat, q = (m : Int) := ⟨q.toNat, by omega⟩
    obtain ⟨e0, e1, e2, e3, e4, e5, e6, e7⟩ := hcp (p) (by omega)
    obtain ⟨⟨ek1, ek2⟩, ⟨er1, er2⟩, ew2, ew3, ew4, ew5, ew6, ew7⟩ := hwp (p) (by omega)
    by_cases h2 : (p : Int) + 1 < A 12 0
    · skip
      refine k_aload_n hX.1 dX7_found_0 rfl rfl ?_
      refine k_getr (t := 3) hX.1 dX7_found_1 flX7_19 rfl (by decide) rfl rfl ?_
      refine k_iload_n hX.1 dX7_found_4 rfl rfl ?_
      refine k_callVf (d2 := 1) (n := 1) (as := [_]) hX.1 dX7_found_5 lkX7_77 (fit_of hX (by omega) gmX6_hasPart) rfl rfl (by decide) rfl rfl rfl (Nat.le_of_ble_eq_true rfl) (cW_hasPart1 E g (by omega) (by omega) (by omega)) ?_
      refine k_if_eq (tgt := 24) hX.1 dX7_found_8 (by decide) (by omega) (fun c_8 => ?_) (fun c_8 => ?_)
      · skip
        exact absurd c_8 (by decide)
      · skip
        refine k_aload_n hX.1 dX7_found_11 rfl rfl ?_
        refine k_getr (t := 3) hX.1 dX7_found_12 flX7_19 rfl (by decide) rfl rfl ?_
        refine k_iload_n hX.1 dX7_found_15 rfl rfl ?_
        refine k_iconst hX.1 dX7_found_16 ?_
        refine k_iadd hX.1 dX7_found_17 ?_
        refine k_callVf (d2 := 1) (n := 1) (as := [_]) hX.1 dX7_found_18 lkX7_77 (fit_of hX (by omega) gmX6_hasPart) rfl rfl (by decide) rfl rfl rfl (Nat.le_of_ble_eq_true rfl) (cW_hasPart1 E g (by omega) (by omega) (by omega)) ?_
        refine k_if_ne (tgt := 27) hX.1 dX7_found_21 (by decide) (by omega) (fun c_21 => ?_) (fun c_21 => ?_)
        · skip
          refine k_iload_n hX.1 dX7_found_27 rfl rfl ?_
          refine k_iconst hX.1 dX7_found_28 ?_
          refine k_icmp_lt (tgt := 39) hX.1 dX7_found_29 (by decide) (by omega) (by omega) (fun c_29 => ?_) (fun c_29 => ?_)
          · skip
            refine k_bipush hX.1 dX7_found_39 (by decide) ?_
            refine k_iret hX dX7_found_41 rfl ?_
            refine ⟨?_, ?_, sameM.rf g⟩
            · congr 2
              unfold rFound
              (repeat first | rw [if_pos (by omega)] | rw [if_neg (by omega)])
            · unfold nFound
              (repeat first | rw [if_pos (by omega)] | rw [if_neg (by omega)])
              exact hR
          · skip
            refine k_iload_n hX.1 dX7_found_32 rfl rfl ?_
            refine k_sipush hX.1 dX7_found_33 (by decide) ?_
            refine k_icmp_le (tgt := 42) hX.1 dX7_found_36 (by decide) (by omega) (by omega) (fun c_36 => ?_) (fun c_36 => ?_)
            · skip
              refine k_aload_n hX.1 dX7_found_42 rfl rfl ?_
              refine k_getr (t := 3) hX.1 dX7_found_43 flX7_19 rfl (by decide) rfl rfl ?_
              refine k_getr (t := 4) hX.1 dX7_found_46 flX7_89 rfl (by decide) rfl rfl ?_
              refine k_iload_n hX.1 dX7_found_49 rfl rfl ?_
              refine k_aaldP (j := p) (q := 6 + p) hX.1 dX7_found_50 rfl (by omega) (n := 5) rfl (by omega) (by omega) rfl ?_
              refine k_astore_n hX.1 dX7_found_51 rfl (by decide) rfl rfl ?_
              try simp only [List.set_cons_zero, List.set_cons_succ]
              refine k_aload_n hX.1 dX7_found_52 rfl rfl ?_
              refine k_geti hX.1 dX7_found_53 flX7_183 (sk_P6 (by omega)) (by decide) rfl ?_
              refine k_istore hX.1 dX7_found_56 (by decide) rfl rfl ?_
              try simp only [List.set_cons_zero, List.set_cons_succ]
              refine k_aload_n hX.1 dX7_found_58 rfl rfl ?_
              refine k_iload_n hX.1 dX7_found_59 rfl rfl ?_
              refine k_puti hX.1 dX7_found_60 flX7_183 (sk_P6 (by omega)) (by decide) rfl ?_
              refine k_iload hX.1 dX7_found_63 rfl ?_
              refine k_iret hX dX7_found_65 rfl ?_
              refine ⟨?_, ?_, sameM.wr (sameM.rf g) (by omega)⟩
              · congr 2
                unfold rFound
                rw [Int.toNat_natCast]
                (repeat first | rw [if_pos (by omega)] | rw [if_neg (by omega)])
                exact e7
              · unfold nFound
                rw [Int.toNat_natCast]
                (repeat first | rw [if_pos (by omega)] | rw [if_neg (by omega)])
                exact RC_part hR hW.b (by omega) _ (by omega)
            · skip
              refine k_bipush hX.1 dX7_found_39 (by decide) ?_
              refine k_iret hX dX7_found_41 rfl ?_
              refine ⟨?_, ?_, sameM.rf g⟩
              · congr 2
                unfold rFound
                (repeat first | rw [if_pos (by omega)] | rw [if_neg (by omega)])
              · unfold nFound
                (repeat first | rw [if_pos (by omega)] | rw [if_neg (by omega)])
                exact hR
        · skip
          exact absurd c_21 (by decide)
    · skip
      refine k_aload_n hX.1 dX7_found_0 rfl rfl ?_
      refine k_getr (t := 3) hX.1 dX7_found_1 flX7_19 rfl (by decide) rfl rfl ?_
      refine k_iload_n hX.1 dX7_found_4 rfl rfl ?_
      refine k_callVf (d2 := 1) (n := 1) (as := [_]) hX.1 dX7_found_5 lkX7_77 (fit_of hX (by omega) gmX6_hasPart) rfl rfl (by decide) rfl rfl rfl (Nat.le_of_ble_eq_true rfl) (cW_hasPart1 E g (by omega) (by omega) (by omega)) ?_
      refine k_if_eq (tgt := 24) hX.1 dX7_found_8 (by decide) (by omega) (fun c_8 => ?_) (fun c_8 => ?_)
      · skip
        exact absurd c_8 (by decide)
      · skip
        refine k_aload_n hX.1 dX7_found_11 rfl rfl ?_
        refine k_getr (t := 3) hX.1 dX7_found_12 flX7_19 rfl (by decide) rfl rfl ?_
        refine k_iload_n hX.1 dX7_found_15 rfl rfl ?_
        refine k_iconst hX.1 dX7_found_16 ?_
        refine k_iadd hX.1 dX7_found_17 ?_
        refine k_callVf (d2 := 1) (n := 1) (as := [_]) hX.1 dX7_found_18 lkX7_77 (fit_of hX (by omega) gmX6_hasPart) rfl rfl (by decide) rfl rfl rfl (Nat.le_of_ble_eq_true rfl) (cW_hasPart0 E g (by omega) (by omega) (by omega)) ?_
        refine k_if_ne (tgt := 27) hX.1 dX7_found_21 (by decide) (by omega) (fun c_21 => ?_) (fun c_21 => ?_)
        · skip
          exact absurd rfl c_21
        · skip
          refine k_bipush hX.1 dX7_found_24 (by decide) ?_
          refine k_iret hX dX7_found_26 rfl ?_
          refine ⟨?_, ?_, sameM.rf g⟩
          · congr 2
            unfold rFound
            (repeat first | rw [if_pos (by omega)] | rw [if_neg (by omega)])
          · unfold nFound
            (repeat first | rw [if_pos (by omega)] | rw [if_neg (by omega)])
            exact hR
  · skip
    refine k_aload_n hX.1 dX7_found_0 rfl rfl ?_
    refine k_getr (t := 3) hX.1 dX7_found_1 flX7_19 rfl (by decide) rfl rfl ?_
    refine k_iload_n hX.1 dX7_found_4 rfl rfl ?_
    refine k_callVf (d2 := 1) (n := 1) (as := [_]) hX.1 dX7_found_5 lkX7_77 (fit_of hX (by omega) gmX6_hasPart) rfl rfl (by decide) rfl rfl rfl (Nat.le_of_ble_eq_true rfl) (cW_hasPart0 E g (by omega) (by omega) (by omega)) ?_
    refine k_if_eq (tgt := 24) hX.1 dX7_found_8 (by decide) (by omega) (fun c_8 => ?_) (fun c_8 => ?_)
    · skip
      refine k_bipush hX.1 dX7_found_24 (by decide) ?_
      refine k_iret hX dX7_found_26 rfl ?_
      refine ⟨?_, ?_, sameM.rf g⟩
      · congr 2
        unfold rFound
        (repeat first | rw [if_pos (by omega)] | rw [if_neg (by omega)])
      · unfold nFound
        (repeat first | rw [if_pos (by omega)] | rw [if_neg (by omega)])
        exact hR
    · skip
      exact absurd rfl c_8
