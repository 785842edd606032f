set_option maxRecDepth 100000 in
set_option maxHeartbeats 4000000 in
theorem c8_about (E : En) {A : St} {g : Mm} {n : Int} (hR : RM A g) (hW : Wf A n) {q w : Int} (hq : bd q) (hw : bd w) : Ok E 5 mX8_about [vR 46, vI q, vI w] g (fun r g' => r = some (vI (rAbout A q w)) ∧ RM (A) g' ∧ sameC g g') := by
  have hM0 := hR.1
  have hW0 := hW.1
  obtain ⟨⟨⟨hm1, hm2, hm3⟩, hmp, hml⟩, ⟨hg1, hg2⟩, ⟨ht1, ht2, ht3, ⟨ht4, ht5⟩, ht6⟩, hmk⟩ := id hR
  obtain ⟨⟨⟨hw1, hw2, hw3, hw4, hw5, hw6, hw7, hw8⟩, hwp, hwl⟩, ⟨hq1, hq2, hq3⟩, ⟨hz1, ⟨hz2, hz3⟩, ⟨hz4, hz5⟩⟩, hwk⟩ := id hW
  refine Ok_of gmX8_about (by omega) (Nat.le_of_ble_eq_true rfl) (fun X hX => ?_)
  show V E X 0 [some (vR 46), some (vI q), some (vI w)] [] g
  by_cases hin : 0 ≤ q ∧ q < A 12 0
  · skip
    obtain ⟨p, rfl⟩ : ∃ m : Nat, q = (m : Int) := ⟨q.toNat, by omega⟩
    by_cases hw2 : 0 ≤ w ∧ w ≤ 8
    · skip
      refine k_aload_n hX.1 dX8_about_0 rfl rfl ?_
      refine k_iload_n hX.1 dX8_about_1 rfl rfl ?_
      refine k_callVf (d2 := 2) (n := 1) (as := [_]) hX.1 dX8_about_2 lkX8_148 (fit_of hX (by omega) gmX8_isPart) rfl rfl (by decide) rfl rfl rfl (Nat.le_of_ble_eq_true rfl) (cM_isPart1 E g (by omega) (by omega) (by omega)) ?_
      refine k_if_ne (tgt := 13) hX.1 dX8_about_5 (by decide) (by omega) (fun c_5 => ?_) (fun c_5 => ?_)
      · skip
        refine k_iload_n hX.1 dX8_about_13 rfl rfl ?_
        refine k_iconst hX.1 dX8_about_14 ?_
        refine k_bipush hX.1 dX8_about_15 (by decide) ?_
        refine k_callSf (d2 := 1) (n := 3) (as := [_, _, _]) hX.1 dX8_about_17 lkX8_86 (fit_of hX (by omega) gmX8_within) rfl rfl (Nat.le_of_ble_eq_true rfl) (cM_within1 E g (by omega) (by omega) (by omega) (by omega)) ?_
        refine k_if_eq (tgt := 32) hX.1 dX8_about_20 (by decide) (by omega) (fun c_20 => ?_) (fun c_20 => ?_)
        · skip
          exact absurd c_20 (by decide)
        · skip
          refine k_aload_n hX.1 dX8_about_23 rfl rfl ?_
          refine k_iload_n hX.1 dX8_about_24 rfl rfl ?_
          refine k_iload_n hX.1 dX8_about_25 rfl rfl ?_
          refine k_callVf (d2 := 4) (n := 2) (as := [_, _]) hX.1 dX8_about_26 lkX8_152 (fit_of hX (by omega) gmX8_partNow) rfl rfl (by decide) rfl rfl rfl (Nat.le_of_ble_eq_true rfl) (cM_partNow E hM0 hW0 (p := p) (by omega) (by omega)) ?_
          refine k_goto (tgt := 34) hX.1 dX8_about_29 (by decide) ?_
          refine k_iret hX dX8_about_34 rfl ?_
          refine ⟨?_, hR, sameC.rf g⟩
          rw [rAbout, if_pos hin, if_pos hw2, Int.toNat_natCast]
      · skip
        exact absurd c_5 (by decide)
    · skip
      refine k_aload_n hX.1 dX8_about_0 rfl rfl ?_
      refine k_iload_n hX.1 dX8_about_1 rfl rfl ?_
      refine k_callVf (d2 := 2) (n := 1) (as := [_]) hX.1 dX8_about_2 lkX8_148 (fit_of hX (by omega) gmX8_isPart) rfl rfl (by decide) rfl rfl rfl (Nat.le_of_ble_eq_true rfl) (cM_isPart1 E g (by omega) (by omega) (by omega)) ?_
      refine k_if_ne (tgt := 13) hX.1 dX8_about_5 (by decide) (by omega) (fun c_5 => ?_) (fun c_5 => ?_)
      · skip
        refine k_iload_n hX.1 dX8_about_13 rfl rfl ?_
        refine k_iconst hX.1 dX8_about_14 ?_
        refine k_bipush hX.1 dX8_about_15 (by decide) ?_
        refine k_callSf (d2 := 1) (n := 3) (as := [_, _, _]) hX.1 dX8_about_17 lkX8_86 (fit_of hX (by omega) gmX8_within) rfl rfl (Nat.le_of_ble_eq_true rfl) (cM_within0 E g (by omega) (by omega) (by omega) (by omega)) ?_
        refine k_if_eq (tgt := 32) hX.1 dX8_about_20 (by decide) (by omega) (fun c_20 => ?_) (fun c_20 => ?_)
        · skip
          refine k_bipush hX.1 dX8_about_32 (by decide) ?_
          refine k_iret hX dX8_about_34 rfl ?_
          refine ⟨?_, hR, sameC.rf g⟩
          rw [rAbout, if_pos hin, if_neg hw2]
        · skip
          exact absurd rfl c_20
      · skip
        exact absurd c_5 (by decide)
  · skip
    refine k_aload_n hX.1 dX8_about_0 rfl rfl ?_
    refine k_iload_n hX.1 dX8_about_1 rfl rfl ?_
    refine k_callVf (d2 := 2) (n := 1) (as := [_]) hX.1 dX8_about_2 lkX8_148 (fit_of hX (by omega) gmX8_isPart) rfl rfl (by decide) rfl rfl rfl (Nat.le_of_ble_eq_true rfl) (cM_isPart0 E g (by omega) (by omega) (by omega)) ?_
    refine k_if_ne (tgt := 13) hX.1 dX8_about_5 (by decide) (by omega) (fun c_5 => ?_) (fun c_5 => ?_)
    · skip
      exact absurd rfl c_5
    · skip
      refine k_bipush hX.1 dX8_about_8 (by decide) ?_
      refine k_goto (tgt := 34) hX.1 dX8_about_10 (by decide) ?_
      refine k_iret hX dX8_about_34 rfl ?_
      refine ⟨?_, hR, sameC.rf g⟩
      rw [rAbout, if_neg hin]

set_option maxRecDepth 100000 in
set_option maxHeartbeats 4000000 in
theorem c8_as (E : En) {A : St} {g : Mm} {n : Int} (hR : RM A g) (hW : Wf A n) {q w : Int} (hq : bd q) (hw : bd w) : Ok E 5 mX8_as [vR 46, vI q, vI w] g (fun r g' => r = some (vI (rAs A q w)) ∧ RM (A) g' ∧ sameC g g') := by
  have hM0 := hR.1
  have hW0 := hW.1
  obtain ⟨⟨⟨hm1, hm2, hm3⟩, hmp, hml⟩, ⟨hg1, hg2⟩, ⟨ht1, ht2, ht3, ⟨ht4, ht5⟩, ht6⟩, hmk⟩ := id hR
  obtain ⟨⟨⟨hw1, hw2, hw3, hw4, hw5, hw6, hw7, hw8⟩, hwp, hwl⟩, ⟨hq1, hq2, hq3⟩, ⟨hz1, ⟨hz2, hz3⟩, ⟨hz4, hz5⟩⟩, hwk⟩ := id hW
  refine Ok_of gmX8_as (by omega) (Nat.le_of_ble_eq_true rfl) (fun X hX => ?_)
  show V E X 0 [some (vR 46), some (vI q), some (vI w), none] [] g
  by_cases hin : 0 ≤ q ∧ q < A 12 0
  · skip
    obtain ⟨p, rfl⟩ : ∃ m : Nat, q = (m : Int) := ⟨q.toNat, by omega⟩
    obtain ⟨e0, e1, e2, e3, e4, e5, e6, e7⟩ := hmp (p) (by omega)
    obtain ⟨⟨ek1, ek2⟩, ⟨er1, er2⟩, ew2, ew3, ew4, ew5, ew6, ew7⟩ := hwp (p) (by omega)
    by_cases hw2 : 0 ≤ w ∧ w ≤ 4
    · skip
      refine k_aload_n hX.1 dX8_as_0 rfl rfl ?_
      refine k_iload_n hX.1 dX8_as_1 rfl rfl ?_
      refine k_callVf (d2 := 2) (n := 1) (as := [_]) hX.1 dX8_as_2 lkX8_148 (fit_of hX (by omega) gmX8_isPart) rfl rfl (by decide) rfl rfl rfl (Nat.le_of_ble_eq_true rfl) (cM_isPart1 E g (by omega) (by omega) (by omega)) ?_
      refine k_if_ne (tgt := 11) hX.1 dX8_as_5 (by decide) (by omega) (fun c_5 => ?_) (fun c_5 => ?_)
      · skip
        refine k_iload_n hX.1 dX8_as_11 rfl rfl ?_
        refine k_iconst hX.1 dX8_as_12 ?_
        refine k_iconst hX.1 dX8_as_13 ?_
        refine k_callSf (d2 := 1) (n := 3) (as := [_, _, _]) hX.1 dX8_as_14 lkX8_86 (fit_of hX (by omega) gmX8_within) rfl rfl (Nat.le_of_ble_eq_true rfl) (cM_within1 E g (by omega) (by omega) (by omega) (by omega)) ?_
        refine k_if_ne (tgt := 23) hX.1 dX8_as_17 (by decide) (by omega) (fun c_17 => ?_) (fun c_17 => ?_)
        · skip
          refine k_aload_n hX.1 dX8_as_23 rfl rfl ?_
          refine k_getr (t := 47) hX.1 dX8_as_24 flX8_7 rfl (by decide) rfl rfl ?_
          refine k_iload_n hX.1 dX8_as_27 rfl rfl ?_
          refine k_iald (j := p) hX.1 dX8_as_28 rfl (by omega) (n := 5) rfl (by omega) (by omega) ?_
          refine k_istore_n hX.1 dX8_as_29 rfl (by decide) rfl rfl ?_
          try simp only [List.set_cons_zero, List.set_cons_succ]
          refine k_iload_n hX.1 dX8_as_30 rfl rfl ?_
          refine k_if_eq (tgt := 49) hX.1 dX8_as_31 (by decide) (by omega) (fun c_31 => ?_) (fun c_31 => ?_)
          · skip
            refine k_iload_n hX.1 dX8_as_49 rfl rfl ?_
            refine k_goto (tgt := 54) hX.1 dX8_as_50 (by decide) ?_
            refine k_iret hX dX8_as_54 rfl ?_
            refine ⟨?_, hR, sameC.rf g⟩
            rw [rAs, if_pos hin, if_pos hw2, Int.toNat_natCast]
            first | rw [if_pos (by omega)] | rw [if_neg (by omega)]
          · skip
            refine k_iload_n hX.1 dX8_as_34 rfl rfl ?_
            refine k_iload_n hX.1 dX8_as_35 rfl rfl ?_
            refine k_icmp_eq (tgt := 49) hX.1 dX8_as_36 (by decide) (by omega) (by omega) (fun c_36 => ?_) (fun c_36 => ?_)
            · skip
              refine k_iload_n hX.1 dX8_as_49 rfl rfl ?_
              refine k_goto (tgt := 54) hX.1 dX8_as_50 (by decide) ?_
              refine k_iret hX dX8_as_54 rfl ?_
              refine ⟨?_, hR, sameC.rf g⟩
              rw [rAs, if_pos hin, if_pos hw2, Int.toNat_natCast]
              first | rw [if_pos (by omega)] | rw [if_neg (by omega)]
            · skip
              refine k_iload_n hX.1 dX8_as_39 rfl rfl ?_
              refine k_iconst hX.1 dX8_as_40 ?_
              refine k_icmp_ne (tgt := 53) hX.1 dX8_as_41 (by decide) (by omega) (by omega) (fun c_41 => ?_) (fun c_41 => ?_)
              · skip
                refine k_iconst hX.1 dX8_as_53 ?_
                refine k_iret hX dX8_as_54 rfl ?_
                refine ⟨?_, hR, sameC.rf g⟩
                rw [rAs, if_pos hin, if_pos hw2, Int.toNat_natCast]
                first | rw [if_pos (by omega)] | rw [if_neg (by omega)]
              · skip
                refine k_iload_n hX.1 dX8_as_44 rfl rfl ?_
                refine k_iconst hX.1 dX8_as_45 ?_
                refine k_icmp_ne (tgt := 53) hX.1 dX8_as_46 (by decide) (by omega) (by omega) (fun c_46 => ?_) (fun c_46 => ?_)
                · skip
                  refine k_iconst hX.1 dX8_as_53 ?_
                  refine k_iret hX dX8_as_54 rfl ?_
                  refine ⟨?_, hR, sameC.rf g⟩
                  rw [rAs, if_pos hin, if_pos hw2, Int.toNat_natCast]
                  first | rw [if_pos (by omega)] | rw [if_neg (by omega)]
                · skip
                  refine k_iload_n hX.1 dX8_as_49 rfl rfl ?_
                  refine k_goto (tgt := 54) hX.1 dX8_as_50 (by decide) ?_
                  refine k_iret hX dX8_as_54 rfl ?_
                  refine ⟨?_, hR, sameC.rf g⟩
                  rw [rAs, if_pos hin, if_pos hw2, Int.toNat_natCast]
                  first | rw [if_pos (by omega)] | rw [if_neg (by omega)]
        · skip
          exact absurd c_17 (by decide)
      · skip
        exact absurd c_5 (by decide)
    · skip
      refine k_aload_n hX.1 dX8_as_0 rfl rfl ?_
      refine k_iload_n hX.1 dX8_as_1 rfl rfl ?_
      refine k_callVf (d2 := 2) (n := 1) (as := [_]) hX.1 dX8_as_2 lkX8_148 (fit_of hX (by omega) gmX8_isPart) rfl rfl (by decide) rfl rfl rfl (Nat.le_of_ble_eq_true rfl) (cM_isPart1 E g (by omega) (by omega) (by omega)) ?_
      refine k_if_ne (tgt := 11) hX.1 dX8_as_5 (by decide) (by omega) (fun c_5 => ?_) (fun c_5 => ?_)
      · skip
        refine k_iload_n hX.1 dX8_as_11 rfl rfl ?_
        refine k_iconst hX.1 dX8_as_12 ?_
        refine k_iconst hX.1 dX8_as_13 ?_
        refine k_callSf (d2 := 1) (n := 3) (as := [_, _, _]) hX.1 dX8_as_14 lkX8_86 (fit_of hX (by omega) gmX8_within) rfl rfl (Nat.le_of_ble_eq_true rfl) (cM_within0 E g (by omega) (by omega) (by omega) (by omega)) ?_
        refine k_if_ne (tgt := 23) hX.1 dX8_as_17 (by decide) (by omega) (fun c_17 => ?_) (fun c_17 => ?_)
        · skip
          exact absurd rfl c_17
        · skip
          refine k_bipush hX.1 dX8_as_20 (by decide) ?_
          refine k_iret hX dX8_as_22 rfl ?_
          refine ⟨?_, hR, sameC.rf g⟩
          rw [rAs, if_pos hin, if_neg hw2]
      · skip
        exact absurd c_5 (by decide)
  · skip
    refine k_aload_n hX.1 dX8_as_0 rfl rfl ?_
    refine k_iload_n hX.1 dX8_as_1 rfl rfl ?_
    refine k_callVf (d2 := 2) (n := 1) (as := [_]) hX.1 dX8_as_2 lkX8_148 (fit_of hX (by omega) gmX8_isPart) rfl rfl (by decide) rfl rfl rfl (Nat.le_of_ble_eq_true rfl) (cM_isPart0 E g (by omega) (by omega) (by omega)) ?_
    refine k_if_ne (tgt := 11) hX.1 dX8_as_5 (by decide) (by omega) (fun c_5 => ?_) (fun c_5 => ?_)
    · skip
      exact absurd rfl c_5
    · skip
      refine k_bipush hX.1 dX8_as_8 (by decide) ?_
      refine k_iret hX dX8_as_10 rfl ?_
      refine ⟨?_, hR, sameC.rf g⟩
      rw [rAs, if_neg hin]

set_option maxRecDepth 100000 in
set_option maxHeartbeats 4000000 in
theorem c8_lotOf (E : En) {A : St} {g : Mm} {n : Int} (hR : RM A g) (hW : Wf A n) {q w : Int} (hq : bd q) (hw : bd w) : Ok E 5 mX8_lotOf [vR 46, vI q, vI w] g (fun r g' => r = some (vI (rLotOf A q w)) ∧ RM (A) g' ∧ sameC g g') := by
  have hM0 := hR.1
  have hW0 := hW.1
  obtain ⟨⟨⟨hm1, hm2, hm3⟩, hmp, hml⟩, ⟨hg1, hg2⟩, ⟨ht1, ht2, ht3, ⟨ht4, ht5⟩, ht6⟩, hmk⟩ := id hR
  obtain ⟨⟨⟨hw1, hw2, hw3, hw4, hw5, hw6, hw7, hw8⟩, hwp, hwl⟩, ⟨hq1, hq2, hq3⟩, ⟨hz1, ⟨hz2, hz3⟩, ⟨hz4, hz5⟩⟩, hwk⟩ := id hW
  refine Ok_of gmX8_lotOf (by omega) (Nat.le_of_ble_eq_true rfl) (fun X hX => ?_)
  show V E X 0 [some (vR 46), some (vI q), some (vI w)] [] g
  by_cases hin : 0 ≤ q ∧ q < A 12 2
  · skip
    obtain ⟨t, rfl⟩ : ∃ m : Nat, q = (m : Int) := ⟨q.toNat, by omega⟩
    by_cases hw2 : 0 ≤ w ∧ w ≤ 2
    · skip
      refine k_aload_n hX.1 dX8_lotOf_0 rfl rfl ?_
      refine k_iload_n hX.1 dX8_lotOf_1 rfl rfl ?_
      refine k_callVf (d2 := 2) (n := 1) (as := [_]) hX.1 dX8_lotOf_2 lkX8_156 (fit_of hX (by omega) gmX8_isLot) rfl rfl (by decide) rfl rfl rfl (Nat.le_of_ble_eq_true rfl) (cM_isLot1 E g (by omega) (by omega) (by omega)) ?_
      refine k_if_ne (tgt := 13) hX.1 dX8_lotOf_5 (by decide) (by omega) (fun c_5 => ?_) (fun c_5 => ?_)
      · skip
        refine k_iload_n hX.1 dX8_lotOf_13 rfl rfl ?_
        refine k_iconst hX.1 dX8_lotOf_14 ?_
        refine k_iconst hX.1 dX8_lotOf_15 ?_
        refine k_callSf (d2 := 1) (n := 3) (as := [_, _, _]) hX.1 dX8_lotOf_16 lkX8_86 (fit_of hX (by omega) gmX8_within) rfl rfl (Nat.le_of_ble_eq_true rfl) (cM_within1 E g (by omega) (by omega) (by omega) (by omega)) ?_
        refine k_if_eq (tgt := 31) hX.1 dX8_lotOf_19 (by decide) (by omega) (fun c_19 => ?_) (fun c_19 => ?_)
        · skip
          exact absurd c_19 (by decide)
        · skip
          refine k_aload_n hX.1 dX8_lotOf_22 rfl rfl ?_
          refine k_iload_n hX.1 dX8_lotOf_23 rfl rfl ?_
          refine k_iload_n hX.1 dX8_lotOf_24 rfl rfl ?_
          refine k_callVf (d2 := 1) (n := 2) (as := [_, _]) hX.1 dX8_lotOf_25 lkX8_159 (fit_of hX (by omega) gmX8_lotNow) rfl rfl (by decide) rfl rfl rfl (Nat.le_of_ble_eq_true rfl) (cM_lotNow E hM0 hW0 (t := t) (by omega) (by omega)) ?_
          refine k_goto (tgt := 33) hX.1 dX8_lotOf_28 (by decide) ?_
          refine k_iret hX dX8_lotOf_33 rfl ?_
          refine ⟨?_, hR, sameC.rf g⟩
          rw [rLotOf, if_pos hin, if_pos hw2, Int.toNat_natCast]
      · skip
        exact absurd c_5 (by decide)
    · skip
      refine k_aload_n hX.1 dX8_lotOf_0 rfl rfl ?_
      refine k_iload_n hX.1 dX8_lotOf_1 rfl rfl ?_
      refine k_callVf (d2 := 2) (n := 1) (as := [_]) hX.1 dX8_lotOf_2 lkX8_156 (fit_of hX (by omega) gmX8_isLot) rfl rfl (by decide) rfl rfl rfl (Nat.le_of_ble_eq_true rfl) (cM_isLot1 E g (by omega) (by omega) (by omega)) ?_
      refine k_if_ne (tgt := 13) hX.1 dX8_lotOf_5 (by decide) (by omega) (fun c_5 => ?_) (fun c_5 => ?_)
      · skip
        refine k_iload_n hX.1 dX8_lotOf_13 rfl rfl ?_
        refine k_iconst hX.1 dX8_lotOf_14 ?_
        refine k_iconst hX.1 dX8_lotOf_15 ?_
        refine k_callSf (d2 := 1) (n := 3) (as := [_, _, _]) hX.1 dX8_lotOf_16 lkX8_86 (fit_of hX (by omega) gmX8_within) rfl rfl (Nat.le_of_ble_eq_true rfl) (cM_within0 E g (by omega) (by omega) (by omega) (by omega)) ?_
        refine k_if_eq (tgt := 31) hX.1 dX8_lotOf_19 (by decide) (by omega) (fun c_19 => ?_) (fun c_19 => ?_)
        · skip
          refine k_bipush hX.1 dX8_lotOf_31 (by decide) ?_
          refine k_iret hX dX8_lotOf_33 rfl ?_
          refine ⟨?_, hR, sameC.rf g⟩
          rw [rLotOf, if_pos hin, if_neg hw2]
        · skip
          exact absurd rfl c_19
      · skip
        exact absurd c_5 (by decide)
  · skip
    refine k_aload_n hX.1 dX8_lotOf_0 rfl rfl ?_
    refine k_iload_n hX.1 dX8_lotOf_1 rfl rfl ?_
    refine k_callVf (d2 := 2) (n := 1) (as := [_]) hX.1 dX8_lotOf_2 lkX8_156 (fit_of hX (by omega) gmX8_isLot) rfl rfl (by decide) rfl rfl rfl (Nat.le_of_ble_eq_true rfl) (cM_isLot0 E g (by omega) (by omega) (by omega)) ?_
    refine k_if_ne (tgt := 13) hX.1 dX8_lotOf_5 (by decide) (by omega) (fun c_5 => ?_) (fun c_5 => ?_)
    · skip
      exact absurd rfl c_5
    · skip
      refine k_bipush hX.1 dX8_lotOf_8 (by decide) ?_
      refine k_goto (tgt := 33) hX.1 dX8_lotOf_10 (by decide) ?_
      refine k_iret hX dX8_lotOf_33 rfl ?_
      refine ⟨?_, hR, sameC.rf g⟩
      rw [rLotOf, if_neg hin]

set_option maxRecDepth 100000 in
set_option maxHeartbeats 4000000 in
theorem c8_wanted (E : En) {A : St} {g : Mm} {n : Int} (hR : RM A g) (hW : Wf A n) {q w : Int} (hq : bd q) (hw : bd w) : Ok E 5 mX8_wanted [vR 46, vI q, vI w] g (fun r g' => r = some (vI (rWanted A q w)) ∧ RM (A) g' ∧ sameC g g') := by
  have hM0 := hR.1
  have hW0 := hW.1
  obtain ⟨⟨⟨hm1, hm2, hm3⟩, hmp, hml⟩, ⟨hg1, hg2⟩, ⟨ht1, ht2, ht3, ⟨ht4, ht5⟩, ht6⟩, hmk⟩ := id hR
  obtain ⟨⟨⟨hw1, hw2, hw3, hw4, hw5, hw6, hw7, hw8⟩, hwp, hwl⟩, ⟨hq1, hq2, hq3⟩, ⟨hz1, ⟨hz2, hz3⟩, ⟨hz4, hz5⟩⟩, hwk⟩ := id hW
  refine Ok_of gmX8_wanted (by omega) (Nat.le_of_ble_eq_true rfl) (fun X hX => ?_)
  show V E X 0 [some (vR 46), some (vI q), some (vI w)] [] g
  by_cases hin : 0 ≤ q ∧ q < A 12 2
  · skip
    obtain ⟨t, rfl⟩ : ∃ m : Nat, q = (m : Int) := ⟨q.toNat, by omega⟩
    by_cases hw2 : 0 ≤ w ∧ w ≤ 1
    · skip
      refine k_aload_n hX.1 dX8_wanted_0 rfl rfl ?_
      refine k_iload_n hX.1 dX8_wanted_1 rfl rfl ?_
      refine k_callVf (d2 := 2) (n := 1) (as := [_]) hX.1 dX8_wanted_2 lkX8_156 (fit_of hX (by omega) gmX8_isLot) rfl rfl (by decide) rfl rfl rfl (Nat.le_of_ble_eq_true rfl) (cM_isLot1 E g (by omega) (by omega) (by omega)) ?_
      refine k_if_ne (tgt := 11) hX.1 dX8_wanted_5 (by decide) (by omega) (fun c_5 => ?_) (fun c_5 => ?_)
      · skip
        refine k_iload_n hX.1 dX8_wanted_11 rfl rfl ?_
        refine k_iconst hX.1 dX8_wanted_12 ?_
        refine k_iconst hX.1 dX8_wanted_13 ?_
        refine k_callSf (d2 := 1) (n := 3) (as := [_, _, _]) hX.1 dX8_wanted_14 lkX8_86 (fit_of hX (by omega) gmX8_within) rfl rfl (Nat.le_of_ble_eq_true rfl) (cM_within1 E g (by omega) (by omega) (by omega) (by omega)) ?_
        refine k_if_eq (tgt := 29) hX.1 dX8_wanted_17 (by decide) (by omega) (fun c_17 => ?_) (fun c_17 => ?_)
        · skip
          exact absurd c_17 (by decide)
        · skip
          refine k_aload_n hX.1 dX8_wanted_20 rfl rfl ?_
          refine k_iload_n hX.1 dX8_wanted_21 rfl rfl ?_
          refine k_iload_n hX.1 dX8_wanted_22 rfl rfl ?_
          refine k_callVf (d2 := 2) (n := 2) (as := [_, _]) hX.1 dX8_wanted_23 lkX8_200 (fit_of hX (by omega) gmX8_wantedNow) rfl rfl (by decide) rfl rfl rfl (Nat.le_of_ble_eq_true rfl) (cM_wantedNow E hM0 hW0 (t := t) (by omega) (by omega)) ?_
          refine k_goto (tgt := 31) hX.1 dX8_wanted_26 (by decide) ?_
          refine k_iret hX dX8_wanted_31 rfl ?_
          refine ⟨?_, hR, sameC.rf g⟩
          rw [rWanted, if_pos hin, if_pos hw2, Int.toNat_natCast]
      · skip
        exact absurd c_5 (by decide)
    · skip
      refine k_aload_n hX.1 dX8_wanted_0 rfl rfl ?_
      refine k_iload_n hX.1 dX8_wanted_1 rfl rfl ?_
      refine k_callVf (d2 := 2) (n := 1) (as := [_]) hX.1 dX8_wanted_2 lkX8_156 (fit_of hX (by omega) gmX8_isLot) rfl rfl (by decide) rfl rfl rfl (Nat.le_of_ble_eq_true rfl) (cM_isLot1 E g (by omega) (by omega) (by omega)) ?_
      refine k_if_ne (tgt := 11) hX.1 dX8_wanted_5 (by decide) (by omega) (fun c_5 => ?_) (fun c_5 => ?_)
      · skip
        refine k_iload_n hX.1 dX8_wanted_11 rfl rfl ?_
        refine k_iconst hX.1 dX8_wanted_12 ?_
        refine k_iconst hX.1 dX8_wanted_13 ?_
        refine k_callSf (d2 := 1) (n := 3) (as := [_, _, _]) hX.1 dX8_wanted_14 lkX8_86 (fit_of hX (by omega) gmX8_within) rfl rfl (Nat.le_of_ble_eq_true rfl) (cM_within0 E g (by omega) (by omega) (by omega) (by omega)) ?_
        refine k_if_eq (tgt := 29) hX.1 dX8_wanted_17 (by decide) (by omega) (fun c_17 => ?_) (fun c_17 => ?_)
        · skip
          refine k_bipush hX.1 dX8_wanted_29 (by decide) ?_
          refine k_iret hX dX8_wanted_31 rfl ?_
          refine ⟨?_, hR, sameC.rf g⟩
          rw [rWanted, if_pos hin, if_neg hw2]
        · skip
          exact absurd rfl c_17
      · skip
        exact absurd c_5 (by decide)
  · skip
    refine k_aload_n hX.1 dX8_wanted_0 rfl rfl ?_
    refine k_iload_n hX.1 dX8_wanted_1 rfl rfl ?_
    refine k_callVf (d2 := 2) (n := 1) (as := [_]) hX.1 dX8_wanted_2 lkX8_156 (fit_of hX (by omega) gmX8_isLot) rfl rfl (by decide) rfl rfl rfl (Nat.le_of_ble_eq_true rfl) (cM_isLot0 E g (by omega) (by omega) (by omega)) ?_
    refine k_if_ne (tgt := 11) hX.1 dX8_wanted_5 (by decide) (by omega) (fun c_5 => ?_) (fun c_5 => ?_)
    · skip
      exact absurd rfl c_5
    · skip
      refine k_bipush hX.1 dX8_wanted_8 (by decide) ?_
      refine k_iret hX dX8_wanted_10 rfl ?_
      refine ⟨?_, hR, sameC.rf g⟩
      rw [rWanted, if_neg hin]

set_option maxRecDepth 100000 in
set_option maxHeartbeats 4000000 in
theorem cM_howMany (E : En) {A : St} {g : Mm} {n : Int} (hR : RM A g) (hW : Wf A n) {q : Int} (hq : bd q) : Fn E 5 mX8_howMany [vR 46, vI q] g (vI (rCount A q)) := by
  have hM0 := hR.1
  have hW0 := hW.1
  obtain ⟨⟨⟨hm1, hm2, hm3⟩, hmp, hml⟩, ⟨hg1, hg2⟩, ⟨ht1, ht2, ht3, ⟨ht4, ht5⟩, ht6⟩, hmk⟩ := id hR
  obtain ⟨⟨⟨hw1, hw2, hw3, hw4, hw5, hw6, hw7, hw8⟩, hwp, hwl⟩, ⟨hq1, hq2, hq3⟩, ⟨hz1, ⟨hz2, hz3⟩, ⟨hz4, hz5⟩⟩, hwk⟩ := id hW
  have hk := oP_kC A (A 12 0).toNat
  refine Ok_of gmX8_howMany (by omega) (Nat.le_of_ble_eq_true rfl) (fun X hX => ?_)
  show V E X 0 [some (vR 46), some (vI q)] [] g
  refine k_iload_n hX.1 dX8_howMany_0 rfl rfl ?_
  rcases (show q = 0 ∨ q = 1 ∨ q = 2 ∨ q = 3 ∨ q = 4 ∨ q = 5 ∨ q = 6 ∨ q = 7 ∨ q = 8 ∨ q = 9 ∨ q = 10 ∨ (¬ q = 0 ∧ ¬ q = 1 ∧ ¬ q = 2 ∧ ¬ q = 3 ∧ ¬ q = 4 ∧ ¬ q = 5 ∧ ¬ q = 6 ∧ ¬ q = 7 ∧ ¬ q = 8 ∧ ¬ q = 9 ∧ ¬ q = 10) by omega) with s_1 | s_1 | s_1 | s_1 | s_1 | s_1 | s_1 | s_1 | s_1 | s_1 | s_1 | s_1
  · refine k_tableIn (tgt := 60) (off := 59) hX.1 dX8_howMany_1 (by omega) (by omega) (by omega) (by rw [s_1]; rfl) (by decide) ?_
    skip
    refine k_aload_n hX.1 dX8_howMany_60 rfl rfl ?_
    refine k_geti hX.1 dX8_howMany_61 flX8_119 rfl (by decide) rfl ?_
    refine k_iret hX dX8_howMany_64 rfl ?_
    refine ⟨?_, rfl⟩
    congr 2
    first | (simp only [rCount, cA, s_1]; simp; done) | (simp only [rCount, cA, s_1]; simp; assumption) | (unfold rCount; rw [if_pos (by omega)])
  · refine k_tableIn (tgt := 65) (off := 64) hX.1 dX8_howMany_1 (by omega) (by omega) (by omega) (by rw [s_1]; rfl) (by decide) ?_
    skip
    refine k_aload_n hX.1 dX8_howMany_65 rfl rfl ?_
    refine k_geti hX.1 dX8_howMany_66 flX8_122 rfl (by decide) rfl ?_
    refine k_iret hX dX8_howMany_69 rfl ?_
    refine ⟨?_, rfl⟩
    congr 2
    first | (simp only [rCount, cA, s_1]; simp; done) | (simp only [rCount, cA, s_1]; simp; assumption) | (unfold rCount; rw [if_pos (by omega)])
  · refine k_tableIn (tgt := 70) (off := 69) hX.1 dX8_howMany_1 (by omega) (by omega) (by omega) (by rw [s_1]; rfl) (by decide) ?_
    skip
    refine k_aload_n hX.1 dX8_howMany_70 rfl rfl ?_
    refine k_geti hX.1 dX8_howMany_71 flX8_132 rfl (by decide) rfl ?_
    refine k_iret hX dX8_howMany_74 rfl ?_
    refine ⟨?_, rfl⟩
    congr 2
    first | (simp only [rCount, cA, s_1]; simp; done) | (simp only [rCount, cA, s_1]; simp; assumption) | (unfold rCount; rw [if_pos (by omega)])
  · refine k_tableIn (tgt := 75) (off := 74) hX.1 dX8_howMany_1 (by omega) (by omega) (by omega) (by rw [s_1]; rfl) (by decide) ?_
    skip
    refine k_aload_n hX.1 dX8_howMany_75 rfl rfl ?_
    refine k_geti hX.1 dX8_howMany_76 flX8_119 rfl (by decide) rfl ?_
    refine k_aload_n hX.1 dX8_howMany_79 rfl rfl ?_
    refine k_callVf (d2 := 1) (n := 0) (as := []) hX.1 dX8_howMany_80 lkX8_181 (fit_of hX (by omega) gmX8_openParts) rfl rfl (by decide) rfl rfl rfl (Nat.le_of_ble_eq_true rfl) (cM_openParts E hM0 hW0) ?_
    refine k_isub hX.1 dX8_howMany_83 ?_
    refine k_iret hX dX8_howMany_84 rfl ?_
    refine ⟨?_, rfl⟩
    congr 2
    simp only [rCount, cA, s_1]
    simp
    unfold kC oP
    omega
  · refine k_tableIn (tgt := 85) (off := 84) hX.1 dX8_howMany_1 (by omega) (by omega) (by omega) (by rw [s_1]; rfl) (by decide) ?_
    skip
    refine k_aload_n hX.1 dX8_howMany_85 rfl rfl ?_
    refine k_callVf (d2 := 4) (n := 0) (as := []) hX.1 dX8_howMany_86 lkX8_172 (fit_of hX (by omega) gmX8_seenAll) rfl rfl (by decide) rfl rfl rfl (Nat.le_of_ble_eq_true rfl) (cM_seenAll E hM0 hW0) ?_
    refine k_iret hX dX8_howMany_89 rfl ?_
    refine ⟨?_, rfl⟩
    congr 2
    first | (simp only [rCount, cA, s_1]; simp; done) | (simp only [rCount, cA, s_1]; simp; assumption) | (unfold rCount; rw [if_pos (by omega)])
  · refine k_tableIn (tgt := 90) (off := 89) hX.1 dX8_howMany_1 (by omega) (by omega) (by omega) (by rw [s_1]; rfl) (by decide) ?_
    skip
    refine k_aload_n hX.1 dX8_howMany_90 rfl rfl ?_
    refine k_iconst hX.1 dX8_howMany_91 ?_
    refine k_callVf (d2 := 2) (n := 1) (as := [_]) hX.1 dX8_howMany_92 lkX8_251 (fit_of hX (by omega) gmX8_sum) rfl rfl (by decide) rfl rfl rfl (Nat.le_of_ble_eq_true rfl) (cM_sum E hM0 hW0 (by omega)) ?_
    refine k_iret hX dX8_howMany_95 rfl ?_
    refine ⟨?_, rfl⟩
    congr 2
    first | (simp only [rCount, cA, s_1]; simp; done) | (simp only [rCount, cA, s_1]; simp; assumption) | (unfold rCount; rw [if_pos (by omega)])
  · refine k_tableIn (tgt := 96) (off := 95) hX.1 dX8_howMany_1 (by omega) (by omega) (by omega) (by rw [s_1]; rfl) (by decide) ?_
    skip
    refine k_aload_n hX.1 dX8_howMany_96 rfl rfl ?_
    refine k_iconst hX.1 dX8_howMany_97 ?_
    refine k_callVf (d2 := 2) (n := 1) (as := [_]) hX.1 dX8_howMany_98 lkX8_251 (fit_of hX (by omega) gmX8_sum) rfl rfl (by decide) rfl rfl rfl (Nat.le_of_ble_eq_true rfl) (cM_sum E hM0 hW0 (by omega)) ?_
    refine k_iret hX dX8_howMany_101 rfl ?_
    refine ⟨?_, rfl⟩
    congr 2
    first | (simp only [rCount, cA, s_1]; simp; done) | (simp only [rCount, cA, s_1]; simp; assumption) | (unfold rCount; rw [if_pos (by omega)])
  · refine k_tableIn (tgt := 102) (off := 101) hX.1 dX8_howMany_1 (by omega) (by omega) (by omega) (by rw [s_1]; rfl) (by decide) ?_
    skip
    refine k_aload_n hX.1 dX8_howMany_102 rfl rfl ?_
    refine k_callVf (d2 := 1) (n := 0) (as := []) hX.1 dX8_howMany_103 lkX8_254 (fit_of hX (by omega) gmX8_foundMany) rfl rfl (by decide) rfl rfl rfl (Nat.le_of_ble_eq_true rfl) (cM_foundMany E hM0 hW0) ?_
    refine k_iret hX dX8_howMany_106 rfl ?_
    refine ⟨?_, rfl⟩
    congr 2
    first | (simp only [rCount, cA, s_1]; simp; done) | (simp only [rCount, cA, s_1]; simp; assumption) | (unfold rCount; rw [if_pos (by omega)])
  · refine k_tableIn (tgt := 107) (off := 106) hX.1 dX8_howMany_1 (by omega) (by omega) (by omega) (by rw [s_1]; rfl) (by decide) ?_
    skip
    refine k_aload_n hX.1 dX8_howMany_107 rfl rfl ?_
    refine k_geti hX.1 dX8_howMany_108 flX8_90 rfl (by decide) rfl ?_
    refine k_iret hX dX8_howMany_111 rfl ?_
    refine ⟨?_, rfl⟩
    congr 2
    first | (simp only [rCount, cA, s_1]; simp; done) | (simp only [rCount, cA, s_1]; simp; assumption) | (unfold rCount; rw [if_pos (by omega)])
  · refine k_tableIn (tgt := 112) (off := 111) hX.1 dX8_howMany_1 (by omega) (by omega) (by omega) (by rw [s_1]; rfl) (by decide) ?_
    skip
    refine k_aload_n hX.1 dX8_howMany_112 rfl rfl ?_
    refine k_geti hX.1 dX8_howMany_113 flX8_129 rfl (by decide) rfl ?_
    refine k_iret hX dX8_howMany_116 rfl ?_
    refine ⟨?_, rfl⟩
    congr 2
    first | (simp only [rCount, cA, s_1]; simp; done) | (simp only [rCount, cA, s_1]; simp; assumption) | (unfold rCount; rw [if_pos (by omega)])
  · refine k_tableIn (tgt := 117) (off := 116) hX.1 dX8_howMany_1 (by omega) (by omega) (by omega) (by rw [s_1]; rfl) (by decide) ?_
    skip
    refine k_aload_n hX.1 dX8_howMany_117 rfl rfl ?_
    refine k_geti hX.1 dX8_howMany_118 flX8_194 rfl (by decide) rfl ?_
    refine k_iret hX dX8_howMany_121 rfl ?_
    refine ⟨?_, rfl⟩
    congr 2
    first | (simp only [rCount, cA, s_1]; simp; done) | (simp only [rCount, cA, s_1]; simp; assumption) | (unfold rCount; rw [if_pos (by omega)])
  · refine k_tableOut (tgt := 122) hX.1 dX8_howMany_1 (by omega) (by omega) (by decide) ?_
    skip
    refine k_bipush hX.1 dX8_howMany_122 (by decide) ?_
    refine k_iret hX dX8_howMany_124 rfl ?_
    refine ⟨?_, rfl⟩
    congr 2
    first | (simp only [rCount, cA, s_1]; simp; done) | (simp only [rCount, cA, s_1]; simp; assumption) | (unfold rCount; rw [if_pos (by omega)])

set_option maxRecDepth 100000 in
set_option maxHeartbeats 4000000 in
theorem c8_count (E : En) {A : St} {g : Mm} {n : Int} (hR : RM A g) (hW : Wf A n) {q : Int} (hq : bd q) : Ok E 6 mX8_count [vR 46, vI q] g (fun r g' => r = some (vI (rCount A q)) ∧ RM (A) g' ∧ sameC g g') := by
  refine Ok_of gmX8_count (by omega) (Nat.le_of_ble_eq_true rfl) (fun X hX => ?_)
  show V E X 0 [some (vR 46), some (vI q)] [] g
  refine k_aload_n hX.1 dX8_count_0 rfl rfl ?_
  refine k_iload_n hX.1 dX8_count_1 rfl rfl ?_
  refine k_callVf (d2 := 5) (n := 1) (as := [_]) hX.1 dX8_count_2 lkX8_257 (fit_of hX (by omega) gmX8_howMany) rfl rfl (by decide) rfl rfl rfl (Nat.le_of_ble_eq_true rfl) (cM_howMany E hR hW hq) ?_
  refine k_iret hX dX8_count_5 rfl ?_
  exact ⟨rfl, hR, sameC.rf g⟩

set_option maxRecDepth 100000 in
set_option maxHeartbeats 4000000 in
theorem c8_buy (E : En) {A : St} {g : Mm} {n : Int} (hR : RM A g) (hW : Wf A n) {q w : Int} (hq : bd q) (hw : bd w) : Ok E 5 mX8_buy [vR 46, vI q, vI w] g (fun r g' => r = some (vI (rBuy A q w)) ∧ RM (nBuy A q w) g' ∧ sameC g g') := by
  have hM0 := hR.1
  have hW0 := hW.1
  obtain ⟨⟨⟨hm1, hm2, hm3⟩, hmp, hml⟩, ⟨hg1, hg2⟩, ⟨ht1, ht2, ht3, ⟨ht4, ht5⟩, ht6⟩, hmk⟩ := id hR
  obtain ⟨⟨⟨hw1, hw2, hw3, hw4, hw5, hw6, hw7, hw8⟩, hwp, hwl⟩, ⟨hq1, hq2, hq3⟩, ⟨hz1, ⟨hz2, hz3⟩, ⟨hz4, hz5⟩⟩, hwk⟩ := id hW
  refine Ok_of gmX8_buy (by omega) (Nat.le_of_ble_eq_true rfl) (fun X hX => ?_)
  show V E X 0 [some (vR 46), some (vI q), some (vI w)] [] g
  by_cases hin : 0 ≤ q ∧ q < A 12 2
  · skip
    obtain ⟨t, rfl⟩ : ∃ m : Nat, q = (m : Int) := ⟨q.toNat, by omega⟩
    obtain ⟨e0, e1, e2⟩ := hml (t) (by omega)
    obtain ⟨⟨ea, eb⟩, ⟨ec, ed⟩, ⟨ee, ef⟩⟩ := hwl (t) (by omega)
    by_cases hw2 : 1 ≤ w ∧ w ≤ 9
    · skip
      refine k_aload_n hX.1 dX8_buy_0 rfl rfl ?_
      refine k_iload_n hX.1 dX8_buy_1 rfl rfl ?_
      refine k_callVf (d2 := 2) (n := 1) (as := [_]) hX.1 dX8_buy_2 lkX8_156 (fit_of hX (by omega) gmX8_isLot) rfl rfl (by decide) rfl rfl rfl (Nat.le_of_ble_eq_true rfl) (cM_isLot1 E g (by omega) (by omega) (by omega)) ?_
      refine k_if_ne (tgt := 11) hX.1 dX8_buy_5 (by decide) (by omega) (fun c_5 => ?_) (fun c_5 => ?_)
      · skip
        refine k_iload_n hX.1 dX8_buy_11 rfl rfl ?_
        refine k_iconst hX.1 dX8_buy_12 ?_
        refine k_bipush hX.1 dX8_buy_13 (by decide) ?_
        refine k_callSf (d2 := 1) (n := 3) (as := [_, _, _]) hX.1 dX8_buy_15 lkX8_86 (fit_of hX (by omega) gmX8_within) rfl rfl (Nat.le_of_ble_eq_true rfl) (cM_within1 E g (by omega) (by omega) (by omega) (by omega)) ?_
        refine k_if_ne (tgt := 24) hX.1 dX8_buy_18 (by decide) (by omega) (fun c_18 => ?_) (fun c_18 => ?_)
        · skip
          refine k_aload_n hX.1 dX8_buy_24 rfl rfl ?_
          refine k_getr (t := 56) hX.1 dX8_buy_25 flX8_37 rfl (by decide) rfl rfl ?_
          refine k_iload_n hX.1 dX8_buy_28 rfl rfl ?_
          refine k_iald (j := t) hX.1 dX8_buy_29 rfl (by omega) (n := 3) rfl (by omega) (by omega) ?_
          refine k_iload_n hX.1 dX8_buy_30 rfl rfl ?_
          refine k_iadd hX.1 dX8_buy_31 ?_
          refine k_bipush hX.1 dX8_buy_32 (by decide) ?_
          refine k_icmp_le (tgt := 40) hX.1 dX8_buy_34 (by decide) (by omega) (by omega) (fun c_34 => ?_) (fun c_34 => ?_)
          · skip
            refine k_aload_n hX.1 dX8_buy_40 rfl rfl ?_
            refine k_getr (t := 56) hX.1 dX8_buy_41 flX8_37 rfl (by decide) rfl rfl ?_
            refine k_iload_n hX.1 dX8_buy_44 rfl rfl ?_
            refine k_dup2 hX.1 dX8_buy_45 ?_
            refine k_iald (j := t) hX.1 dX8_buy_46 rfl (by omega) (n := 3) rfl (by omega) (by omega) ?_
            refine k_iload_n hX.1 dX8_buy_47 rfl rfl ?_
            refine k_iadd hX.1 dX8_buy_48 ?_
            refine k_iast (j := t) hX.1 dX8_buy_49 rfl (by omega) (n := 3) rfl (by omega) (by omega) ?_
            refine k_aload_n hX.1 dX8_buy_50 rfl rfl ?_
            refine k_getr (t := 56) hX.1 dX8_buy_51 flX8_37 rfl (by decide) rfl rfl ?_
            refine k_iload_n hX.1 dX8_buy_54 rfl rfl ?_
            refine k_iald (j := t) hX.1 dX8_buy_55 rfl (by omega) (n := 3) rfl (by omega) (by omega) ?_
            refine k_top (b := g.1 56 t + w) (by rw [wr_at]) ?_
            refine k_iret hX dX8_buy_56 rfl ?_
            refine ⟨?_, ?_, (sameC.rf g).wr (by omega)⟩
            · congr 2
              unfold rBuy
              rw [Int.toNat_natCast]
              (repeat first | rw [if_pos (by omega)] | rw [if_neg (by omega)])
              omega
            · unfold nBuy
              rw [Int.toNat_natCast]
              (repeat first | rw [if_pos (by omega)] | rw [if_neg (by omega)])
              rw [e1]
              exact RM_lot (j := 1) hR (by omega) _
          · skip
            refine k_bipush hX.1 dX8_buy_37 (by decide) ?_
            refine k_iret hX dX8_buy_39 rfl ?_
            refine ⟨?_, ?_, sameC.rf g⟩
            · congr 2
              unfold rBuy
              try rw [Int.toNat_natCast]
              (repeat first | rw [if_pos (by omega)] | rw [if_neg (by omega)])
            · unfold nBuy
              try rw [Int.toNat_natCast]
              (repeat first | rw [if_pos (by omega)] | rw [if_neg (by omega)])
              exact hR
        · skip
          exact absurd c_18 (by decide)
      · skip
        exact absurd c_5 (by decide)
    · skip
      refine k_aload_n hX.1 dX8_buy_0 rfl rfl ?_
      refine k_iload_n hX.1 dX8_buy_1 rfl rfl ?_
      refine k_callVf (d2 := 2) (n := 1) (as := [_]) hX.1 dX8_buy_2 lkX8_156 (fit_of hX (by omega) gmX8_isLot) rfl rfl (by decide) rfl rfl rfl (Nat.le_of_ble_eq_true rfl) (cM_isLot1 E g (by omega) (by omega) (by omega)) ?_
      refine k_if_ne (tgt := 11) hX.1 dX8_buy_5 (by decide) (by omega) (fun c_5 => ?_) (fun c_5 => ?_)
      · skip
        refine k_iload_n hX.1 dX8_buy_11 rfl rfl ?_
        refine k_iconst hX.1 dX8_buy_12 ?_
        refine k_bipush hX.1 dX8_buy_13 (by decide) ?_
        refine k_callSf (d2 := 1) (n := 3) (as := [_, _, _]) hX.1 dX8_buy_15 lkX8_86 (fit_of hX (by omega) gmX8_within) rfl rfl (Nat.le_of_ble_eq_true rfl) (cM_within0 E g (by omega) (by omega) (by omega) (by omega)) ?_
        refine k_if_ne (tgt := 24) hX.1 dX8_buy_18 (by decide) (by omega) (fun c_18 => ?_) (fun c_18 => ?_)
        · skip
          exact absurd rfl c_18
        · skip
          refine k_bipush hX.1 dX8_buy_21 (by decide) ?_
          refine k_iret hX dX8_buy_23 rfl ?_
          refine ⟨?_, ?_, sameC.rf g⟩
          · congr 2
            unfold rBuy
            try rw [Int.toNat_natCast]
            (repeat first | rw [if_pos (by omega)] | rw [if_neg (by omega)])
          · unfold nBuy
            try rw [Int.toNat_natCast]
            (repeat first | rw [if_pos (by omega)] | rw [if_neg (by omega)])
            exact hR
      · skip
        exact absurd c_5 (by decide)
  · skip
    refine k_aload_n hX.1 dX8_buy_0 rfl rfl ?_
    refine k_iload_n hX.1 dX8_buy_1 rfl rfl ?_
    refine k_callVf (d2 := 2) (n := 1) (as := [_]) hX.1 dX8_buy_2 lkX8_156 (fit_of hX (by omega) gmX8_isLot) rfl rfl (by decide) rfl rfl rfl (Nat.le_of_ble_eq_true rfl) (cM_isLot0 E g (by omega) (by omega) (by omega)) ?_
    refine k_if_ne (tgt := 11) hX.1 dX8_buy_5 (by decide) (by omega) (fun c_5 => ?_) (fun c_5 => ?_)
    · skip
      exact absurd rfl c_5
    · skip
      refine k_bipush hX.1 dX8_buy_8 (by decide) ?_
      refine k_iret hX dX8_buy_10 rfl ?_
      refine ⟨?_, ?_, sameC.rf g⟩
      · congr 2
        unfold rBuy
        (repeat first | rw [if_pos (by omega)] | rw [if_neg (by omega)])
      · unfold nBuy
        (repeat first | rw [if_pos (by omega)] | rw [if_neg (by omega)])
        exact hR

set_option maxRecDepth 100000 in
set_option maxHeartbeats 4000000 in
theorem c8_back (E : En) {A : St} {g : Mm} {n : Int} (hR : RM A g) (hW : Wf A n) {q w : Int} (hq : bd q) (hw : bd w) : Ok E 5 mX8_back [vR 46, vI q, vI w] g (fun r g' => r = some (vI (rBack A q w)) ∧ RM (nBack A q w) g' ∧ sameC g g') := by
  have hM0 := hR.1
  have hW0 := hW.1
  obtain ⟨⟨⟨hm1, hm2, hm3⟩, hmp, hml⟩, ⟨hg1, hg2⟩, ⟨ht1, ht2, ht3, ⟨ht4, ht5⟩, ht6⟩, hmk⟩ := id hR
  obtain ⟨⟨⟨hw1, hw2, hw3, hw4, hw5, hw6, hw7, hw8⟩, hwp, hwl⟩, ⟨hq1, hq2, hq3⟩, ⟨hz1, ⟨hz2, hz3⟩, ⟨hz4, hz5⟩⟩, hwk⟩ := id hW
  refine Ok_of gmX8_back (by omega) (Nat.le_of_ble_eq_true rfl) (fun X hX => ?_)
  show V E X 0 [some (vR 46), some (vI q), some (vI w)] [] g
  by_cases hin : 0 ≤ q ∧ q < A 12 2
  · skip
    obtain ⟨t, rfl⟩ : ∃ m : Nat, q = (m : Int) := ⟨q.toNat, by omega⟩
    obtain ⟨e0, e1, e2⟩ := hml (t) (by omega)
    obtain ⟨⟨ea, eb⟩, ⟨ec, ed⟩, ⟨ee, ef⟩⟩ := hwl (t) (by omega)
    by_cases hw2 : 1 ≤ w ∧ w ≤ 9
    · skip
      refine k_aload_n hX.1 dX8_back_0 rfl rfl ?_
      refine k_iload_n hX.1 dX8_back_1 rfl rfl ?_
      refine k_callVf (d2 := 2) (n := 1) (as := [_]) hX.1 dX8_back_2 lkX8_156 (fit_of hX (by omega) gmX8_isLot) rfl rfl (by decide) rfl rfl rfl (Nat.le_of_ble_eq_true rfl) (cM_isLot1 E g (by omega) (by omega) (by omega)) ?_
      refine k_if_ne (tgt := 11) hX.1 dX8_back_5 (by decide) (by omega) (fun c_5 => ?_) (fun c_5 => ?_)
      · skip
        refine k_iload_n hX.1 dX8_back_11 rfl rfl ?_
        refine k_iconst hX.1 dX8_back_12 ?_
        refine k_bipush hX.1 dX8_back_13 (by decide) ?_
        refine k_callSf (d2 := 1) (n := 3) (as := [_, _, _]) hX.1 dX8_back_15 lkX8_86 (fit_of hX (by omega) gmX8_within) rfl rfl (Nat.le_of_ble_eq_true rfl) (cM_within1 E g (by omega) (by omega) (by omega) (by omega)) ?_
        refine k_if_ne (tgt := 24) hX.1 dX8_back_18 (by decide) (by omega) (fun c_18 => ?_) (fun c_18 => ?_)
        · skip
          refine k_aload_n hX.1 dX8_back_24 rfl rfl ?_
          refine k_getr (t := 56) hX.1 dX8_back_25 flX8_37 rfl (by decide) rfl rfl ?_
          refine k_iload_n hX.1 dX8_back_28 rfl rfl ?_
          refine k_iald (j := t) hX.1 dX8_back_29 rfl (by omega) (n := 3) rfl (by omega) (by omega) ?_
          refine k_iload_n hX.1 dX8_back_30 rfl rfl ?_
          refine k_icmp_ge (tgt := 37) hX.1 dX8_back_31 (by decide) (by omega) (by omega) (fun c_31 => ?_) (fun c_31 => ?_)
          · skip
            refine k_aload_n hX.1 dX8_back_37 rfl rfl ?_
            refine k_getr (t := 56) hX.1 dX8_back_38 flX8_37 rfl (by decide) rfl rfl ?_
            refine k_iload_n hX.1 dX8_back_41 rfl rfl ?_
            refine k_dup2 hX.1 dX8_back_42 ?_
            refine k_iald (j := t) hX.1 dX8_back_43 rfl (by omega) (n := 3) rfl (by omega) (by omega) ?_
            refine k_iload_n hX.1 dX8_back_44 rfl rfl ?_
            refine k_isub hX.1 dX8_back_45 ?_
            refine k_iast (j := t) hX.1 dX8_back_46 rfl (by omega) (n := 3) rfl (by omega) (by omega) ?_
            refine k_aload_n hX.1 dX8_back_47 rfl rfl ?_
            refine k_getr (t := 56) hX.1 dX8_back_48 flX8_37 rfl (by decide) rfl rfl ?_
            refine k_iload_n hX.1 dX8_back_51 rfl rfl ?_
            refine k_iald (j := t) hX.1 dX8_back_52 rfl (by omega) (n := 3) rfl (by omega) (by omega) ?_
            refine k_top (b := g.1 56 t - w) (by rw [wr_at]) ?_
            refine k_iret hX dX8_back_53 rfl ?_
            refine ⟨?_, ?_, (sameC.rf g).wr (by omega)⟩
            · congr 2
              unfold rBack
              rw [Int.toNat_natCast]
              (repeat first | rw [if_pos (by omega)] | rw [if_neg (by omega)])
              omega
            · unfold nBack
              rw [Int.toNat_natCast]
              (repeat first | rw [if_pos (by omega)] | rw [if_neg (by omega)])
              rw [e1]
              exact RM_lot (j := 1) hR (by omega) _
          · skip
            refine k_bipush hX.1 dX8_back_34 (by decide) ?_
            refine k_iret hX dX8_back_36 rfl ?_
            refine ⟨?_, ?_, sameC.rf g⟩
            · congr 2
              unfold rBack
              try rw [Int.toNat_natCast]
              (repeat first | rw [if_pos (by omega)] | rw [if_neg (by omega)])
            · unfold nBack
              try rw [Int.toNat_natCast]
              (repeat first | rw [if_pos (by omega)] | rw [if_neg (by omega)])
              exact hR
        · skip
          exact absurd c_18 (by decide)
      · skip
        exact absurd c_5 (by decide)
    · skip
      refine k_aload_n hX.1 dX8_back_0 rfl rfl ?_
      refine k_iload_n hX.1 dX8_back_1 rfl rfl ?_
      refine k_callVf (d2 := 2) (n := 1) (as := [_]) hX.1 dX8_back_2 lkX8_156 (fit_of hX (by omega) gmX8_isLot) rfl rfl (by decide) rfl rfl rfl (Nat.le_of_ble_eq_true rfl) (cM_isLot1 E g (by omega) (by omega) (by omega)) ?_
      refine k_if_ne (tgt := 11) hX.1 dX8_back_5 (by decide) (by omega) (fun c_5 => ?_) (fun c_5 => ?_)
      · skip
        refine k_iload_n hX.1 dX8_back_11 rfl rfl ?_
        refine k_iconst hX.1 dX8_back_12 ?_
        refine k_bipush hX.1 dX8_back_13 (by decide) ?_
        refine k_callSf (d2 := 1) (n := 3) (as := [_, _, _]) hX.1 dX8_back_15 lkX8_86 (fit_of hX (by omega) gmX8_within) rfl rfl (Nat.le_of_ble_eq_true rfl) (cM_within0 E g (by omega) (by omega) (by omega) (by omega)) ?_
        refine k_if_ne (tgt := 24) hX.1 dX8_back_18 (by decide) (by omega) (fun c_18 => ?_) (fun c_18 => ?_)
        · skip
          exact absurd rfl c_18
        · skip
          refine k_bipush hX.1 dX8_back_21 (by decide) ?_
          refine k_iret hX dX8_back_23 rfl ?_
          refine ⟨?_, ?_, sameC.rf g⟩
          · congr 2
            unfold rBack
            try rw [Int.toNat_natCast]
            (repeat first | rw [if_pos (by omega)] | rw [if_neg (by omega)])
          · unfold nBack
            try rw [Int.toNat_natCast]
            (repeat first | rw [if_pos (by omega)] | rw [if_neg (by omega)])
            exact hR
      · skip
        exact absurd c_5 (by decide)
  · skip
    refine k_aload_n hX.1 dX8_back_0 rfl rfl ?_
    refine k_iload_n hX.1 dX8_back_1 rfl rfl ?_
    refine k_callVf (d2 := 2) (n := 1) (as := [_]) hX.1 dX8_back_2 lkX8_156 (fit_of hX (by omega) gmX8_isLot) rfl rfl (by decide) rfl rfl rfl (Nat.le_of_ble_eq_true rfl) (cM_isLot0 E g (by omega) (by omega) (by omega)) ?_
    refine k_if_ne (tgt := 11) hX.1 dX8_back_5 (by decide) (by omega) (fun c_5 => ?_) (fun c_5 => ?_)
    · skip
      exact absurd rfl c_5
    · skip
      refine k_bipush hX.1 dX8_back_8 (by decide) ?_
      refine k_iret hX dX8_back_10 rfl ?_
      refine ⟨?_, ?_, sameC.rf g⟩
      · congr 2
        unfold rBack
        (repeat first | rw [if_pos (by omega)] | rw [if_neg (by omega)])
      · unfold nBack
        (repeat first | rw [if_pos (by omega)] | rw [if_neg (by omega)])
        exact hR

set_option maxRecDepth 100000 in
set_option maxHeartbeats 4000000 in
theorem c8_found (E : En) {A : St} {g : Mm} {n : Int} (hR : RM A g) (hW : Wf A n) {q w : Int} (hq : bd q) (hw : bd w) : Ok E 5 mX8_found [vR 46, vI q, vI w] g (fun r g' => r = some (vI (rFound A q w)) ∧ RM (nFound A q w) g' ∧ sameC g g') := by
  have hM0 := hR.1
  have hW0 := hW.1
  obtain ⟨⟨⟨hm1, hm2, hm3⟩, hmp, hml⟩, ⟨hg1, hg2⟩, ⟨ht1, ht2, ht3, ⟨ht4, ht5⟩, ht6⟩, hmk⟩ := id hR
  obtain ⟨⟨⟨hw1, hw2, hw3, hw4, hw5, hw6, hw7, hw8⟩, hwp, hwl⟩, ⟨hq1, hq2, hq3⟩, ⟨hz1, ⟨hz2, hz3⟩, ⟨hz4, hz5⟩⟩, hwk⟩ := id hW
  refine Ok_of gmX8_found (by omega) (Nat.le_of_ble_eq_true rfl) (fun X hX => ?_)
  show V E X 0 [some (vR 46), some (vI q), some (vI w), none] [] g
  by_cases hin : 0 ≤ q ∧ q + 1 < A 12 0
  · skip
    obtain ⟨p, rfl⟩ : ∃ m : Nat, q = (m : Int) := ⟨q.toNat, by omega⟩
    obtain ⟨e0, e1, e2, e3, e4, e5, e6, e7⟩ := hmp (p) (by omega)
    obtain ⟨⟨ek1, ek2⟩, ⟨er1, er2⟩, ew2, ew3, ew4, ew5, ew6, ew7⟩ := hwp (p) (by omega)
    by_cases hw2 : -1 ≤ w ∧ w ≤ 320
    · skip
      refine k_iload_n hX.1 dX8_found_0 rfl rfl ?_
      refine k_iconst hX.1 dX8_found_1 ?_
      refine k_aload_n hX.1 dX8_found_2 rfl rfl ?_
      refine k_geti hX.1 dX8_found_3 flX8_119 rfl (by decide) rfl ?_
      refine k_iconst hX.1 dX8_found_6 ?_
      refine k_isub hX.1 dX8_found_7 ?_
      refine k_callSf (d2 := 1) (n := 3) (as := [_, _, _]) hX.1 dX8_found_8 lkX8_86 (fit_of hX (by omega) gmX8_within) rfl rfl (Nat.le_of_ble_eq_true rfl) (cM_within1 E g (by omega) (by omega) (by omega) (by omega)) ?_
      refine k_if_ne (tgt := 17) hX.1 dX8_found_11 (by decide) (by omega) (fun c_11 => ?_) (fun c_11 => ?_)
      · skip
        refine k_iload_n hX.1 dX8_found_17 rfl rfl ?_
        refine k_iconst hX.1 dX8_found_18 ?_
        refine k_sipush hX.1 dX8_found_19 (by decide) ?_
        refine k_callSf (d2 := 1) (n := 3) (as := [_, _, _]) hX.1 dX8_found_22 lkX8_86 (fit_of hX (by omega) gmX8_within) rfl rfl (Nat.le_of_ble_eq_true rfl) (cM_within1 E g (by omega) (by omega) (by omega) (by omega)) ?_
        refine k_if_ne (tgt := 31) hX.1 dX8_found_25 (by decide) (by omega) (fun c_25 => ?_) (fun c_25 => ?_)
        · skip
          refine k_aload_n hX.1 dX8_found_31 rfl rfl ?_
          refine k_getr (t := 54) hX.1 dX8_found_32 flX8_31 rfl (by decide) rfl rfl ?_
          refine k_iload_n hX.1 dX8_found_35 rfl rfl ?_
          refine k_iald (j := p) hX.1 dX8_found_36 rfl (by omega) (n := 5) rfl (by omega) (by omega) ?_
          refine k_istore_n hX.1 dX8_found_37 rfl (by decide) rfl rfl ?_
          try simp only [List.set_cons_zero, List.set_cons_succ]
          refine k_aload_n hX.1 dX8_found_38 rfl rfl ?_
          refine k_getr (t := 54) hX.1 dX8_found_39 flX8_31 rfl (by decide) rfl rfl ?_
          refine k_iload_n hX.1 dX8_found_42 rfl rfl ?_
          refine k_iload_n hX.1 dX8_found_43 rfl rfl ?_
          refine k_iast (j := p) hX.1 dX8_found_44 rfl (by omega) (n := 5) rfl (by omega) (by omega) ?_
          refine k_iload_n hX.1 dX8_found_45 rfl rfl ?_
          refine k_iret hX dX8_found_46 rfl ?_
          refine ⟨?_, ?_, (sameC.rf g).wr (by omega)⟩
          · rw [rFound, if_pos hin, if_pos hw2, Int.toNat_natCast, e7]
          · rw [nFound, if_pos hin, if_pos hw2, Int.toNat_natCast]
            exact RM_part (j := 7) hR (by omega) _
        · skip
          exact absurd c_25 (by decide)
      · skip
        exact absurd c_11 (by decide)
    · skip
      refine k_iload_n hX.1 dX8_found_0 rfl rfl ?_
      refine k_iconst hX.1 dX8_found_1 ?_
      refine k_aload_n hX.1 dX8_found_2 rfl rfl ?_
      refine k_geti hX.1 dX8_found_3 flX8_119 rfl (by decide) rfl ?_
      refine k_iconst hX.1 dX8_found_6 ?_
      refine k_isub hX.1 dX8_found_7 ?_
      refine k_callSf (d2 := 1) (n := 3) (as := [_, _, _]) hX.1 dX8_found_8 lkX8_86 (fit_of hX (by omega) gmX8_within) rfl rfl (Nat.le_of_ble_eq_true rfl) (cM_within1 E g (by omega) (by omega) (by omega) (by omega)) ?_
      refine k_if_ne (tgt := 17) hX.1 dX8_found_11 (by decide) (by omega) (fun c_11 => ?_) (fun c_11 => ?_)
      · skip
        refine k_iload_n hX.1 dX8_found_17 rfl rfl ?_
        refine k_iconst hX.1 dX8_found_18 ?_
        refine k_sipush hX.1 dX8_found_19 (by decide) ?_
        refine k_callSf (d2 := 1) (n := 3) (as := [_, _, _]) hX.1 dX8_found_22 lkX8_86 (fit_of hX (by omega) gmX8_within) rfl rfl (Nat.le_of_ble_eq_true rfl) (cM_within0 E g (by omega) (by omega) (by omega) (by omega)) ?_
        refine k_if_ne (tgt := 31) hX.1 dX8_found_25 (by decide) (by omega) (fun c_25 => ?_) (fun c_25 => ?_)
        · skip
          exact absurd rfl c_25
        · skip
          refine k_bipush hX.1 dX8_found_28 (by decide) ?_
          refine k_iret hX dX8_found_30 rfl ?_
          refine ⟨?_, ?_, sameC.rf g⟩
          · congr 2
            unfold rFound
            (repeat first | rw [if_pos (by omega)] | rw [if_neg (by omega)])
          · unfold nFound
            (repeat first | rw [if_pos (by omega)] | rw [if_neg (by omega)])
            exact hR
      · skip
        exact absurd c_11 (by decide)
  · skip
    refine k_iload_n hX.1 dX8_found_0 rfl rfl ?_
    refine k_iconst hX.1 dX8_found_1 ?_
    refine k_aload_n hX.1 dX8_found_2 rfl rfl ?_
    refine k_geti hX.1 dX8_found_3 flX8_119 rfl (by decide) rfl ?_
    refine k_iconst hX.1 dX8_found_6 ?_
    refine k_isub hX.1 dX8_found_7 ?_
    refine k_callSf (d2 := 1) (n := 3) (as := [_, _, _]) hX.1 dX8_found_8 lkX8_86 (fit_of hX (by omega) gmX8_within) rfl rfl (Nat.le_of_ble_eq_true rfl) (cM_within0 E g (by omega) (by omega) (by omega) (by omega)) ?_
    refine k_if_ne (tgt := 17) hX.1 dX8_found_11 (by decide) (by omega) (fun c_11 => ?_) (fun c_11 => ?_)
    · skip
      exact absurd rfl c_11
    · skip
      refine k_bipush hX.1 dX8_found_14 (by decide) ?_
      refine k_iret hX dX8_found_16 rfl ?_
      refine ⟨?_, ?_, sameC.rf g⟩
      · congr 2
        unfold rFound
        (repeat first | rw [if_pos (by omega)] | rw [if_neg (by omega)])
      · unfold nFound
        (repeat first | rw [if_pos (by omega)] | rw [if_neg (by omega)])
        exact hR

set_option maxRecDepth 100000 in
set_option maxHeartbeats 4000000 in
theorem c8_letter (E : En) {A : St} {g : Mm} {n : Int} (hR : RM A g) (hW : Wf A n) {c : Int} (hc : bd c) : Ok E 5 mX8_letter [vR 46, vI c] g (fun r g' => r = some (vI (rLetter A c)) ∧ RM (nLetter A c) g' ∧ sameC g g') := by
  have hM0 := hR.1
  have hW0 := hW.1
  obtain ⟨⟨⟨hm1, hm2, hm3⟩, hmp, hml⟩, ⟨hg1, hg2⟩, ⟨ht1, ht2, ht3, ⟨ht4, ht5⟩, ht6⟩, hmk⟩ := id hR
  obtain ⟨⟨⟨hw1, hw2, hw3, hw4, hw5, hw6, hw7, hw8⟩, hwp, hwl⟩, ⟨hq1, hq2, hq3⟩, ⟨hz1, ⟨hz2, hz3⟩, ⟨hz4, hz5⟩⟩, hwk⟩ := id hW
  obtain ⟨k, hk⟩ : ∃ m : Nat, (A 12 3) = (m : Int) := ⟨(A 12 3).toNat, by omega⟩
  refine Ok_of gmX8_letter (by omega) (Nat.le_of_ble_eq_true rfl) (fun X hX => ?_)
  show V E X 0 [some (vR 46), some (vI c)] [] g
  by_cases hcc : 32 ≤ c ∧ c ≤ 126
  · skip
    refine k_iload_n hX.1 dX8_letter_0 rfl rfl ?_
    refine k_bipush hX.1 dX8_letter_1 (by decide) ?_
    refine k_bipush hX.1 dX8_letter_3 (by decide) ?_
    refine k_callSf (d2 := 1) (n := 3) (as := [_, _, _]) hX.1 dX8_letter_5 lkX8_86 (fit_of hX (by omega) gmX8_within) rfl rfl (Nat.le_of_ble_eq_true rfl) (cM_within1 E g (by omega) (by omega) (by omega) (by omega)) ?_
    refine k_if_ne (tgt := 14) hX.1 dX8_letter_8 (by decide) (by omega) (fun c_8 => ?_) (fun c_8 => ?_)
    · skip
      refine k_aload_n hX.1 dX8_letter_14 rfl rfl ?_
      refine k_geti hX.1 dX8_letter_15 flX8_90 rfl (by decide) rfl ?_
      refine k_bipush hX.1 dX8_letter_18 (by decide) ?_
      refine k_icmp_ne (tgt := 26) hX.1 dX8_letter_20 (by decide) (by omega) (by omega) (fun c_20 => ?_) (fun c_20 => ?_)
      · skip
        refine k_aload_n hX.1 dX8_letter_26 rfl rfl ?_
        refine k_getr (t := 58) hX.1 dX8_letter_27 flX8_43 rfl (by decide) rfl rfl ?_
        refine k_aload_n hX.1 dX8_letter_30 rfl rfl ?_
        refine k_geti hX.1 dX8_letter_31 flX8_90 rfl (by decide) rfl ?_
        refine k_top (b := (k : Int)) (by omega) ?_
        refine k_iload_n hX.1 dX8_letter_34 rfl rfl ?_
        refine k_i2b hX.1 dX8_letter_35 (by omega) ?_
        refine k_bast (j := k) hX.1 dX8_letter_36 rfl (by omega) (n := 18) rfl (by omega) (by omega) (by omega) ?_
        refine k_aload_n hX.1 dX8_letter_37 rfl rfl ?_
        refine k_dupR hX.1 dX8_letter_38 ?_
        refine k_geti hX.1 dX8_letter_39 flX8_90 rfl (by decide) rfl ?_
        refine k_top (b := (k : Int)) (by rw [wr_off (by omega)]; omega) ?_
        refine k_iconst hX.1 dX8_letter_42 ?_
        refine k_iadd hX.1 dX8_letter_43 ?_
        refine k_puti hX.1 dX8_letter_44 flX8_90 rfl (by decide) rfl ?_
        refine k_aload_n hX.1 dX8_letter_47 rfl rfl ?_
        refine k_geti hX.1 dX8_letter_48 flX8_90 rfl (by decide) rfl ?_
        refine k_top (b := (k : Int) + 1) (by rw [wr_at]) ?_
        refine k_iret hX dX8_letter_51 rfl ?_
        refine ⟨?_, ?_, ((sameC.rf g).wr (by omega)).wr (by omega)⟩
        · congr 2
          unfold rLetter
          (repeat first | rw [if_pos (by omega)] | rw [if_neg (by omega)])
          omega
        · unfold nLetter
          (repeat first | rw [if_pos (by omega)] | rw [if_neg (by omega)])
          rw [hk, Int.toNat_natCast]
          refine RM_o hR (fun a h1 h2 h3 h4 => by rw [wr_off (by omega), wr_off (by omega)]) ⟨by rw [wr_1, if_neg (by omega), wr_off (by omega)], by rw [wr_1, if_neg (by omega), wr_off (by omega)], by rw [wr_1, if_neg (by omega), wr_off (by omega)], by rw [wr_1, if_neg (by omega), wr_off (by omega)]⟩ (fun i p h => by rw [up_off (by omega), up_off (by omega)]) (fun h => by rw [up_off (by omega), up_off (by omega)] at h; exact h) ⟨?_, fun q hq => ?_⟩ ?_
          · rw [wr_at, up_at]
          · rw [up_at] at hq
            rw [wr_off (by omega), wr_1, up_off (by omega), up_1]
            by_cases e : q = k
            · rw [if_pos ⟨rfl, e⟩, if_pos ⟨rfl, e⟩]
            · rw [if_neg (by omega), if_neg (by omega)]
              exact hg2 q (by omega)
          · have e : ∀ j, j ≠ 16 → (wr (wr g 58 k c) 46 16 ((k : Int) + 1)).1 46 j = g.1 46 j := fun j hj => by rw [wr_1, if_neg (fun q => hj q.2), wr_off (by omega)]
            unfold MT_
            rw [e 0 (by omega), e 15 (by omega), e 25 (by omega), e 26 (by omega), up_off (by omega), up_off (by omega), up_off (by omega), up_off (by omega), up_off (by omega), up_off (by omega)]
            exact ⟨ht1, ht2, ht3, ⟨ht4, ht5⟩, ht6⟩
      · skip
        refine k_bipush hX.1 dX8_letter_23 (by decide) ?_
        refine k_iret hX dX8_letter_25 rfl ?_
        refine ⟨?_, ?_, sameC.rf g⟩
        · congr 2
          unfold rLetter
          (repeat first | rw [if_pos (by omega)] | rw [if_neg (by omega)])
        · unfold nLetter
          (repeat first | rw [if_pos (by omega)] | rw [if_neg (by omega)])
          exact hR
    · skip
      exact absurd c_8 (by decide)
  · skip
    refine k_iload_n hX.1 dX8_letter_0 rfl rfl ?_
    refine k_bipush hX.1 dX8_letter_1 (by decide) ?_
    refine k_bipush hX.1 dX8_letter_3 (by decide) ?_
    refine k_callSf (d2 := 1) (n := 3) (as := [_, _, _]) hX.1 dX8_letter_5 lkX8_86 (fit_of hX (by omega) gmX8_within) rfl rfl (Nat.le_of_ble_eq_true rfl) (cM_within0 E g (by omega) (by omega) (by omega) (by omega)) ?_
    refine k_if_ne (tgt := 14) hX.1 dX8_letter_8 (by decide) (by omega) (fun c_8 => ?_) (fun c_8 => ?_)
    · skip
      exact absurd rfl c_8
    · skip
      refine k_bipush hX.1 dX8_letter_11 (by decide) ?_
      refine k_iret hX dX8_letter_13 rfl ?_
      refine ⟨?_, ?_, sameC.rf g⟩
      · congr 2
        unfold rLetter
        (repeat first | rw [if_pos (by omega)] | rw [if_neg (by omega)])
      · unfold nLetter
        (repeat first | rw [if_pos (by omega)] | rw [if_neg (by omega)])
        exact hR

set_option maxRecDepth 100000 in
set_option maxHeartbeats 4000000 in
theorem c8_blank (E : En) {A : St} {g : Mm} {n : Int} (hR : RM A g) (hW : Wf A n) : Ok E 5 mX8_blank [vR 46] g (fun r g' => r = some (vI (A 12 3)) ∧ RM (nBlank A) g' ∧ sameC g g') := by
  have hM0 := hR.1
  have hW0 := hW.1
  obtain ⟨⟨⟨hm1, hm2, hm3⟩, hmp, hml⟩, ⟨hg1, hg2⟩, ⟨ht1, ht2, ht3, ⟨ht4, ht5⟩, ht6⟩, hmk⟩ := id hR
  obtain ⟨⟨⟨hw1, hw2, hw3, hw4, hw5, hw6, hw7, hw8⟩, hwp, hwl⟩, ⟨hq1, hq2, hq3⟩, ⟨hz1, ⟨hz2, hz3⟩, ⟨hz4, hz5⟩⟩, hwk⟩ := id hW
  refine Ok_of gmX8_blank (by omega) (Nat.le_of_ble_eq_true rfl) (fun X hX => ?_)
  show V E X 0 [some (vR 46), none] [] g
  refine k_aload_n hX.1 dX8_blank_0 rfl rfl ?_
  refine k_geti hX.1 dX8_blank_1 flX8_90 rfl (by decide) rfl ?_
  refine k_istore_n hX.1 dX8_blank_4 rfl (by decide) rfl rfl ?_
  try simp only [List.set_cons_zero, List.set_cons_succ]
  refine k_aload_n hX.1 dX8_blank_5 rfl rfl ?_
  refine k_iconst hX.1 dX8_blank_6 ?_
  refine k_puti hX.1 dX8_blank_7 flX8_90 rfl (by decide) rfl ?_
  refine k_iload_n hX.1 dX8_blank_10 rfl rfl ?_
  refine k_iret hX dX8_blank_11 rfl ?_
  refine ⟨?_, ?_, (sameC.rf g).wr (by omega)⟩
  · rw [hg1]
  · unfold nBlank
    refine RM_o hR (fun a h1 h2 h3 h4 => by rw [wr_off (by omega)]) ⟨by rw [wr_1, if_neg (by omega)], by rw [wr_1, if_neg (by omega)], by rw [wr_1, if_neg (by omega)], by rw [wr_1, if_neg (by omega)]⟩ (fun i p h => by rw [up_off (by omega)]) (fun h => by rw [up_off (by omega)] at h; exact h) ⟨?_, fun q hq => ?_⟩ ?_
    · rw [wr_at, up_at]
    · rw [up_at] at hq; omega
    · unfold MT_
      rw [wr_1, if_neg (by omega), wr_1, if_neg (by omega), wr_1, if_neg (by omega), wr_1, if_neg (by omega), up_off (by omega), up_off (by omega), up_off (by omega)]
      exact ⟨ht1, ht2, ht3, ⟨ht4, ht5⟩, ht6⟩
