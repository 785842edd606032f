set_option maxRecDepth 100000 in
set_option maxHeartbeats 4000000 in
theorem c7_gauge (E : En) {A : St} {g : Mm} {n : Int} (hR : RC A g) (hW : Wf A n) {q w : Int} (hq : bd q) (hw : bd w) : Ok E 5 mX7_gauge [vR 0, vI q, vI w] g (fun r g' => r = some (vI (rGauge A q w)) ∧ RC (nGauge A q w) g' ∧ sameM g g') := by
  have hC0 := hR.1
  have hW0 := hW.1
  obtain ⟨⟨⟨hc1, hc2, hc3⟩, hcp, hcl⟩, ⟨hg1, hg2⟩, ⟨ht1, ht2, ht3⟩, hck, hcb⟩ := id hR
  obtain ⟨⟨⟨hw1, hw2, hw3, hw4, hw5, hw6, hw7, hw8⟩, hwp, hwl⟩, ⟨hq1, hq2, hq3⟩, ⟨hz1, ⟨hz2, hz3⟩, ⟨hz4, hz5⟩⟩, hwk⟩ := id hW
  refine Ok_of gmX7_gauge (by omega) (Nat.le_of_ble_eq_true rfl) (fun X hX => ?_)
  show V E X 0 [some (vR 0), some (vI q), some (vI w), none, none, none] [] g
  by_cases i1 : 0 ≤ q ∧ q < A 12 0
  · skip
    obtain ⟨p, rfl⟩ : ∃ m : Nat, q = (m : Int) := ⟨q.toNat, by omega⟩
    obtain ⟨e0, e1, e2, e3, e4, e5, e6, e7⟩ := hcp (p) (by omega)
    obtain ⟨⟨ek1, ek2⟩, ⟨er1, er2⟩, ew2, ew3, ew4, ew5, ew6, ew7⟩ := hwp (p) (by omega)
    by_cases h1 : A 2 p = -1
    · skip
      refine k_aload_n hX.1 dX7_gauge_0 rfl rfl ?_
      refine k_getr (t := 3) hX.1 dX7_gauge_1 flX7_19 rfl (by decide) rfl rfl ?_
      refine k_iload_n hX.1 dX7_gauge_4 rfl rfl ?_
      refine k_callVf (d2 := 1) (n := 1) (as := [_]) hX.1 dX7_gauge_5 lkX7_77 (fit_of hX (by omega) gmX6_hasPart) rfl rfl (by decide) rfl rfl rfl (Nat.le_of_ble_eq_true rfl) (cW_hasPart1 E g (by omega) (by omega) (by omega)) ?_
      refine k_if_ne (tgt := 14) hX.1 dX7_gauge_8 (by decide) (by omega) (fun c_8 => ?_) (fun c_8 => ?_)
      · skip
        refine k_iload_n hX.1 dX7_gauge_14 rfl rfl ?_
        refine k_iconst hX.1 dX7_gauge_15 ?_
        refine k_icmp_lt (tgt := 25) hX.1 dX7_gauge_16 (by decide) (by omega) (by omega) (fun c_16 => ?_) (fun c_16 => ?_)
        · skip
          refine k_bipush hX.1 dX7_gauge_25 (by decide) ?_
          refine k_iret hX dX7_gauge_27 rfl ?_
          refine ⟨?_, ?_, sameM.rf g⟩
          · congr 2
            unfold rGauge
            rw [Int.toNat_natCast]
            first | rw [if_pos (show 0 ≤ (p : Int) ∧ (p : Int) < A 12 0 by omega), if_neg (show ¬ (1 ≤ w ∧ w ≤ 18) by omega)] | rw [if_pos (show 0 ≤ (p : Int) ∧ (p : Int) < A 12 0 by omega), if_pos (show 1 ≤ w ∧ w ≤ 18 by omega), if_neg (show ¬ (A 2 p ≠ -1 ∧ A 3 p = -1 ∧ w - A 4 p ≤ rws A (A 2 p).toNat) by first | (intro z; exact z.1 h1) | (intro z; exact h2 z.2.1) | (intro z; exact h4 z.2.2))]
          · unfold nGauge
            rw [Int.toNat_natCast]
            first | rw [if_pos (show 0 ≤ (p : Int) ∧ (p : Int) < A 12 0 by omega), if_neg (show ¬ (1 ≤ w ∧ w ≤ 18) by omega)] | rw [if_pos (show 0 ≤ (p : Int) ∧ (p : Int) < A 12 0 by omega), if_pos (show 1 ≤ w ∧ w ≤ 18 by omega), if_neg (show ¬ (A 2 p ≠ -1 ∧ A 3 p = -1 ∧ w - A 4 p ≤ rws A (A 2 p).toNat) by first | (intro z; exact z.1 h1) | (intro z; exact h2 z.2.1) | (intro z; exact h4 z.2.2))]
            exact hR
        · skip
          refine k_iload_n hX.1 dX7_gauge_19 rfl rfl ?_
          refine k_bipush hX.1 dX7_gauge_20 (by decide) ?_
          refine k_icmp_le (tgt := 28) hX.1 dX7_gauge_22 (by decide) (by omega) (by omega) (fun c_22 => ?_) (fun c_22 => ?_)
          · skip
            refine k_aload_n hX.1 dX7_gauge_28 rfl rfl ?_
            refine k_getr (t := 3) hX.1 dX7_gauge_29 flX7_19 rfl (by decide) rfl rfl ?_
            refine k_getr (t := 4) hX.1 dX7_gauge_32 flX7_89 rfl (by decide) rfl rfl ?_
            refine k_iload_n hX.1 dX7_gauge_35 rfl rfl ?_
            refine k_aaldP (j := p) (q := 6 + p) hX.1 dX7_gauge_36 rfl (by omega) (n := 5) rfl (by omega) (by omega) rfl ?_
            refine k_astore_n hX.1 dX7_gauge_37 rfl (by decide) rfl rfl ?_
            try simp only [List.set_cons_zero, List.set_cons_succ]
            refine k_aload_n hX.1 dX7_gauge_38 rfl rfl ?_
            refine k_getr (t := 3) hX.1 dX7_gauge_39 flX7_19 rfl (by decide) rfl rfl ?_
            refine k_aload_n hX.1 dX7_gauge_42 rfl rfl ?_
            refine k_geti hX.1 dX7_gauge_43 flX7_136 (sk_P6 (by omega)) (by decide) rfl ?_
            refine k_callVf (d2 := 1) (n := 1) (as := [_]) hX.1 dX7_gauge_46 lkX7_109 (fit_of hX (by omega) gmX6_hasLot) rfl rfl (by decide) rfl rfl rfl (Nat.le_of_ble_eq_true rfl) (cW_hasLot0 E g (by omega) (by omega) (by omega)) ?_
            refine k_if_eq (tgt := 59) hX.1 dX7_gauge_49 (by decide) (by omega) (fun c_49 => ?_) (fun c_49 => ?_)
            · skip
              refine k_bipush hX.1 dX7_gauge_59 (by decide) ?_
              refine k_iret hX dX7_gauge_61 rfl ?_
              refine ⟨?_, ?_, sameM.rf g⟩
              · congr 2
                unfold rGauge
                rw [Int.toNat_natCast]
                first | rw [if_pos (show 0 ≤ (p : Int) ∧ (p : Int) < A 12 0 by omega), if_neg (show ¬ (1 ≤ w ∧ w ≤ 18) by omega)] | rw [if_pos (show 0 ≤ (p : Int) ∧ (p : Int) < A 12 0 by omega), if_pos (show 1 ≤ w ∧ w ≤ 18 by omega), if_neg (show ¬ (A 2 p ≠ -1 ∧ A 3 p = -1 ∧ w - A 4 p ≤ rws A (A 2 p).toNat) by first | (intro z; exact z.1 h1) | (intro z; exact h2 z.2.1) | (intro z; exact h4 z.2.2))]
              · unfold nGauge
                rw [Int.toNat_natCast]
                first | rw [if_pos (show 0 ≤ (p : Int) ∧ (p : Int) < A 12 0 by omega), if_neg (show ¬ (1 ≤ w ∧ w ≤ 18) by omega)] | rw [if_pos (show 0 ≤ (p : Int) ∧ (p : Int) < A 12 0 by omega), if_pos (show 1 ≤ w ∧ w ≤ 18 by omega), if_neg (show ¬ (A 2 p ≠ -1 ∧ A 3 p = -1 ∧ w - A 4 p ≤ rws A (A 2 p).toNat) by first | (intro z; exact z.1 h1) | (intro z; exact h2 z.2.1) | (intro z; exact h4 z.2.2))]
                exact hR
            · skip
              exact absurd rfl c_49
          · skip
            refine k_bipush hX.1 dX7_gauge_25 (by decide) ?_
            refine k_iret hX dX7_gauge_27 rfl ?_
            refine ⟨?_, ?_, sameM.rf g⟩
            · congr 2
              unfold rGauge
              rw [Int.toNat_natCast]
              first | rw [if_pos (show 0 ≤ (p : Int) ∧ (p : Int) < A 12 0 by omega), if_neg (show ¬ (1 ≤ w ∧ w ≤ 18) by omega)] | rw [if_pos (show 0 ≤ (p : Int) ∧ (p : Int) < A 12 0 by omega), if_pos (show 1 ≤ w ∧ w ≤ 18 by omega), if_neg (show ¬ (A 2 p ≠ -1 ∧ A 3 p = -1 ∧ w - A 4 p ≤ rws A (A 2 p).toNat) by first | (intro z; exact z.1 h1) | (intro z; exact h2 z.2.1) | (intro z; exact h4 z.2.2))]
            · unfold nGauge
              rw [Int.toNat_natCast]
              first | rw [if_pos (show 0 ≤ (p : Int) ∧ (p : Int) < A 12 0 by omega), if_neg (show ¬ (1 ≤ w ∧ w ≤ 18) by omega)] | rw [if_pos (show 0 ≤ (p : Int) ∧ (p : Int) < A 12 0 by omega), if_pos (show 1 ≤ w ∧ w ≤ 18 by omega), if_neg (show ¬ (A 2 p ≠ -1 ∧ A 3 p = -1 ∧ w - A 4 p ≤ rws A (A 2 p).toNat) by first | (intro z; exact z.1 h1) | (intro z; exact h2 z.2.1) | (intro z; exact h4 z.2.2))]
              exact hR
      · skip
        exact absurd c_8 (by decide)
    · skip
      obtain ⟨a, ha⟩ : ∃ m : Nat, A 2 p = (m : Int) := ⟨(A 2 p).toNat, by omega⟩
      obtain ⟨k0, k1, k2⟩ := hcl (a) (by omega)
      obtain ⟨⟨ka, kb⟩, ⟨kc, kd⟩, ⟨ke, kf⟩⟩ := hwl (a) (by omega)
      by_cases h2 : A 3 p = -1
      · skip
        by_cases h3 : w - A 4 p ≤ rws A a
        · skip
          unfold rws at h3
          refine k_aload_n hX.1 dX7_gauge_0 rfl rfl ?_
          refine k_getr (t := 3) hX.1 dX7_gauge_1 flX7_19 rfl (by decide) rfl rfl ?_
          refine k_iload_n hX.1 dX7_gauge_4 rfl rfl ?_
          refine k_callVf (d2 := 1) (n := 1) (as := [_]) hX.1 dX7_gauge_5 lkX7_77 (fit_of hX (by omega) gmX6_hasPart) rfl rfl (by decide) rfl rfl rfl (Nat.le_of_ble_eq_true rfl) (cW_hasPart1 E g (by omega) (by omega) (by omega)) ?_
          refine k_if_ne (tgt := 14) hX.1 dX7_gauge_8 (by decide) (by omega) (fun c_8 => ?_) (fun c_8 => ?_)
          · skip
            refine k_iload_n hX.1 dX7_gauge_14 rfl rfl ?_
            refine k_iconst hX.1 dX7_gauge_15 ?_
            refine k_icmp_lt (tgt := 25) hX.1 dX7_gauge_16 (by decide) (by omega) (by omega) (fun c_16 => ?_) (fun c_16 => ?_)
            · skip
              refine k_bipush hX.1 dX7_gauge_25 (by decide) ?_
              refine k_iret hX dX7_gauge_27 rfl ?_
              refine ⟨?_, ?_, sameM.rf g⟩
              · congr 2
                unfold rGauge
                rw [Int.toNat_natCast]
                first | rw [if_pos (show 0 ≤ (p : Int) ∧ (p : Int) < A 12 0 by omega), if_neg (show ¬ (1 ≤ w ∧ w ≤ 18) by omega)] | rw [if_pos (show 0 ≤ (p : Int) ∧ (p : Int) < A 12 0 by omega), if_pos (show 1 ≤ w ∧ w ≤ 18 by omega), if_neg (show ¬ (A 2 p ≠ -1 ∧ A 3 p = -1 ∧ w - A 4 p ≤ rws A (A 2 p).toNat) by first | (intro z; exact z.1 h1) | (intro z; exact h2 z.2.1) | (intro z; exact h4 z.2.2))]
              · unfold nGauge
                rw [Int.toNat_natCast]
                first | rw [if_pos (show 0 ≤ (p : Int) ∧ (p : Int) < A 12 0 by omega), if_neg (show ¬ (1 ≤ w ∧ w ≤ 18) by omega)] | rw [if_pos (show 0 ≤ (p : Int) ∧ (p : Int) < A 12 0 by omega), if_pos (show 1 ≤ w ∧ w ≤ 18 by omega), if_neg (show ¬ (A 2 p ≠ -1 ∧ A 3 p = -1 ∧ w - A 4 p ≤ rws A (A 2 p).toNat) by first | (intro z; exact z.1 h1) | (intro z; exact h2 z.2.1) | (intro z; exact h4 z.2.2))]
                exact hR
            · skip
              refine k_iload_n hX.1 dX7_gauge_19 rfl rfl ?_
              refine k_bipush hX.1 dX7_gauge_20 (by decide) ?_
              refine k_icmp_le (tgt := 28) hX.1 dX7_gauge_22 (by decide) (by omega) (by omega) (fun c_22 => ?_) (fun c_22 => ?_)
              · skip
                refine k_aload_n hX.1 dX7_gauge_28 rfl rfl ?_
                refine k_getr (t := 3) hX.1 dX7_gauge_29 flX7_19 rfl (by decide) rfl rfl ?_
                refine k_getr (t := 4) hX.1 dX7_gauge_32 flX7_89 rfl (by decide) rfl rfl ?_
                refine k_iload_n hX.1 dX7_gauge_35 rfl rfl ?_
                refine k_aaldP (j := p) (q := 6 + p) hX.1 dX7_gauge_36 rfl (by omega) (n := 5) rfl (by omega) (by omega) rfl ?_
                refine k_astore_n hX.1 dX7_gauge_37 rfl (by decide) rfl rfl ?_
                try simp only [List.set_cons_zero, List.set_cons_succ]
                refine k_aload_n hX.1 dX7_gauge_38 rfl rfl ?_
                refine k_getr (t := 3) hX.1 dX7_gauge_39 flX7_19 rfl (by decide) rfl rfl ?_
                refine k_aload_n hX.1 dX7_gauge_42 rfl rfl ?_
                refine k_geti hX.1 dX7_gauge_43 flX7_136 (sk_P6 (by omega)) (by decide) rfl ?_
                refine k_callVf (d2 := 1) (n := 1) (as := [_]) hX.1 dX7_gauge_46 lkX7_109 (fit_of hX (by omega) gmX6_hasLot) rfl rfl (by decide) rfl rfl rfl (Nat.le_of_ble_eq_true rfl) (cW_hasLot1 E g (by omega) (by omega) (by omega)) ?_
                refine k_if_eq (tgt := 59) hX.1 dX7_gauge_49 (by decide) (by omega) (fun c_49 => ?_) (fun c_49 => ?_)
                · skip
                  exact absurd c_49 (by decide)
                · skip
                  refine k_aload_n hX.1 dX7_gauge_52 rfl rfl ?_
                  refine k_callVf (d2 := 1) (n := 0) (as := []) hX.1 dX7_gauge_53 lkX7_139 (fit_of hX (by omega) gmX4_isMixed) rfl (sk_P6 (by omega)) (by decide) rfl rfl rfl (Nat.le_of_ble_eq_true rfl) (cP_isMixed E g (p := p) (by omega) (by omega)) ?_
                  refine k_if_eq (tgt := 62) hX.1 dX7_gauge_56 (by decide) (by split <;> omega) (fun c_56 => ?_) (fun c_56 => ?_)
                  · skip
                    refine k_iload_n hX.1 dX7_gauge_62 rfl rfl ?_
                    refine k_aload_n hX.1 dX7_gauge_63 rfl rfl ?_
                    refine k_geti hX.1 dX7_gauge_64 flX7_142 (sk_P6 (by omega)) (by decide) rfl ?_
                    refine k_isub hX.1 dX7_gauge_67 ?_
                    refine k_istore hX.1 dX7_gauge_68 (by decide) rfl rfl ?_
                    try simp only [List.set_cons_zero, List.set_cons_succ]
                    refine k_aload_n hX.1 dX7_gauge_70 rfl rfl ?_
                    refine k_getr (t := 3) hX.1 dX7_gauge_71 flX7_19 rfl (by decide) rfl rfl ?_
                    refine k_getr (t := 5) hX.1 dX7_gauge_74 flX7_101 rfl (by decide) rfl rfl ?_
                    refine k_aload_n hX.1 dX7_gauge_77 rfl rfl ?_
                    refine k_geti hX.1 dX7_gauge_78 flX7_136 (sk_P6 (by omega)) (by decide) rfl ?_
                    refine k_aaldL (j := a) (q := 11 + a) hX.1 dX7_gauge_81 rfl (by omega) (n := 3) rfl (by omega) (by omega) rfl ?_
                    refine k_astore hX.1 dX7_gauge_82 (by decide) rfl rfl ?_
                    try simp only [List.set_cons_zero, List.set_cons_succ]
                    refine k_aload hX.1 dX7_gauge_84 rfl ?_
                    refine k_callVf (d2 := 1) (n := 0) (as := []) hX.1 dX7_gauge_86 lkX7_145 (fit_of hX (by omega) gmX2_rows) rfl (sk_L11 (by omega)) (by decide) rfl rfl rfl (Nat.le_of_ble_eq_true rfl) (cL_rows E g (t := a) (by omega)) ?_
                    refine k_iload hX.1 dX7_gauge_89 rfl ?_
                    refine k_icmp_ge (tgt := 97) hX.1 dX7_gauge_91 (by decide) (by omega) (by omega) (fun c_91 => ?_) (fun c_91 => ?_)
                    · skip
                      refine k_aload hX.1 dX7_gauge_97 rfl ?_
                      refine k_iload hX.1 dX7_gauge_99 rfl ?_
                      refine k_callVp (d2 := 2) (n := 1) (as := [_]) hX.1 dX7_gauge_101 lkX7_148 (fit_of hX (by omega) gmX2_take) rfl (sk_L11 (by omega)) (by decide) rfl rfl rfl (Nat.le_of_ble_eq_true rfl) (cL_take E g (t := a) (by omega) (by omega) (by omega)) ?_
                      refine k_aload_n hX.1 dX7_gauge_104 rfl rfl ?_
                      refine k_iload_n hX.1 dX7_gauge_105 rfl rfl ?_
                      refine k_puti hX.1 dX7_gauge_106 flX7_142 (sk_P6 (by omega)) (by decide) rfl ?_
                      refine k_aload_n hX.1 dX7_gauge_109 rfl rfl ?_
                      refine k_iconst hX.1 dX7_gauge_110 ?_
                      refine k_putz hX.1 dX7_gauge_111 flX7_151 (sk_P6 (by omega)) (by decide) rfl (by omega) ?_
                      refine k_iload hX.1 dX7_gauge_114 rfl ?_
                      refine k_iret hX dX7_gauge_116 rfl ?_
                      refine ⟨?_, ?_, ((sameM_tk (sameM.rf g) (by omega) _).wr (by omega)).wr (by omega)⟩
                      · congr 2
                        unfold rGauge
                        rw [Int.toNat_natCast, if_pos (show 0 ≤ (p : Int) ∧ (p : Int) < A 12 0 by omega), if_pos (show 1 ≤ w ∧ w ≤ 18 by omega), if_pos (show A 2 p ≠ -1 ∧ A 3 p = -1 ∧ w - A 4 p ≤ rws A (A 2 p).toNat from ⟨h1, h2, by rw [ha, Int.toNat_natCast]; unfold rws; omega⟩), e4]
                      · unfold nGauge
                        rw [Int.toNat_natCast, if_pos (show 0 ≤ (p : Int) ∧ (p : Int) < A 12 0 by omega), if_pos (show 1 ≤ w ∧ w ≤ 18 by omega), if_pos (show A 2 p ≠ -1 ∧ A 3 p = -1 ∧ w - A 4 p ≤ rws A (A 2 p).toNat from ⟨h1, h2, by rw [ha, Int.toNat_natCast]; unfold rws; omega⟩)]
                        unfold gaA
                        rw [ha, Int.toNat_natCast, e4]
                        have t1 := RC_tk hR hW.b (t := a) (by omega) (w - A 4 p)
                        have t2 := RC_part (j := 4) t1 (Wb_tk hW.b _ _) (by omega) w (p := p) (by omega)
                        exact RC_told t2 (Wb_up (Wb_tk hW.b _ _) (by omega)) w 1 (by omega) (by rw [if_neg (by omega)])
                    · skip
                      exact absurd c_91 (by omega)
                  · skip
                    exact absurd (if_pos (by omega)) c_56
              · skip
                refine k_bipush hX.1 dX7_gauge_25 (by decide) ?_
                refine k_iret hX dX7_gauge_27 rfl ?_
                refine ⟨?_, ?_, sameM.rf g⟩
                · congr 2
                  unfold rGauge
                  rw [Int.toNat_natCast]
                  first | rw [if_pos (show 0 ≤ (p : Int) ∧ (p : Int) < A 12 0 by omega), if_neg (show ¬ (1 ≤ w ∧ w ≤ 18) by omega)] | rw [if_pos (show 0 ≤ (p : Int) ∧ (p : Int) < A 12 0 by omega), if_pos (show 1 ≤ w ∧ w ≤ 18 by omega), if_neg (show ¬ (A 2 p ≠ -1 ∧ A 3 p = -1 ∧ w - A 4 p ≤ rws A (A 2 p).toNat) by first | (intro z; exact z.1 h1) | (intro z; exact h2 z.2.1) | (intro z; exact h4 z.2.2))]
                · unfold nGauge
                  rw [Int.toNat_natCast]
                  first | rw [if_pos (show 0 ≤ (p : Int) ∧ (p : Int) < A 12 0 by omega), if_neg (show ¬ (1 ≤ w ∧ w ≤ 18) by omega)] | rw [if_pos (show 0 ≤ (p : Int) ∧ (p : Int) < A 12 0 by omega), if_pos (show 1 ≤ w ∧ w ≤ 18 by omega), if_neg (show ¬ (A 2 p ≠ -1 ∧ A 3 p = -1 ∧ w - A 4 p ≤ rws A (A 2 p).toNat) by first | (intro z; exact z.1 h1) | (intro z; exact h2 z.2.1) | (intro z; exact h4 z.2.2))]
                  exact hR
          · skip
            exact absurd c_8 (by decide)
        · skip
          have h4 : ¬ w - A 4 p ≤ rws A (A 2 p).toNat := by rw [ha, Int.toNat_natCast]; exact h3
          unfold rws at h3
          refine k_aload_n hX.1 dX7_gauge_0 rfl rfl ?_
          refine k_getr (t := 3) hX.1 dX7_gauge_1 flX7_19 rfl (by decide) rfl rfl ?_
          refine k_iload_n hX.1 dX7_gauge_4 rfl rfl ?_
          refine k_callVf (d2 := 1) (n := 1) (as := [_]) hX.1 dX7_gauge_5 lkX7_77 (fit_of hX (by omega) gmX6_hasPart) rfl rfl (by decide) rfl rfl rfl (Nat.le_of_ble_eq_true rfl) (cW_hasPart1 E g (by omega) (by omega) (by omega)) ?_
          refine k_if_ne (tgt := 14) hX.1 dX7_gauge_8 (by decide) (by omega) (fun c_8 => ?_) (fun c_8 => ?_)
          · skip
            refine k_iload_n hX.1 dX7_gauge_14 rfl rfl ?_
            refine k_iconst hX.1 dX7_gauge_15 ?_
            refine k_icmp_lt (tgt := 25) hX.1 dX7_gauge_16 (by decide) (by omega) (by omega) (fun c_16 => ?_) (fun c_16 => ?_)
            · skip
              refine k_bipush hX.1 dX7_gauge_25 (by decide) ?_
              refine k_iret hX dX7_gauge_27 rfl ?_
              refine ⟨?_, ?_, sameM.rf g⟩
              · congr 2
                unfold rGauge
                rw [Int.toNat_natCast]
                first | rw [if_pos (show 0 ≤ (p : Int) ∧ (p : Int) < A 12 0 by omega), if_neg (show ¬ (1 ≤ w ∧ w ≤ 18) by omega)] | rw [if_pos (show 0 ≤ (p : Int) ∧ (p : Int) < A 12 0 by omega), if_pos (show 1 ≤ w ∧ w ≤ 18 by omega), if_neg (show ¬ (A 2 p ≠ -1 ∧ A 3 p = -1 ∧ w - A 4 p ≤ rws A (A 2 p).toNat) by first | (intro z; exact z.1 h1) | (intro z; exact h2 z.2.1) | (intro z; exact h4 z.2.2))]
              · unfold nGauge
                rw [Int.toNat_natCast]
                first | rw [if_pos (show 0 ≤ (p : Int) ∧ (p : Int) < A 12 0 by omega), if_neg (show ¬ (1 ≤ w ∧ w ≤ 18) by omega)] | rw [if_pos (show 0 ≤ (p : Int) ∧ (p : Int) < A 12 0 by omega), if_pos (show 1 ≤ w ∧ w ≤ 18 by omega), if_neg (show ¬ (A 2 p ≠ -1 ∧ A 3 p = -1 ∧ w - A 4 p ≤ rws A (A 2 p).toNat) by first | (intro z; exact z.1 h1) | (intro z; exact h2 z.2.1) | (intro z; exact h4 z.2.2))]
                exact hR
            · skip
              refine k_iload_n hX.1 dX7_gauge_19 rfl rfl ?_
              refine k_bipush hX.1 dX7_gauge_20 (by decide) ?_
              refine k_icmp_le (tgt := 28) hX.1 dX7_gauge_22 (by decide) (by omega) (by omega) (fun c_22 => ?_) (fun c_22 => ?_)
              · skip
                refine k_aload_n hX.1 dX7_gauge_28 rfl rfl ?_
                refine k_getr (t := 3) hX.1 dX7_gauge_29 flX7_19 rfl (by decide) rfl rfl ?_
                refine k_getr (t := 4) hX.1 dX7_gauge_32 flX7_89 rfl (by decide) rfl rfl ?_
                refine k_iload_n hX.1 dX7_gauge_35 rfl rfl ?_
                refine k_aaldP (j := p) (q := 6 + p) hX.1 dX7_gauge_36 rfl (by omega) (n := 5) rfl (by omega) (by omega) rfl ?_
                refine k_astore_n hX.1 dX7_gauge_37 rfl (by decide) rfl rfl ?_
                try simp only [List.set_cons_zero, List.set_cons_succ]
                refine k_aload_n hX.1 dX7_gauge_38 rfl rfl ?_
                refine k_getr (t := 3) hX.1 dX7_gauge_39 flX7_19 rfl (by decide) rfl rfl ?_
                refine k_aload_n hX.1 dX7_gauge_42 rfl rfl ?_
                refine k_geti hX.1 dX7_gauge_43 flX7_136 (sk_P6 (by omega)) (by decide) rfl ?_
                refine k_callVf (d2 := 1) (n := 1) (as := [_]) hX.1 dX7_gauge_46 lkX7_109 (fit_of hX (by omega) gmX6_hasLot) rfl rfl (by decide) rfl rfl rfl (Nat.le_of_ble_eq_true rfl) (cW_hasLot1 E g (by omega) (by omega) (by omega)) ?_
                refine k_if_eq (tgt := 59) hX.1 dX7_gauge_49 (by decide) (by omega) (fun c_49 => ?_) (fun c_49 => ?_)
                · skip
                  exact absurd c_49 (by decide)
                · skip
                  refine k_aload_n hX.1 dX7_gauge_52 rfl rfl ?_
                  refine k_callVf (d2 := 1) (n := 0) (as := []) hX.1 dX7_gauge_53 lkX7_139 (fit_of hX (by omega) gmX4_isMixed) rfl (sk_P6 (by omega)) (by decide) rfl rfl rfl (Nat.le_of_ble_eq_true rfl) (cP_isMixed E g (p := p) (by omega) (by omega)) ?_
                  refine k_if_eq (tgt := 62) hX.1 dX7_gauge_56 (by decide) (by split <;> omega) (fun c_56 => ?_) (fun c_56 => ?_)
                  · skip
                    refine k_iload_n hX.1 dX7_gauge_62 rfl rfl ?_
                    refine k_aload_n hX.1 dX7_gauge_63 rfl rfl ?_
                    refine k_geti hX.1 dX7_gauge_64 flX7_142 (sk_P6 (by omega)) (by decide) rfl ?_
                    refine k_isub hX.1 dX7_gauge_67 ?_
                    refine k_istore hX.1 dX7_gauge_68 (by decide) rfl rfl ?_
                    try simp only [List.set_cons_zero, List.set_cons_succ]
                    refine k_aload_n hX.1 dX7_gauge_70 rfl rfl ?_
                    refine k_getr (t := 3) hX.1 dX7_gauge_71 flX7_19 rfl (by decide) rfl rfl ?_
                    refine k_getr (t := 5) hX.1 dX7_gauge_74 flX7_101 rfl (by decide) rfl rfl ?_
                    refine k_aload_n hX.1 dX7_gauge_77 rfl rfl ?_
                    refine k_geti hX.1 dX7_gauge_78 flX7_136 (sk_P6 (by omega)) (by decide) rfl ?_
                    refine k_aaldL (j := a) (q := 11 + a) hX.1 dX7_gauge_81 rfl (by omega) (n := 3) rfl (by omega) (by omega) rfl ?_
                    refine k_astore hX.1 dX7_gauge_82 (by decide) rfl rfl ?_
                    try simp only [List.set_cons_zero, List.set_cons_succ]
                    refine k_aload hX.1 dX7_gauge_84 rfl ?_
                    refine k_callVf (d2 := 1) (n := 0) (as := []) hX.1 dX7_gauge_86 lkX7_145 (fit_of hX (by omega) gmX2_rows) rfl (sk_L11 (by omega)) (by decide) rfl rfl rfl (Nat.le_of_ble_eq_true rfl) (cL_rows E g (t := a) (by omega)) ?_
                    refine k_iload hX.1 dX7_gauge_89 rfl ?_
                    refine k_icmp_ge (tgt := 97) hX.1 dX7_gauge_91 (by decide) (by omega) (by omega) (fun c_91 => ?_) (fun c_91 => ?_)
                    · skip
                      exact absurd c_91 (by omega)
                    · skip
                      refine k_bipush hX.1 dX7_gauge_94 (by decide) ?_
                      refine k_iret hX dX7_gauge_96 rfl ?_
                      refine ⟨?_, ?_, sameM.rf g⟩
                      · congr 2
                        unfold rGauge
                        rw [Int.toNat_natCast]
                        first | rw [if_pos (show 0 ≤ (p : Int) ∧ (p : Int) < A 12 0 by omega), if_neg (show ¬ (1 ≤ w ∧ w ≤ 18) by omega)] | rw [if_pos (show 0 ≤ (p : Int) ∧ (p : Int) < A 12 0 by omega), if_pos (show 1 ≤ w ∧ w ≤ 18 by omega), if_neg (show ¬ (A 2 p ≠ -1 ∧ A 3 p = -1 ∧ w - A 4 p ≤ rws A (A 2 p).toNat) by first | (intro z; exact z.1 h1) | (intro z; exact h2 z.2.1) | (intro z; exact h4 z.2.2))]
                      · unfold nGauge
                        rw [Int.toNat_natCast]
                        first | rw [if_pos (show 0 ≤ (p : Int) ∧ (p : Int) < A 12 0 by omega), if_neg (show ¬ (1 ≤ w ∧ w ≤ 18) by omega)] | rw [if_pos (show 0 ≤ (p : Int) ∧ (p : Int) < A 12 0 by omega), if_pos (show 1 ≤ w ∧ w ≤ 18 by omega), if_neg (show ¬ (A 2 p ≠ -1 ∧ A 3 p = -1 ∧ w - A 4 p ≤ rws A (A 2 p).toNat) by first | (intro z; exact z.1 h1) | (intro z; exact h2 z.2.1) | (intro z; exact h4 z.2.2))]
                        exact hR
                  · skip
                    exact absurd (if_pos (by omega)) c_56
              · skip
                refine k_bipush hX.1 dX7_gauge_25 (by decide) ?_
                refine k_iret hX dX7_gauge_27 rfl ?_
                refine ⟨?_, ?_, sameM.rf g⟩
                · congr 2
                  unfold rGauge
                  rw [Int.toNat_natCast]
                  first | rw [if_pos (show 0 ≤ (p : Int) ∧ (p : Int) < A 12 0 by omega), if_neg (show ¬ (1 ≤ w ∧ w ≤ 18) by omega)] | rw [if_pos (show 0 ≤ (p : Int) ∧ (p : Int) < A 12 0 by omega), if_pos (show 1 ≤ w ∧ w ≤ 18 by omega), if_neg (show ¬ (A 2 p ≠ -1 ∧ A 3 p = -1 ∧ w - A 4 p ≤ rws A (A 2 p).toNat) by first | (intro z; exact z.1 h1) | (intro z; exact h2 z.2.1) | (intro z; exact h4 z.2.2))]
                · unfold nGauge
                  rw [Int.toNat_natCast]
                  first | rw [if_pos (show 0 ≤ (p : Int) ∧ (p : Int) < A 12 0 by omega), if_neg (show ¬ (1 ≤ w ∧ w ≤ 18) by omega)] | rw [if_pos (show 0 ≤ (p : Int) ∧ (p : Int) < A 12 0 by omega), if_pos (show 1 ≤ w ∧ w ≤ 18 by omega), if_neg (show ¬ (A 2 p ≠ -1 ∧ A 3 p = -1 ∧ w - A 4 p ≤ rws A (A 2 p).toNat) by first | (intro z; exact z.1 h1) | (intro z; exact h2 z.2.1) | (intro z; exact h4 z.2.2))]
                  exact hR
          · skip
            exact absurd c_8 (by decide)
      · skip
        refine k_aload_n hX.1 dX7_gauge_0 rfl rfl ?_
        refine k_getr (t := 3) hX.1 dX7_gauge_1 flX7_19 rfl (by decide) rfl rfl ?_
        refine k_iload_n hX.1 dX7_gauge_4 rfl rfl ?_
        refine k_callVf (d2 := 1) (n := 1) (as := [_]) hX.1 dX7_gauge_5 lkX7_77 (fit_of hX (by omega) gmX6_hasPart) rfl rfl (by decide) rfl rfl rfl (Nat.le_of_ble_eq_true rfl) (cW_hasPart1 E g (by omega) (by omega) (by omega)) ?_
        refine k_if_ne (tgt := 14) hX.1 dX7_gauge_8 (by decide) (by omega) (fun c_8 => ?_) (fun c_8 => ?_)
        · skip
          refine k_iload_n hX.1 dX7_gauge_14 rfl rfl ?_
          refine k_iconst hX.1 dX7_gauge_15 ?_
          refine k_icmp_lt (tgt := 25) hX.1 dX7_gauge_16 (by decide) (by omega) (by omega) (fun c_16 => ?_) (fun c_16 => ?_)
          · skip
            refine k_bipush hX.1 dX7_gauge_25 (by decide) ?_
            refine k_iret hX dX7_gauge_27 rfl ?_
            refine ⟨?_, ?_, sameM.rf g⟩
            · congr 2
              unfold rGauge
              rw [Int.toNat_natCast]
              first | rw [if_pos (show 0 ≤ (p : Int) ∧ (p : Int) < A 12 0 by omega), if_neg (show ¬ (1 ≤ w ∧ w ≤ 18) by omega)] | rw [if_pos (show 0 ≤ (p : Int) ∧ (p : Int) < A 12 0 by omega), if_pos (show 1 ≤ w ∧ w ≤ 18 by omega), if_neg (show ¬ (A 2 p ≠ -1 ∧ A 3 p = -1 ∧ w - A 4 p ≤ rws A (A 2 p).toNat) by first | (intro z; exact z.1 h1) | (intro z; exact h2 z.2.1) | (intro z; exact h4 z.2.2))]
            · unfold nGauge
              rw [Int.toNat_natCast]
              first | rw [if_pos (show 0 ≤ (p : Int) ∧ (p : Int) < A 12 0 by omega), if_neg (show ¬ (1 ≤ w ∧ w ≤ 18) by omega)] | rw [if_pos (show 0 ≤ (p : Int) ∧ (p : Int) < A 12 0 by omega), if_pos (show 1 ≤ w ∧ w ≤ 18 by omega), if_neg (show ¬ (A 2 p ≠ -1 ∧ A 3 p = -1 ∧ w - A 4 p ≤ rws A (A 2 p).toNat) by first | (intro z; exact z.1 h1) | (intro z; exact h2 z.2.1) | (intro z; exact h4 z.2.2))]
              exact hR
          · skip
            refine k_iload_n hX.1 dX7_gauge_19 rfl rfl ?_
            refine k_bipush hX.1 dX7_gauge_20 (by decide) ?_
            refine k_icmp_le (tgt := 28) hX.1 dX7_gauge_22 (by decide) (by omega) (by omega) (fun c_22 => ?_) (fun c_22 => ?_)
            · skip
              refine k_aload_n hX.1 dX7_gauge_28 rfl rfl ?_
              refine k_getr (t := 3) hX.1 dX7_gauge_29 flX7_19 rfl (by decide) rfl rfl ?_
              refine k_getr (t := 4) hX.1 dX7_gauge_32 flX7_89 rfl (by decide) rfl rfl ?_
              refine k_iload_n hX.1 dX7_gauge_35 rfl rfl ?_
              refine k_aaldP (j := p) (q := 6 + p) hX.1 dX7_gauge_36 rfl (by omega) (n := 5) rfl (by omega) (by omega) rfl ?_
              refine k_astore_n hX.1 dX7_gauge_37 rfl (by decide) rfl rfl ?_
              try simp only [List.set_cons_zero, List.set_cons_succ]
              refine k_aload_n hX.1 dX7_gauge_38 rfl rfl ?_
              refine k_getr (t := 3) hX.1 dX7_gauge_39 flX7_19 rfl (by decide) rfl rfl ?_
              refine k_aload_n hX.1 dX7_gauge_42 rfl rfl ?_
              refine k_geti hX.1 dX7_gauge_43 flX7_136 (sk_P6 (by omega)) (by decide) rfl ?_
              refine k_callVf (d2 := 1) (n := 1) (as := [_]) hX.1 dX7_gauge_46 lkX7_109 (fit_of hX (by omega) gmX6_hasLot) rfl rfl (by decide) rfl rfl rfl (Nat.le_of_ble_eq_true rfl) (cW_hasLot1 E g (by omega) (by omega) (by omega)) ?_
              refine k_if_eq (tgt := 59) hX.1 dX7_gauge_49 (by decide) (by omega) (fun c_49 => ?_) (fun c_49 => ?_)
              · skip
                exact absurd c_49 (by decide)
              · skip
                refine k_aload_n hX.1 dX7_gauge_52 rfl rfl ?_
                refine k_callVf (d2 := 1) (n := 0) (as := []) hX.1 dX7_gauge_53 lkX7_139 (fit_of hX (by omega) gmX4_isMixed) rfl (sk_P6 (by omega)) (by decide) rfl rfl rfl (Nat.le_of_ble_eq_true rfl) (cP_isMixed E g (p := p) (by omega) (by omega)) ?_
                refine k_if_eq (tgt := 62) hX.1 dX7_gauge_56 (by decide) (by split <;> omega) (fun c_56 => ?_) (fun c_56 => ?_)
                · skip
                  rw [if_neg (by omega)] at c_56; exact absurd c_56 (by decide)
                · skip
                  refine k_bipush hX.1 dX7_gauge_59 (by decide) ?_
                  refine k_iret hX dX7_gauge_61 rfl ?_
                  refine ⟨?_, ?_, sameM.rf g⟩
                  · congr 2
                    unfold rGauge
                    rw [Int.toNat_natCast]
                    first | rw [if_pos (show 0 ≤ (p : Int) ∧ (p : Int) < A 12 0 by omega), if_neg (show ¬ (1 ≤ w ∧ w ≤ 18) by omega)] | rw [if_pos (show 0 ≤ (p : Int) ∧ (p : Int) < A 12 0 by omega), if_pos (show 1 ≤ w ∧ w ≤ 18 by omega), if_neg (show ¬ (A 2 p ≠ -1 ∧ A 3 p = -1 ∧ w - A 4 p ≤ rws A (A 2 p).toNat) by first | (intro z; exact z.1 h1) | (intro z; exact h2 z.2.1) | (intro z; exact h4 z.2.2))]
                  · unfold nGauge
                    rw [Int.toNat_natCast]
                    first | rw [if_pos (show 0 ≤ (p : Int) ∧ (p : Int) < A 12 0 by omega), if_neg (show ¬ (1 ≤ w ∧ w ≤ 18) by omega)] | rw [if_pos (show 0 ≤ (p : Int) ∧ (p : Int) < A 12 0 by omega), if_pos (show 1 ≤ w ∧ w ≤ 18 by omega), if_neg (show ¬ (A 2 p ≠ -1 ∧ A 3 p = -1 ∧ w - A 4 p ≤ rws A (A 2 p).toNat) by first | (intro z; exact z.1 h1) | (intro z; exact h2 z.2.1) | (intro z; exact h4 z.2.2))]
                    exact hR
            · skip
              refine k_bipush hX.1 dX7_gauge_25 (by decide) ?_
              refine k_iret hX dX7_gauge_27 rfl ?_
              refine ⟨?_, ?_, sameM.rf g⟩
              · congr 2
                unfold rGauge
                rw [Int.toNat_natCast]
                first | rw [if_pos (show 0 ≤ (p : Int) ∧ (p : Int) < A 12 0 by omega), if_neg (show ¬ (1 ≤ w ∧ w ≤ 18) by omega)] | rw [if_pos (show 0 ≤ (p : Int) ∧ (p : Int) < A 12 0 by omega), if_pos (show 1 ≤ w ∧ w ≤ 18 by omega), if_neg (show ¬ (A 2 p ≠ -1 ∧ A 3 p = -1 ∧ w - A 4 p ≤ rws A (A 2 p).toNat) by first | (intro z; exact z.1 h1) | (intro z; exact h2 z.2.1) | (intro z; exact h4 z.2.2))]
              · unfold nGauge
                rw [Int.toNat_natCast]
                first | rw [if_pos (show 0 ≤ (p : Int) ∧ (p : Int) < A 12 0 by omega), if_neg (show ¬ (1 ≤ w ∧ w ≤ 18) by omega)] | rw [if_pos (show 0 ≤ (p : Int) ∧ (p : Int) < A 12 0 by omega), if_pos (show 1 ≤ w ∧ w ≤ 18 by omega), if_neg (show ¬ (A 2 p ≠ -1 ∧ A 3 p = -1 ∧ w - A 4 p ≤ rws A (A 2 p).toNat) by first | (intro z; exact z.1 h1) | (intro z; exact h2 z.2.1) | (intro z; exact h4 z.2.2))]
                exact hR
        · skip
          exact absurd c_8 (by decide)
  · skip
    refine k_aload_n hX.1 dX7_gauge_0 rfl rfl ?_
    refine k_getr (t := 3) hX.1 dX7_gauge_1 flX7_19 rfl (by decide) rfl rfl ?_
    refine k_iload_n hX.1 dX7_gauge_4 rfl rfl ?_
    refine k_callVf (d2 := 1) (n := 1) (as := [_]) hX.1 dX7_gauge_5 lkX7_77 (fit_of hX (by omega) gmX6_hasPart) rfl rfl (by decide) rfl rfl rfl (Nat.le_of_ble_eq_true rfl) (cW_hasPart0 E g (by omega) (by omega) (by omega)) ?_
    refine k_if_ne (tgt := 14) hX.1 dX7_gauge_8 (by decide) (by omega) (fun c_8 => ?_) (fun c_8 => ?_)
    · skip
      exact absurd rfl c_8
    · skip
      refine k_bipush hX.1 dX7_gauge_11 (by decide) ?_
      refine k_iret hX dX7_gauge_13 rfl ?_
      refine ⟨?_, ?_, sameM.rf g⟩
      · congr 2
        unfold rGauge
        (repeat first | rw [if_pos (by omega)] | rw [if_neg (by omega)])
      · unfold nGauge
        (repeat first | rw [if_pos (by omega)] | rw [if_neg (by omega)])
        exact hR

def wM (g : Mm) (m : Nat) : Mm := (fun a b => if 11 ≤ a ∧ a < 11 + m ∧ b = 0 then fdd (g.1 a 0) (g.1 3 4) else g.1 a b, g.2)
theorem wM_0 (g : Mm) : wM g 0 = g := Prod.ext (by funext a b; show (if _ then _ else _) = _; rw [if_neg (by omega)]) rfl
theorem wM_s (g : Mm) (t : Nat) : wr (wM g t) (11 + t) 0 (fdd (g.1 (11 + t) 0) (g.1 3 4)) = wM g (t + 1) := by
  refine Prod.ext ?_ rfl
  funext a b
  show (if a = 11 + t ∧ b = 0 then _ else (if 11 ≤ a ∧ a < 11 + t ∧ b = 0 then _ else _)) = (if 11 ≤ a ∧ a < 11 + (t + 1) ∧ b = 0 then _ else _)
  by_cases h : a = 11 + t ∧ b = 0
  · rw [if_pos h, if_pos (by omega), h.1]
  · rw [if_neg h]
    by_cases h2 : 11 ≤ a ∧ a < 11 + t ∧ b = 0
    · rw [if_pos h2, if_pos (by omega)]
    · rw [if_neg h2, if_neg (by omega)]
theorem wM_off (g : Mm) {m a b : Nat} (h : ¬ (11 ≤ a ∧ a < 11 + m ∧ b = 0)) : (wM g m).1 a b = g.1 a b := if_neg h
theorem wM_at (g : Mm) {m a : Nat} (h : 11 ≤ a ∧ a < 11 + m) : (wM g m).1 a 0 = fdd (g.1 a 0) (g.1 3 4) := if_pos ⟨h.1, h.2, rfl⟩
theorem waA_off (A : St) {i j : Nat} (h : i ≠ 8) : waA A i j = A i j := if_neg (fun q => h q.1)
theorem RC_wa {A : St} {g : Mm} (hR : RC A g) (hW : Wb A) : RC (waA A) (wM g (A 12 2).toNat) := by
  obtain ⟨⟨h1, h2, h3⟩, hp, ht, hk, hb⟩ := hR
  obtain ⟨⟨w1, w2⟩, ⟨w3, w4⟩, w5⟩ := hW
  refine ⟨⟨?_, fun p hp => ?_, fun t ht => ?_⟩, ?_, ?_, fun h => ?_, fun p hp => ?_⟩
  · rw [wM_off g (by omega), wM_off g (by omega), wM_off g (by omega), waA_off A (by omega), waA_off A (by omega), waA_off A (by omega)]; exact h1
  · rw [waA_off A (by omega)] at hp
    have e := h2 p hp
    simp only [cPt0] at e ⊢
    rw [wM_off g (by omega), wM_off g (by omega), wM_off g (by omega), wM_off g (by omega), wM_off g (by omega), wM_off g (by omega), wM_off g (by omega), wM_off g (by omega), waA_off A (by omega), waA_off A (by omega), waA_off A (by omega), waA_off A (by omega), waA_off A (by omega), waA_off A (by omega), waA_off A (by omega), waA_off A (by omega)]
    exact e
  · rw [waA_off A (by omega)] at ht
    obtain ⟨e0, e1, e2⟩ := h3 t ht
    refine ⟨?_, ?_, ?_⟩
    · rw [wM_at g (by omega), e0, h1.2.2]
      exact (if_pos ⟨rfl, ht⟩).symm
    · rw [wM_off g (by omega), waA_off A (by omega)]; exact e1
    · rw [wM_off g (by omega), waA_off A (by omega)]; exact e2
  · unfold CPg
    rw [waA_off A (by omega), wM_off g (by omega)]
    exact ⟨hp.1, fun k hk => by rw [wM_off g (by omega), waA_off A (by omega)]; exact hp.2 k hk⟩
  · unfold CT
    rw [waA_off A (by omega), waA_off A (by omega), waA_off A (by omega), wM_off g (by omega), wM_off g (by omega), wM_off g (by omega)]; exact ht
  · rw [waA_off A (by omega)] at h
    have w6 := w5 h
    exact CK_fr (hk h) (fun a h1 h2 => by funext b; rw [wM_off g (by omega)]) ⟨waA_off A (by omega), waA_off A (by omega), waA_off A (by omega)⟩ (fun i p h => waA_off A (by omega)) (fun i p h1 h2 => waA_off A (by omega)) w2 w6.2
  · rw [wM_off g (by omega), wM_off g (by omega)]; exact hb p hp
theorem sameM_wM (g : Mm) {m : Nat} (h : m ≤ 3) : sameM g (wM g m) := fun a ha => ⟨by funext b; rw [wM_off g (by omega)], rfl⟩
set_option maxRecDepth 100000 in
set_option maxHeartbeats 4000000 in
theorem lp_wash (E : En) {A : St} {g : Mm} {n : Int} (hR : RC A g) (hW : Wf A n) (hz : ¬ A 12 0 = 0) (hWn : Wf (waA A) (n + 1)) {X : Cx} (hX : Wk E mX7_wash X 5 (fun r g' => r = some (vI (rWash A)) ∧ RC (nWash A) g' ∧ sameM g g')) : ∀ (m : Nat) (t : Nat), m + t = (A 12 2).toNat → V E X 15 [some (vR 0), some (vI (t : Int))] [] (wM g t) := by
  have hC0 := hR.1
  have hW0 := hW.1
  obtain ⟨⟨⟨hc1, hc2, hc3⟩, hcp, hcl⟩, ⟨hg1, hg2⟩, ⟨ht1, ht2, ht3⟩, hck, hcb⟩ := id hR
  obtain ⟨⟨⟨hw1, hw2, hw3, hw4, hw5, hw6, hw7, hw8⟩, hwp, hwl⟩, ⟨hq1, hq2, hq3⟩, ⟨hz1, ⟨hz2, hz3⟩, ⟨hz4, hz5⟩⟩, hwk⟩ := id hW
  intro m
  induction m with
  | zero =>
    intro t hm
    obtain rfl : t = (A 12 2).toNat := by omega
    have hR2 := RC_wa hR hW.b
    refine k_iload_n hX.1 dX7_wash_15 rfl rfl ?_
    refine k_aload_n hX.1 dX7_wash_16 rfl rfl ?_
    refine k_getr (t := 3) hX.1 dX7_wash_17 flX7_19 rfl (by decide) rfl rfl ?_
    refine k_geti hX.1 dX7_wash_20 flX7_98 rfl (by decide) rfl ?_
    refine k_top (b := A 12 2) (by rw [wM_off g (by omega)]; exact hc2) ?_
    refine k_icmp_ge (tgt := 66) hX.1 dX7_wash_23 (by decide) (by omega) (by omega) (fun c_23 => ?_) (fun c_23 => ?_)
    · skip
      refine k_aload_n hX.1 dX7_wash_66 rfl rfl ?_
      refine k_getr (t := 3) hX.1 dX7_wash_67 flX7_19 rfl (by decide) rfl rfl ?_
      refine k_callVf (d2 := 4) (n := 0) (as := []) hX.1 dX7_wash_70 lkX7_130 (fit_of hX (by omega) gmX6_seenOfAll) rfl rfl (by decide) rfl rfl rfl (Nat.le_of_ble_eq_true rfl) (cW_seenOfAll E hR2.1 hWn.1) ?_
      refine k_iret hX dX7_wash_73 rfl ?_
      refine ⟨?_, ?_, sameM_wM g (by omega)⟩
      · congr 2
        unfold rWash
        rw [if_neg hz]
      · unfold nWash
        rw [if_neg hz]
        exact hR2
    · skip
      exact absurd c_23 (by omega)
  | succ m ih =>
    intro t hm
    obtain ⟨e0, e1, e2⟩ := hcl (t) (by omega)
    obtain ⟨⟨ea, eb⟩, ⟨ec, ed⟩, ⟨ee, ef⟩⟩ := hwl (t) (by omega)
    refine k_iload_n hX.1 dX7_wash_15 rfl rfl ?_
    refine k_aload_n hX.1 dX7_wash_16 rfl rfl ?_
    refine k_getr (t := 3) hX.1 dX7_wash_17 flX7_19 rfl (by decide) rfl rfl ?_
    refine k_geti hX.1 dX7_wash_20 flX7_98 rfl (by decide) rfl ?_
    refine k_top (b := A 12 2) (by rw [wM_off g (by omega)]; exact hc2) ?_
    refine k_icmp_ge (tgt := 66) hX.1 dX7_wash_23 (by decide) (by omega) (by omega) (fun c_23 => ?_) (fun c_23 => ?_)
    · skip
      exact absurd c_23 (by omega)
    · skip
      refine k_aload_n hX.1 dX7_wash_26 rfl rfl ?_
      refine k_getr (t := 3) hX.1 dX7_wash_27 flX7_19 rfl (by decide) rfl rfl ?_
      refine k_getr (t := 5) hX.1 dX7_wash_30 flX7_101 rfl (by decide) rfl rfl ?_
      refine k_iload_n hX.1 dX7_wash_33 rfl rfl ?_
      refine k_aaldL (j := t) (q := 11 + t) hX.1 dX7_wash_34 rfl (by omega) (n := 3) rfl (by omega) (by omega) rfl ?_
      refine k_aload_n hX.1 dX7_wash_35 rfl rfl ?_
      refine k_getr (t := 3) hX.1 dX7_wash_36 flX7_19 rfl (by decide) rfl rfl ?_
      refine k_getr (t := 5) hX.1 dX7_wash_39 flX7_101 rfl (by decide) rfl rfl ?_
      refine k_iload_n hX.1 dX7_wash_42 rfl rfl ?_
      refine k_aaldL (j := t) (q := 11 + t) hX.1 dX7_wash_43 rfl (by omega) (n := 3) rfl (by omega) (by omega) rfl ?_
      refine k_geti hX.1 dX7_wash_44 flX7_154 (sk_L11 (by omega)) (by decide) rfl ?_
      refine k_top (b := g.1 (11 + t) 0) (by rw [wM_off g (by omega)]) ?_
      refine k_aload_n hX.1 dX7_wash_47 rfl rfl ?_
      refine k_getr (t := 3) hX.1 dX7_wash_48 flX7_19 rfl (by decide) rfl rfl ?_
      refine k_geti hX.1 dX7_wash_51 flX7_157 rfl (by decide) rfl ?_
      refine k_top (b := g.1 3 4) (by rw [wM_off g (by omega)]) ?_
      refine k_callSf (d2 := 2) (n := 2) (as := [_, _]) hX.1 dX7_wash_54 lkX7_160 (fit_of hX (by omega) gmX7_faded) rfl rfl (Nat.le_of_ble_eq_true rfl) (cX_faded E _ (by omega) (by omega)) ?_
      refine k_puti hX.1 dX7_wash_57 flX7_154 (sk_L11 (by omega)) (by decide) rfl ?_
      refine k_iinc hX.1 dX7_wash_60 rfl (by decide) rfl rfl ?_
      try simp only [List.set_cons_zero, List.set_cons_succ]
      refine k_goto (tgt := 15) hX.1 dX7_wash_63 (by decide) ?_
      exact k_mem (wM_s g t) (ih (t + 1) (by omega))

set_option maxRecDepth 100000 in
set_option maxHeartbeats 4000000 in
theorem c7_wash (E : En) {A : St} {g : Mm} {n : Int} (hR : RC A g) (hW : Wf A n) (hWn : Wf (nWash A) (n + 1)) : Ok E 5 mX7_wash [vR 0] g (fun r g' => r = some (vI (rWash A)) ∧ RC (nWash A) g' ∧ sameM g g') := by
  have hC0 := hR.1
  have hW0 := hW.1
  obtain ⟨⟨⟨hc1, hc2, hc3⟩, hcp, hcl⟩, ⟨hg1, hg2⟩, ⟨ht1, ht2, ht3⟩, hck, hcb⟩ := id hR
  obtain ⟨⟨⟨hw1, hw2, hw3, hw4, hw5, hw6, hw7, hw8⟩, hwp, hwl⟩, ⟨hq1, hq2, hq3⟩, ⟨hz1, ⟨hz2, hz3⟩, ⟨hz4, hz5⟩⟩, hwk⟩ := id hW
  refine Ok_of gmX7_wash (by omega) (Nat.le_of_ble_eq_true rfl) (fun X hX => ?_)
  show V E X 0 [some (vR 0), none] [] g
  by_cases hz : A 12 0 = 0
  · skip
    refine k_aload_n hX.1 dX7_wash_0 rfl rfl ?_
    refine k_getr (t := 3) hX.1 dX7_wash_1 flX7_19 rfl (by decide) rfl rfl ?_
    refine k_geti hX.1 dX7_wash_4 flX7_74 rfl (by decide) rfl ?_
    refine k_if_ne (tgt := 13) hX.1 dX7_wash_7 (by decide) (by omega) (fun c_7 => ?_) (fun c_7 => ?_)
    · skip
      exact absurd c_7 (by omega)
    · skip
      refine k_bipush hX.1 dX7_wash_10 (by decide) ?_
      refine k_iret hX dX7_wash_12 rfl ?_
      refine ⟨?_, ?_, sameM.rf g⟩
      · congr 2
        unfold rWash
        (repeat first | rw [if_pos (by omega)] | rw [if_neg (by omega)])
      · unfold nWash
        (repeat first | rw [if_pos (by omega)] | rw [if_neg (by omega)])
        exact hR
  · skip
    have hn : nWash A = waA A := if_neg hz
    rw [hn] at hWn
    refine k_aload_n hX.1 dX7_wash_0 rfl rfl ?_
    refine k_getr (t := 3) hX.1 dX7_wash_1 flX7_19 rfl (by decide) rfl rfl ?_
    refine k_geti hX.1 dX7_wash_4 flX7_74 rfl (by decide) rfl ?_
    refine k_if_ne (tgt := 13) hX.1 dX7_wash_7 (by decide) (by omega) (fun c_7 => ?_) (fun c_7 => ?_)
    · skip
      refine k_iconst hX.1 dX7_wash_13 ?_
      refine k_istore_n hX.1 dX7_wash_14 rfl (by decide) rfl rfl ?_
      try simp only [List.set_cons_zero, List.set_cons_succ]
      have h := lp_wash E hR hW hz hWn hX (A 12 2).toNat 0 (by omega)
      rw [wM_0] at h
      exact h
    · skip
      exact absurd c_7 (by omega)

theorem RC_nl {A : St} {g : Mm} (hR : RC A g) (hW : Wb A) (h3 : A 12 2 < 3) (hl : cLt0 A (A 12 2).toNat g) : RC (up A 12 2 (A 12 2 + 1)) (wr g 3 3 (A 12 2 + 1)) := by
  obtain ⟨⟨⟨c1, c2, c3⟩, h2, h4⟩, hp, ht, hk, hb⟩ := hR
  obtain ⟨⟨w1, w2⟩, ⟨w3, w4⟩, w5⟩ := hW
  refine ⟨⟨⟨?_, ?_, ?_⟩, fun p hp => ?_, fun t ht => ?_⟩, ?_, ?_, fun h => ?_, fun p hp => ?_⟩
  · rw [wr_1, if_neg (by omega), up_off (by omega)]; exact c1
  · rw [wr_at, up_at]
  · rw [wr_1, if_neg (by omega), up_off (by omega)]; exact c3
  · rw [up_off (by omega)] at hp
    have e := h2 p hp
    simp only [cPt0] at e ⊢
    rw [wr_off (by omega), up_off (by omega), up_off (by omega), up_off (by omega), up_off (by omega), up_off (by omega), up_off (by omega), up_off (by omega), up_off (by omega)]
    exact e
  · rw [up_at] at ht
    have e : cLt0 A t g := by
      by_cases h : (t : Int) < A 12 2
      · exact h4 t h
      · obtain rfl : t = (A 12 2).toNat := by omega
        exact hl
    simp only [cLt0] at e ⊢
    rw [wr_off (by omega), up_off (by omega), up_off (by omega), up_off (by omega)]
    exact e
  · unfold CPg
    rw [wr_off (by omega), wr_off (by omega), up_off (by omega)]
    exact ⟨hp.1, fun k hk => by rw [up_off (by omega)]; exact hp.2 k hk⟩
  · unfold CT
    rw [wr_off (by omega), up_off (by omega), up_off (by omega), up_off (by omega)]; exact ht
  · rw [up_off (by omega)] at h
    exact CK_fr (hk h) (fun a h1 h2 => wr_off (by omega)) ⟨up_off (by omega), up_off (by omega), up_off (by omega)⟩ (fun i p h => up_off (by omega)) (fun i p h1 h2 => up_off (by omega)) w2 (w5 h).2
  · rw [wr_off (by omega), wr_off (by omega)]; exact hb p hp
theorem RC_newlot {A : St} {g : Mm} (hR : RC A g) (hW : Wb A) (h3 : A 12 2 < 3) (s : Int) : RC (up (up (up (up A 8 (A 12 2).toNat s) 9 (A 12 2).toNat 0) 10 (A 12 2).toNat 0) 12 2 (A 12 2 + 1)) (wr (wr (wr (wr g (11 + (A 12 2).toNat) 0 s) (11 + (A 12 2).toNat) 1 0) (11 + (A 12 2).toNat) 2 0) 3 3 (A 12 2 + 1)) := by
  have w := hW.2.1
  have h0 : (A 12 2).toNat < 3 := by omega
  have r1 := RC_lot (j := 0) hR hW (by omega) s h0
  have w1 := Wb_up (i := 8) (j := (A 12 2).toNat) (v := s) hW (by omega)
  have r2 := RC_lot (j := 1) r1 w1 (by omega) 0 h0
  have w2 := Wb_up (i := 9) (j := (A 12 2).toNat) (v := 0) w1 (by omega)
  have r3 := RC_lot (j := 2) r2 w2 (by omega) 0 h0
  have w3 := Wb_up (i := 10) (j := (A 12 2).toNat) (v := 0) w2 (by omega)
  have e : up (up (up A 8 (A 12 2).toNat s) 9 (A 12 2).toNat 0) 10 (A 12 2).toNat 0 12 2 = A 12 2 := by rw [up_off (by omega), up_off (by omega), up_off (by omega)]
  have r4 := RC_nl r3 w3 (by rw [e]; exact h3) (by rw [e]; refine ⟨?_, ?_, ?_⟩ <;> simp [wr_1, up])
  rw [e] at r4
  exact r4
set_option maxRecDepth 100000 in
set_option maxHeartbeats 4000000 in
theorem c7_lot (E : En) {A : St} {g : Mm} {n : Int} (hR : RC A g) (hW : Wf A n) {s : Int} (hs : bd s) : Ok E 5 mX7_lot [vR 0, vI s] g (fun r g' => r = some (vI (rLot A s)) ∧ RC (nLot A s) g' ∧ sameM g g') := by
  have hC0 := hR.1
  have hW0 := hW.1
  obtain ⟨⟨⟨hc1, hc2, hc3⟩, hcp, hcl⟩, ⟨hg1, hg2⟩, ⟨ht1, ht2, ht3⟩, hck, hcb⟩ := id hR
  obtain ⟨⟨⟨hw1, hw2, hw3, hw4, hw5, hw6, hw7, hw8⟩, hwp, hwl⟩, ⟨hq1, hq2, hq3⟩, ⟨hz1, ⟨hz2, hz3⟩, ⟨hz4, hz5⟩⟩, hwk⟩ := id hW
  obtain ⟨t, ht0⟩ : ∃ m : Nat, (A 12 2) = (m : Int) := ⟨(A 12 2).toNat, by omega⟩
  have ht00 : (A 12 2).toNat = t := by omega
  refine Ok_of gmX7_lot (by omega) (Nat.le_of_ble_eq_true rfl) (fun X hX => ?_)
  show V E X 0 [some (vR 0), some (vI s)] [] g
  refine k_iload_n hX.1 dX7_lot_0 rfl rfl ?_
  refine k_if_lt (tgt := 10) hX.1 dX7_lot_1 (by decide) (by omega) (fun c_1 => ?_) (fun c_1 => ?_)
  · skip
    refine k_bipush hX.1 dX7_lot_10 (by decide) ?_
    refine k_iret hX dX7_lot_12 rfl ?_
    refine ⟨?_, ?_, sameM.rf g⟩
    · congr 2
      unfold rLot
      (repeat first | rw [if_pos (by omega)] | rw [if_neg (by omega)])
    · unfold nLot
      (repeat first | rw [if_pos (by omega)] | rw [if_neg (by omega)])
      exact hR
  · skip
    refine k_iload_n hX.1 dX7_lot_4 rfl rfl ?_
    refine k_bipush hX.1 dX7_lot_5 (by decide) ?_
    refine k_icmp_le (tgt := 13) hX.1 dX7_lot_7 (by decide) (by omega) (by omega) (fun c_7 => ?_) (fun c_7 => ?_)
    · skip
      refine k_aload_n hX.1 dX7_lot_13 rfl rfl ?_
      refine k_getr (t := 3) hX.1 dX7_lot_14 flX7_19 rfl (by decide) rfl rfl ?_
      refine k_geti hX.1 dX7_lot_17 flX7_74 rfl (by decide) rfl ?_
      refine k_if_ne (tgt := 26) hX.1 dX7_lot_20 (by decide) (by omega) (fun c_20 => ?_) (fun c_20 => ?_)
      · skip
        refine k_aload_n hX.1 dX7_lot_26 rfl rfl ?_
        refine k_getr (t := 3) hX.1 dX7_lot_27 flX7_19 rfl (by decide) rfl rfl ?_
        refine k_geti hX.1 dX7_lot_30 flX7_98 rfl (by decide) rfl ?_
        refine k_iconst hX.1 dX7_lot_33 ?_
        refine k_icmp_lt (tgt := 40) hX.1 dX7_lot_34 (by decide) (by omega) (by omega) (fun c_34 => ?_) (fun c_34 => ?_)
        · skip
          refine k_aload_n hX.1 dX7_lot_40 rfl rfl ?_
          refine k_getr (t := 3) hX.1 dX7_lot_41 flX7_19 rfl (by decide) rfl rfl ?_
          refine k_getr (t := 5) hX.1 dX7_lot_44 flX7_101 rfl (by decide) rfl rfl ?_
          refine k_aload_n hX.1 dX7_lot_47 rfl rfl ?_
          refine k_getr (t := 3) hX.1 dX7_lot_48 flX7_19 rfl (by decide) rfl rfl ?_
          refine k_geti hX.1 dX7_lot_51 flX7_98 rfl (by decide) rfl ?_
          refine k_aaldL (j := t) (q := 11 + t) hX.1 dX7_lot_54 rfl (by omega) (n := 3) rfl (by omega) (by omega) rfl ?_
          refine k_iload_n hX.1 dX7_lot_55 rfl rfl ?_
          refine k_callVp (d2 := 1) (n := 1) (as := [_]) hX.1 dX7_lot_56 lkX7_105 (fit_of hX (by omega) gmX2_begin) rfl (sk_L11 (by omega)) (by decide) rfl rfl rfl (Nat.le_of_ble_eq_true rfl) (cL_begin E g (t := t) (by omega)) ?_
          refine k_aload_n hX.1 dX7_lot_59 rfl rfl ?_
          refine k_getr (t := 3) hX.1 dX7_lot_60 flX7_19 rfl (by decide) rfl rfl ?_
          refine k_dupR hX.1 dX7_lot_63 ?_
          refine k_geti hX.1 dX7_lot_64 flX7_98 rfl (by decide) rfl ?_
          refine k_top (b := A 12 2) (by rw [wr_off (by omega), wr_off (by omega), wr_off (by omega)]; exact hc2) ?_
          refine k_iconst hX.1 dX7_lot_67 ?_
          refine k_iadd hX.1 dX7_lot_68 ?_
          refine k_puti hX.1 dX7_lot_69 flX7_98 rfl (by decide) rfl ?_
          refine k_aload_n hX.1 dX7_lot_72 rfl rfl ?_
          refine k_getr (t := 3) hX.1 dX7_lot_73 flX7_19 rfl (by decide) rfl rfl ?_
          refine k_geti hX.1 dX7_lot_76 flX7_98 rfl (by decide) rfl ?_
          refine k_top (b := A 12 2 + 1) (by rw [wr_at]) ?_
          refine k_iconst hX.1 dX7_lot_79 ?_
          refine k_isub hX.1 dX7_lot_80 ?_
          refine k_iret hX dX7_lot_81 rfl ?_
          refine ⟨?_, ?_, ((((sameM.rf g).wr (by omega)).wr (by omega)).wr (by omega)).wr (by omega)⟩
          · congr 2
            unfold rLot
            (repeat first | rw [if_pos (by omega)] | rw [if_neg (by omega)])
            omega
          · unfold nLot
            (repeat first | rw [if_pos (by omega)] | rw [if_neg (by omega)])
            rw [ht00]
            have r := RC_newlot hR hW.b (by omega) s
            rw [ht00] at r
            exact r
        · skip
          refine k_bipush hX.1 dX7_lot_37 (by decide) ?_
          refine k_iret hX dX7_lot_39 rfl ?_
          refine ⟨?_, ?_, sameM.rf g⟩
          · congr 2
            unfold rLot
            (repeat first | rw [if_pos (by omega)] | rw [if_neg (by omega)])
          · unfold nLot
            (repeat first | rw [if_pos (by omega)] | rw [if_neg (by omega)])
            exact hR
      · skip
        refine k_bipush hX.1 dX7_lot_23 (by decide) ?_
        refine k_iret hX dX7_lot_25 rfl ?_
        refine ⟨?_, ?_, sameM.rf g⟩
        · congr 2
          unfold rLot
          (repeat first | rw [if_pos (by omega)] | rw [if_neg (by omega)])
        · unfold nLot
          (repeat first | rw [if_pos (by omega)] | rw [if_neg (by omega)])
          exact hR
    · skip
      refine k_bipush hX.1 dX7_lot_10 (by decide) ?_
      refine k_iret hX dX7_lot_12 rfl ?_
      refine ⟨?_, ?_, sameM.rf g⟩
      · congr 2
        unfold rLot
        (repeat first | rw [if_pos (by omega)] | rw [if_neg (by omega)])
      · unfold nLot
        (repeat first | rw [if_pos (by omega)] | rw [if_neg (by omega)])
        exact hR
