theorem tkA_up {X : St} {i j t : Nat} {v x : Int} (hi : i ≠ 9 ∧ i ≠ 10) : tkA (up X i j v) t x = up (tkA X t x) i j v := by
  unfold tkA
  rw [up_off (A := X) (a := 9) (b := t) (by omega), up_off (A := X) (a := 10) (b := t) (by omega)]
  funext a b
  simp only [up_1]
  by_cases e1 : a = i ∧ b = j
  · rw [if_pos e1, if_neg (by omega), if_neg (by omega)]
    rw [if_pos e1]
  · rw [if_neg e1, if_neg e1]
theorem mkA_eq (A : St) (p a b : Nat) : mkA A p a b = up (up (up (up (tkA (tkA A a (hf A p a b)) b (A 1 p - hf A p a b)) 2 p (a : Int)) 3 p (if (a : Int) = (b : Int) then -1 else (b : Int))) 4 p (hf A p a b)) 5 p (A 1 p - hf A p a b) := by
  unfold mkA
  rw [tkA_up (by omega), tkA_up (by omega), tkA_up (by omega), tkA_up (by omega), tkA_up (by omega), tkA_up (by omega), tkA_up (by omega), tkA_up (by omega)]
theorem RM_mk {A : St} {g : Mm} (hR : RM A g) {p a b : Nat} (ha : (a : Int) < A 12 2) (hb : (b : Int) < A 12 2) : RM (mkA A p a b) (wr (wr (wr (wr (tkG (tkG g a (hf A p a b)) b (A 1 p - hf A p a b)) 49 p (a : Int)) 50 p (if (a : Int) = (b : Int) then -1 else (b : Int))) 51 p (hf A p a b)) 52 p (A 1 p - hf A p a b)) := by
  rw [mkA_eq]
  have t1 := RM_tk hR ha (hf A p a b)
  have t2 := RM_tk t1 (t := b) (by rw [tkA_12]; exact hb) (A 1 p - hf A p a b)
  exact RM_part (j := 5) (RM_part (j := 4) (RM_part (j := 3) (RM_part (j := 2) t2 (by omega) _) (by omega) _) (by omega) _) (by omega) _
set_option maxRecDepth 100000 in
set_option maxHeartbeats 4000000 in
theorem c8_knit (E : En) {A : St} {g : Mm} {n : Int} (hR : RM A g) (hW : Wf A n) {q x y : Int} (hq : bd q) (hx : bd x) (hy : bd y) (hWn : Wf (nKnit A q x y) (n + 1)) : Ok E 5 mX8_knit [vR 46, vI q, vI x, vI y] g (fun r g' => r = some (vI (rKnit A q x y)) ∧ RM (nKnit A q x y) g' ∧ sameC g g') := by
  have hM0 := hR.1
  have hW0 := hW.1
  obtain ⟨⟨⟨hm1, hm2, hm3⟩, hmp, hml⟩, ⟨hg1, hg2⟩, ⟨ht1, ht2, ht3, ⟨ht4, ht5⟩, ht6⟩, hmk⟩ := id hR
  obtain ⟨⟨⟨hw1, hw2, hw3, hw4, hw5, hw6, hw7, hw8⟩, hwp, hwl⟩, ⟨hq1, hq2, hq3⟩, ⟨hz1, ⟨hz2, hz3⟩, ⟨hz4, hz5⟩⟩, hwk⟩ := id hW
  refine Ok_of gmX8_knit (by omega) (Nat.le_of_ble_eq_true rfl) (fun X hX => ?_)
  show V E X 0 [some (vR 46), some (vI q), some (vI x), some (vI y), none, none] [] g
  by_cases i1 : 0 ≤ q ∧ q < A 12 0
  · skip
    by_cases i2 : 0 ≤ x ∧ x < A 12 2
    · skip
      by_cases i3 : 0 ≤ y ∧ y < A 12 2
      · skip
        obtain ⟨p, rfl⟩ : ∃ m : Nat, q = (m : Int) := ⟨q.toNat, by omega⟩
        obtain ⟨a, rfl⟩ : ∃ m : Nat, x = (m : Int) := ⟨x.toNat, by omega⟩
        obtain ⟨b, rfl⟩ : ∃ m : Nat, y = (m : Int) := ⟨y.toNat, by omega⟩
        obtain ⟨e0, e1, e2, e3, e4, e5, e6, e7⟩ := hmp (p) (by omega)
        obtain ⟨⟨ek1, ek2⟩, ⟨er1, er2⟩, ew2, ew3, ew4, ew5, ew6, ew7⟩ := hwp (p) (by omega)
        obtain ⟨k0, k1, k2⟩ := hml (a) (by omega)
        obtain ⟨⟨ka, kb⟩, ⟨kc, kd⟩, ⟨ke, kf⟩⟩ := hwl (a) (by omega)
        obtain ⟨l0, l1, l2⟩ := hml (b) (by omega)
        obtain ⟨⟨la, lb⟩, ⟨lc, ld⟩, ⟨le, lf⟩⟩ := hwl (b) (by omega)
        have hh : 0 ≤ hf A p a b ∧ hf A p a b ≤ A 1 p := by unfold hf; split <;> omega
        have ra : rws A a = 4 * A 9 a + A 10 a := rfl
        have rb : rws A b = 4 * A 9 b + A 10 b := rfl
        by_cases h1 : A 2 p = -1
        · skip
          by_cases h2 : hf A p a b ≤ rws A a
          · skip
            by_cases h3 : A 1 p - hf A p a b ≤ rws A b
            · skip
              have hn : nKnit A p a b = mkA A p a b := by
                rw [nKnit, if_pos ⟨i1, i2, i3⟩, Int.toNat_natCast, Int.toNat_natCast, Int.toNat_natCast, if_pos ⟨h1, h2, h3⟩]
              rw [hn] at hWn
              refine k_aload_n hX.1 dX8_knit_0 rfl rfl ?_
              refine k_iload_n hX.1 dX8_knit_1 rfl rfl ?_
              refine k_callVf (d2 := 2) (n := 1) (as := [_]) hX.1 dX8_knit_2 lkX8_148 (fit_of hX (by omega) gmX8_isPart) rfl rfl (by decide) rfl rfl rfl (Nat.le_of_ble_eq_true rfl) (cM_isPart1 E g (by omega) (by omega) (by omega)) ?_
              refine k_if_eq (tgt := 24) hX.1 dX8_knit_5 (by decide) (by omega) (fun c_5 => ?_) (fun c_5 => ?_)
              · skip
                exact absurd c_5 (by decide)
              · skip
                refine k_aload_n hX.1 dX8_knit_8 rfl rfl ?_
                refine k_iload_n hX.1 dX8_knit_9 rfl rfl ?_
                refine k_callVf (d2 := 2) (n := 1) (as := [_]) hX.1 dX8_knit_10 lkX8_156 (fit_of hX (by omega) gmX8_isLot) rfl rfl (by decide) rfl rfl rfl (Nat.le_of_ble_eq_true rfl) (cM_isLot1 E g (by omega) (by omega) (by omega)) ?_
                refine k_if_eq (tgt := 24) hX.1 dX8_knit_13 (by decide) (by omega) (fun c_13 => ?_) (fun c_13 => ?_)
                · skip
                  exact absurd c_13 (by decide)
                · skip
                  refine k_aload_n hX.1 dX8_knit_16 rfl rfl ?_
                  refine k_iload_n hX.1 dX8_knit_17 rfl rfl ?_
                  refine k_callVf (d2 := 2) (n := 1) (as := [_]) hX.1 dX8_knit_18 lkX8_156 (fit_of hX (by omega) gmX8_isLot) rfl rfl (by decide) rfl rfl rfl (Nat.le_of_ble_eq_true rfl) (cM_isLot1 E g (by omega) (by omega) (by omega)) ?_
                  refine k_if_ne (tgt := 27) hX.1 dX8_knit_21 (by decide) (by omega) (fun c_21 => ?_) (fun c_21 => ?_)
                  · skip
                    refine k_iload_n hX.1 dX8_knit_27 rfl rfl ?_
                    refine k_iload_n hX.1 dX8_knit_28 rfl rfl ?_
                    refine k_join2 50 (fun z => z = hf A p a b) (fun x1 hx1 => ?_) (fun jn_29 => ?_)
                    · skip
                      subst hx1
                      refine k_istore hX.1 dX8_knit_50 (by decide) rfl rfl ?_
                      try simp only [List.set_cons_zero, List.set_cons_succ]
                      refine k_aload_n hX.1 dX8_knit_52 rfl rfl ?_
                      refine k_getr (t := 48) hX.1 dX8_knit_53 flX8_13 rfl (by decide) rfl rfl ?_
                      refine k_iload_n hX.1 dX8_knit_56 rfl rfl ?_
                      refine k_iald (j := p) hX.1 dX8_knit_57 rfl (by omega) (n := 5) rfl (by omega) (by omega) ?_
                      refine k_top (b := A 1 p) e1 ?_
                      refine k_iload hX.1 dX8_knit_58 rfl ?_
                      refine k_isub hX.1 dX8_knit_60 ?_
                      refine k_istore hX.1 dX8_knit_61 (by decide) rfl rfl ?_
                      try simp only [List.set_cons_zero, List.set_cons_succ]
                      refine k_aload_n hX.1 dX8_knit_63 rfl rfl ?_
                      refine k_getr (t := 49) hX.1 dX8_knit_64 flX8_16 rfl (by decide) rfl rfl ?_
                      refine k_iload_n hX.1 dX8_knit_67 rfl rfl ?_
                      refine k_iald (j := p) hX.1 dX8_knit_68 rfl (by omega) (n := 5) rfl (by omega) (by omega) ?_
                      refine k_iconst hX.1 dX8_knit_69 ?_
                      refine k_icmp_ne (tgt := 93) hX.1 dX8_knit_70 (by decide) (by omega) (by omega) (fun c_70 => ?_) (fun c_70 => ?_)
                      · skip
                        exact absurd c_70 (by omega)
                      · skip
                        refine k_aload_n hX.1 dX8_knit_73 rfl rfl ?_
                        refine k_iload_n hX.1 dX8_knit_74 rfl rfl ?_
                        refine k_callVf (d2 := 1) (n := 1) (as := [_]) hX.1 dX8_knit_75 lkX8_165 (fit_of hX (by omega) gmX8_rowsIn) rfl rfl (by decide) rfl rfl rfl (Nat.le_of_ble_eq_true rfl) (cM_rowsIn E hM0 hW0 (t := a) (by omega)) ?_
                        refine k_iload hX.1 dX8_knit_78 rfl ?_
                        refine k_icmp_lt (tgt := 93) hX.1 dX8_knit_80 (by decide) (by omega) (by omega) (fun c_80 => ?_) (fun c_80 => ?_)
                        · skip
                          exact absurd c_80 (by omega)
                        · skip
                          refine k_aload_n hX.1 dX8_knit_83 rfl rfl ?_
                          refine k_iload_n hX.1 dX8_knit_84 rfl rfl ?_
                          refine k_callVf (d2 := 1) (n := 1) (as := [_]) hX.1 dX8_knit_85 lkX8_165 (fit_of hX (by omega) gmX8_rowsIn) rfl rfl (by decide) rfl rfl rfl (Nat.le_of_ble_eq_true rfl) (cM_rowsIn E hM0 hW0 (t := b) (by omega)) ?_
                          refine k_iload hX.1 dX8_knit_88 rfl ?_
                          refine k_icmp_ge (tgt := 96) hX.1 dX8_knit_90 (by decide) (by omega) (by omega) (fun c_90 => ?_) (fun c_90 => ?_)
                          · skip
                            refine k_aload_n hX.1 dX8_knit_96 rfl rfl ?_
                            refine k_iload_n hX.1 dX8_knit_97 rfl rfl ?_
                            refine k_iload hX.1 dX8_knit_98 rfl ?_
                            refine k_callVp (d2 := 1) (n := 2) (as := [_, _]) hX.1 dX8_knit_100 lkX8_168 (fit_of hX (by omega) gmX8_take) rfl rfl (by decide) rfl rfl rfl (Nat.le_of_ble_eq_true rfl) (cM_take E g (t := a) (by omega) (by omega) (by omega)) ?_
                            refine k_aload_n hX.1 dX8_knit_103 rfl rfl ?_
                            refine k_iload_n hX.1 dX8_knit_104 rfl rfl ?_
                            refine k_iload hX.1 dX8_knit_105 rfl ?_
                            refine k_callVp (d2 := 1) (n := 2) (as := [_, _]) hX.1 dX8_knit_107 lkX8_168 (fit_of hX (by omega) gmX8_take) rfl rfl (by decide) rfl rfl rfl (Nat.le_of_ble_eq_true rfl) (cM_take E _ (t := b) (by omega) (by omega) (by by_cases z : b = a; (subst z; rw [tkG_7]; have := bgn_bd (lo := g.1 57 b) (x := hf A p b b) (by omega) (by omega); omega); (rw [tkG_off (Or.inr z)]; omega))) ?_
                            refine k_aload_n hX.1 dX8_knit_110 rfl rfl ?_
                            refine k_getr (t := 49) hX.1 dX8_knit_111 flX8_16 rfl (by decide) rfl rfl ?_
                            refine k_iload_n hX.1 dX8_knit_114 rfl rfl ?_
                            refine k_iload_n hX.1 dX8_knit_115 rfl rfl ?_
                            refine k_iast (j := p) hX.1 dX8_knit_116 rfl (by omega) (n := 5) rfl (by omega) (by omega) ?_
                            refine k_aload_n hX.1 dX8_knit_117 rfl rfl ?_
                            refine k_getr (t := 50) hX.1 dX8_knit_118 flX8_19 rfl (by decide) rfl rfl ?_
                            refine k_iload_n hX.1 dX8_knit_121 rfl rfl ?_
                            refine k_iload_n hX.1 dX8_knit_122 rfl rfl ?_
                            refine k_iload_n hX.1 dX8_knit_123 rfl rfl ?_
                            refine k_join2 132 (fun z => z = if (a : Int) = (b : Int) then -1 else (b : Int)) (fun x2 hx2 => ?_) (fun jn_124 => ?_)
                            · skip
                              subst hx2
                              refine k_iast (j := p) hX.1 dX8_knit_132 rfl (by omega) (n := 5) rfl (by omega) (by omega) ?_
                              refine k_aload_n hX.1 dX8_knit_133 rfl rfl ?_
                              refine k_getr (t := 51) hX.1 dX8_knit_134 flX8_22 rfl (by decide) rfl rfl ?_
                              refine k_iload_n hX.1 dX8_knit_137 rfl rfl ?_
                              refine k_iload hX.1 dX8_knit_138 rfl ?_
                              refine k_iast (j := p) hX.1 dX8_knit_140 rfl (by omega) (n := 5) rfl (by omega) (by omega) ?_
                              refine k_aload_n hX.1 dX8_knit_141 rfl rfl ?_
                              refine k_getr (t := 52) hX.1 dX8_knit_142 flX8_25 rfl (by decide) rfl rfl ?_
                              refine k_iload_n hX.1 dX8_knit_145 rfl rfl ?_
                              refine k_iload hX.1 dX8_knit_146 rfl ?_
                              refine k_iast (j := p) hX.1 dX8_knit_148 rfl (by omega) (n := 5) rfl (by omega) (by omega) ?_
                              refine k_aload_n hX.1 dX8_knit_149 rfl rfl ?_
                              have hR2 := RM_mk hR (p := p) (a := a) (b := b) (by omega) (by omega)
                              refine k_callVf (d2 := 4) (n := 0) (as := []) hX.1 dX8_knit_150 lkX8_172 (fit_of hX (by omega) gmX8_seenAll) rfl rfl (by decide) rfl rfl rfl (Nat.le_of_ble_eq_true rfl) (cM_seenAll E hR2.1 hWn.1) ?_
                              refine k_iret hX dX8_knit_153 rfl ?_
                              refine ⟨?_, ?_, ((((sameC_tk (sameC_tk (sameC.rf g) _ _) _ _).wr (by omega)).wr (by omega)).wr (by omega)).wr (by omega)⟩
                              · rw [rKnit, if_pos ⟨i1, i2, i3⟩, Int.toNat_natCast, Int.toNat_natCast, Int.toNat_natCast, if_pos ⟨h1, h2, h3⟩]
                              · rw [hn]; exact hR2
                            · refine k_icmp_ne (tgt := 131) hX.1 dX8_knit_124 (by decide) (by omega) (by omega) (fun c_124 => ?_) (fun c_124 => ?_)
                              · skip
                                refine k_iload_n hX.1 dX8_knit_131 rfl rfl ?_
                                exact jn_124 _ (by first | rw [if_pos (by omega)] | rw [if_neg (by omega)])
                              · skip
                                refine k_iconst hX.1 dX8_knit_127 ?_
                                refine k_goto (tgt := 132) hX.1 dX8_knit_128 (by decide) ?_
                                exact jn_124 _ (by first | rw [if_pos (by omega)] | rw [if_neg (by omega)])
                          · skip
                            exact absurd c_90 (by omega)
                    · refine k_icmp_ne (tgt := 41) hX.1 dX8_knit_29 (by decide) (by omega) (by omega) (fun c_29 => ?_) (fun c_29 => ?_)
                      · skip
                        refine k_aload_n hX.1 dX8_knit_41 rfl rfl ?_
                        refine k_getr (t := 48) hX.1 dX8_knit_42 flX8_13 rfl (by decide) rfl rfl ?_
                        refine k_iload_n hX.1 dX8_knit_45 rfl rfl ?_
                        refine k_iald (j := p) hX.1 dX8_knit_46 rfl (by omega) (n := 5) rfl (by omega) (by omega) ?_
                        refine k_callSf (d2 := 1) (n := 1) (as := [_]) hX.1 dX8_knit_47 lkX8_162 (fit_of hX (by omega) gmX8_firstHalf) rfl rfl (Nat.le_of_ble_eq_true rfl) (cM_half E g (by omega)) ?_
                        exact jn_29 _ (by unfold hf; first | rw [if_pos (by omega), e1] | rw [if_neg (by omega), e1])
                      · skip
                        refine k_aload_n hX.1 dX8_knit_32 rfl rfl ?_
                        refine k_getr (t := 48) hX.1 dX8_knit_33 flX8_13 rfl (by decide) rfl rfl ?_
                        refine k_iload_n hX.1 dX8_knit_36 rfl rfl ?_
                        refine k_iald (j := p) hX.1 dX8_knit_37 rfl (by omega) (n := 5) rfl (by omega) (by omega) ?_
                        refine k_goto (tgt := 50) hX.1 dX8_knit_38 (by decide) ?_
                        exact jn_29 _ (by unfold hf; first | rw [if_pos (by omega), e1] | rw [if_neg (by omega), e1])
                  · skip
                    exact absurd c_21 (by decide)
            · skip
              refine k_aload_n hX.1 dX8_knit_0 rfl rfl ?_
              refine k_iload_n hX.1 dX8_knit_1 rfl rfl ?_
              refine k_callVf (d2 := 2) (n := 1) (as := [_]) hX.1 dX8_knit_2 lkX8_148 (fit_of hX (by omega) gmX8_isPart) rfl rfl (by decide) rfl rfl rfl (Nat.le_of_ble_eq_true rfl) (cM_isPart1 E g (by omega) (by omega) (by omega)) ?_
              refine k_if_eq (tgt := 24) hX.1 dX8_knit_5 (by decide) (by omega) (fun c_5 => ?_) (fun c_5 => ?_)
              · skip
                exact absurd c_5 (by decide)
              · skip
                refine k_aload_n hX.1 dX8_knit_8 rfl rfl ?_
                refine k_iload_n hX.1 dX8_knit_9 rfl rfl ?_
                refine k_callVf (d2 := 2) (n := 1) (as := [_]) hX.1 dX8_knit_10 lkX8_156 (fit_of hX (by omega) gmX8_isLot) rfl rfl (by decide) rfl rfl rfl (Nat.le_of_ble_eq_true rfl) (cM_isLot1 E g (by omega) (by omega) (by omega)) ?_
                refine k_if_eq (tgt := 24) hX.1 dX8_knit_13 (by decide) (by omega) (fun c_13 => ?_) (fun c_13 => ?_)
                · skip
                  exact absurd c_13 (by decide)
                · skip
                  refine k_aload_n hX.1 dX8_knit_16 rfl rfl ?_
                  refine k_iload_n hX.1 dX8_knit_17 rfl rfl ?_
                  refine k_callVf (d2 := 2) (n := 1) (as := [_]) hX.1 dX8_knit_18 lkX8_156 (fit_of hX (by omega) gmX8_isLot) rfl rfl (by decide) rfl rfl rfl (Nat.le_of_ble_eq_true rfl) (cM_isLot1 E g (by omega) (by omega) (by omega)) ?_
                  refine k_if_ne (tgt := 27) hX.1 dX8_knit_21 (by decide) (by omega) (fun c_21 => ?_) (fun c_21 => ?_)
                  · skip
                    refine k_iload_n hX.1 dX8_knit_27 rfl rfl ?_
                    refine k_iload_n hX.1 dX8_knit_28 rfl rfl ?_
                    refine k_join2 50 (fun z => z = hf A p a b) (fun x1 hx1 => ?_) (fun jn_29 => ?_)
                    · skip
                      subst hx1
                      refine k_istore hX.1 dX8_knit_50 (by decide) rfl rfl ?_
                      try simp only [List.set_cons_zero, List.set_cons_succ]
                      refine k_aload_n hX.1 dX8_knit_52 rfl rfl ?_
                      refine k_getr (t := 48) hX.1 dX8_knit_53 flX8_13 rfl (by decide) rfl rfl ?_
                      refine k_iload_n hX.1 dX8_knit_56 rfl rfl ?_
                      refine k_iald (j := p) hX.1 dX8_knit_57 rfl (by omega) (n := 5) rfl (by omega) (by omega) ?_
                      refine k_top (b := A 1 p) e1 ?_
                      refine k_iload hX.1 dX8_knit_58 rfl ?_
                      refine k_isub hX.1 dX8_knit_60 ?_
                      refine k_istore hX.1 dX8_knit_61 (by decide) rfl rfl ?_
                      try simp only [List.set_cons_zero, List.set_cons_succ]
                      refine k_aload_n hX.1 dX8_knit_63 rfl rfl ?_
                      refine k_getr (t := 49) hX.1 dX8_knit_64 flX8_16 rfl (by decide) rfl rfl ?_
                      refine k_iload_n hX.1 dX8_knit_67 rfl rfl ?_
                      refine k_iald (j := p) hX.1 dX8_knit_68 rfl (by omega) (n := 5) rfl (by omega) (by omega) ?_
                      refine k_iconst hX.1 dX8_knit_69 ?_
                      refine k_icmp_ne (tgt := 93) hX.1 dX8_knit_70 (by decide) (by omega) (by omega) (fun c_70 => ?_) (fun c_70 => ?_)
                      · skip
                        exact absurd c_70 (by omega)
                      · skip
                        refine k_aload_n hX.1 dX8_knit_73 rfl rfl ?_
                        refine k_iload_n hX.1 dX8_knit_74 rfl rfl ?_
                        refine k_callVf (d2 := 1) (n := 1) (as := [_]) hX.1 dX8_knit_75 lkX8_165 (fit_of hX (by omega) gmX8_rowsIn) rfl rfl (by decide) rfl rfl rfl (Nat.le_of_ble_eq_true rfl) (cM_rowsIn E hM0 hW0 (t := a) (by omega)) ?_
                        refine k_iload hX.1 dX8_knit_78 rfl ?_
                        refine k_icmp_lt (tgt := 93) hX.1 dX8_knit_80 (by decide) (by omega) (by omega) (fun c_80 => ?_) (fun c_80 => ?_)
                        · skip
                          exact absurd c_80 (by omega)
                        · skip
                          refine k_aload_n hX.1 dX8_knit_83 rfl rfl ?_
                          refine k_iload_n hX.1 dX8_knit_84 rfl rfl ?_
                          refine k_callVf (d2 := 1) (n := 1) (as := [_]) hX.1 dX8_knit_85 lkX8_165 (fit_of hX (by omega) gmX8_rowsIn) rfl rfl (by decide) rfl rfl rfl (Nat.le_of_ble_eq_true rfl) (cM_rowsIn E hM0 hW0 (t := b) (by omega)) ?_
                          refine k_iload hX.1 dX8_knit_88 rfl ?_
                          refine k_icmp_ge (tgt := 96) hX.1 dX8_knit_90 (by decide) (by omega) (by omega) (fun c_90 => ?_) (fun c_90 => ?_)
                          · skip
                            exact absurd c_90 (by omega)
                          · skip
                            refine k_bipush hX.1 dX8_knit_93 (by decide) ?_
                            refine k_iret hX dX8_knit_95 rfl ?_
                            refine ⟨?_, ?_, sameC.rf g⟩
                            · rw [rKnit, if_pos ⟨i1, i2, i3⟩, Int.toNat_natCast, Int.toNat_natCast, Int.toNat_natCast, if_neg (fun z => h3 z.2.2)]
                            · rw [nKnit, if_pos ⟨i1, i2, i3⟩, Int.toNat_natCast, Int.toNat_natCast, Int.toNat_natCast, if_neg (fun z => h3 z.2.2)]
                              exact hR
                    · refine k_icmp_ne (tgt := 41) hX.1 dX8_knit_29 (by decide) (by omega) (by omega) (fun c_29 => ?_) (fun c_29 => ?_)
                      · skip
                        refine k_aload_n hX.1 dX8_knit_41 rfl rfl ?_
                        refine k_getr (t := 48) hX.1 dX8_knit_42 flX8_13 rfl (by decide) rfl rfl ?_
                        refine k_iload_n hX.1 dX8_knit_45 rfl rfl ?_
                        refine k_iald (j := p) hX.1 dX8_knit_46 rfl (by omega) (n := 5) rfl (by omega) (by omega) ?_
                        refine k_callSf (d2 := 1) (n := 1) (as := [_]) hX.1 dX8_knit_47 lkX8_162 (fit_of hX (by omega) gmX8_firstHalf) rfl rfl (Nat.le_of_ble_eq_true rfl) (cM_half E g (by omega)) ?_
                        exact jn_29 _ (by unfold hf; first | rw [if_pos (by omega), e1] | rw [if_neg (by omega), e1])
                      · skip
                        refine k_aload_n hX.1 dX8_knit_32 rfl rfl ?_
                        refine k_getr (t := 48) hX.1 dX8_knit_33 flX8_13 rfl (by decide) rfl rfl ?_
                        refine k_iload_n hX.1 dX8_knit_36 rfl rfl ?_
                        refine k_iald (j := p) hX.1 dX8_knit_37 rfl (by omega) (n := 5) rfl (by omega) (by omega) ?_
                        refine k_goto (tgt := 50) hX.1 dX8_knit_38 (by decide) ?_
                        exact jn_29 _ (by unfold hf; first | rw [if_pos (by omega), e1] | rw [if_neg (by omega), e1])
                  · skip
                    exact absurd c_21 (by decide)
          · skip
            refine k_aload_n hX.1 dX8_knit_0 rfl rfl ?_
            refine k_iload_n hX.1 dX8_knit_1 rfl rfl ?_
            refine k_callVf (d2 := 2) (n := 1) (as := [_]) hX.1 dX8_knit_2 lkX8_148 (fit_of hX (by omega) gmX8_isPart) rfl rfl (by decide) rfl rfl rfl (Nat.le_of_ble_eq_true rfl) (cM_isPart1 E g (by omega) (by omega) (by omega)) ?_
            refine k_if_eq (tgt := 24) hX.1 dX8_knit_5 (by decide) (by omega) (fun c_5 => ?_) (fun c_5 => ?_)
            · skip
              exact absurd c_5 (by decide)
            · skip
              refine k_aload_n hX.1 dX8_knit_8 rfl rfl ?_
              refine k_iload_n hX.1 dX8_knit_9 rfl rfl ?_
              refine k_callVf (d2 := 2) (n := 1) (as := [_]) hX.1 dX8_knit_10 lkX8_156 (fit_of hX (by omega) gmX8_isLot) rfl rfl (by decide) rfl rfl rfl (Nat.le_of_ble_eq_true rfl) (cM_isLot1 E g (by omega) (by omega) (by omega)) ?_
              refine k_if_eq (tgt := 24) hX.1 dX8_knit_13 (by decide) (by omega) (fun c_13 => ?_) (fun c_13 => ?_)
              · skip
                exact absurd c_13 (by decide)
              · skip
                refine k_aload_n hX.1 dX8_knit_16 rfl rfl ?_
                refine k_iload_n hX.1 dX8_knit_17 rfl rfl ?_
                refine k_callVf (d2 := 2) (n := 1) (as := [_]) hX.1 dX8_knit_18 lkX8_156 (fit_of hX (by omega) gmX8_isLot) rfl rfl (by decide) rfl rfl rfl (Nat.le_of_ble_eq_true rfl) (cM_isLot1 E g (by omega) (by omega) (by omega)) ?_
                refine k_if_ne (tgt := 27) hX.1 dX8_knit_21 (by decide) (by omega) (fun c_21 => ?_) (fun c_21 => ?_)
                · skip
                  refine k_iload_n hX.1 dX8_knit_27 rfl rfl ?_
                  refine k_iload_n hX.1 dX8_knit_28 rfl rfl ?_
                  refine k_join2 50 (fun z => z = hf A p a b) (fun x1 hx1 => ?_) (fun jn_29 => ?_)
                  · skip
                    subst hx1
                    refine k_istore hX.1 dX8_knit_50 (by decide) rfl rfl ?_
                    try simp only [List.set_cons_zero, List.set_cons_succ]
                    refine k_aload_n hX.1 dX8_knit_52 rfl rfl ?_
                    refine k_getr (t := 48) hX.1 dX8_knit_53 flX8_13 rfl (by decide) rfl rfl ?_
                    refine k_iload_n hX.1 dX8_knit_56 rfl rfl ?_
                    refine k_iald (j := p) hX.1 dX8_knit_57 rfl (by omega) (n := 5) rfl (by omega) (by omega) ?_
                    refine k_top (b := A 1 p) e1 ?_
                    refine k_iload hX.1 dX8_knit_58 rfl ?_
                    refine k_isub hX.1 dX8_knit_60 ?_
                    refine k_istore hX.1 dX8_knit_61 (by decide) rfl rfl ?_
                    try simp only [List.set_cons_zero, List.set_cons_succ]
                    refine k_aload_n hX.1 dX8_knit_63 rfl rfl ?_
                    refine k_getr (t := 49) hX.1 dX8_knit_64 flX8_16 rfl (by decide) rfl rfl ?_
                    refine k_iload_n hX.1 dX8_knit_67 rfl rfl ?_
                    refine k_iald (j := p) hX.1 dX8_knit_68 rfl (by omega) (n := 5) rfl (by omega) (by omega) ?_
                    refine k_iconst hX.1 dX8_knit_69 ?_
                    refine k_icmp_ne (tgt := 93) hX.1 dX8_knit_70 (by decide) (by omega) (by omega) (fun c_70 => ?_) (fun c_70 => ?_)
                    · skip
                      exact absurd c_70 (by omega)
                    · skip
                      refine k_aload_n hX.1 dX8_knit_73 rfl rfl ?_
                      refine k_iload_n hX.1 dX8_knit_74 rfl rfl ?_
                      refine k_callVf (d2 := 1) (n := 1) (as := [_]) hX.1 dX8_knit_75 lkX8_165 (fit_of hX (by omega) gmX8_rowsIn) rfl rfl (by decide) rfl rfl rfl (Nat.le_of_ble_eq_true rfl) (cM_rowsIn E hM0 hW0 (t := a) (by omega)) ?_
                      refine k_iload hX.1 dX8_knit_78 rfl ?_
                      refine k_icmp_lt (tgt := 93) hX.1 dX8_knit_80 (by decide) (by omega) (by omega) (fun c_80 => ?_) (fun c_80 => ?_)
                      · skip
                        refine k_bipush hX.1 dX8_knit_93 (by decide) ?_
                        refine k_iret hX dX8_knit_95 rfl ?_
                        refine ⟨?_, ?_, sameC.rf g⟩
                        · rw [rKnit, if_pos ⟨i1, i2, i3⟩, Int.toNat_natCast, Int.toNat_natCast, Int.toNat_natCast, if_neg (fun z => h2 z.2.1)]
                        · rw [nKnit, if_pos ⟨i1, i2, i3⟩, Int.toNat_natCast, Int.toNat_natCast, Int.toNat_natCast, if_neg (fun z => h2 z.2.1)]
                          exact hR
                      · skip
                        exact absurd c_80 (by omega)
                  · refine k_icmp_ne (tgt := 41) hX.1 dX8_knit_29 (by decide) (by omega) (by omega) (fun c_29 => ?_) (fun c_29 => ?_)
                    · skip
                      refine k_aload_n hX.1 dX8_knit_41 rfl rfl ?_
                      refine k_getr (t := 48) hX.1 dX8_knit_42 flX8_13 rfl (by decide) rfl rfl ?_
                      refine k_iload_n hX.1 dX8_knit_45 rfl rfl ?_
                      refine k_iald (j := p) hX.1 dX8_knit_46 rfl (by omega) (n := 5) rfl (by omega) (by omega) ?_
                      refine k_callSf (d2 := 1) (n := 1) (as := [_]) hX.1 dX8_knit_47 lkX8_162 (fit_of hX (by omega) gmX8_firstHalf) rfl rfl (Nat.le_of_ble_eq_true rfl) (cM_half E g (by omega)) ?_
                      exact jn_29 _ (by unfold hf; first | rw [if_pos (by omega), e1] | rw [if_neg (by omega), e1])
                    · skip
                      refine k_aload_n hX.1 dX8_knit_32 rfl rfl ?_
                      refine k_getr (t := 48) hX.1 dX8_knit_33 flX8_13 rfl (by decide) rfl rfl ?_
                      refine k_iload_n hX.1 dX8_knit_36 rfl rfl ?_
                      refine k_iald (j := p) hX.1 dX8_knit_37 rfl (by omega) (n := 5) rfl (by omega) (by omega) ?_
                      refine k_goto (tgt := 50) hX.1 dX8_knit_38 (by decide) ?_
                      exact jn_29 _ (by unfold hf; first | rw [if_pos (by omega), e1] | rw [if_neg (by omega), e1])
                · skip
                  exact absurd c_21 (by decide)
        · skip
          refine k_aload_n hX.1 dX8_knit_0 rfl rfl ?_
          refine k_iload_n hX.1 dX8_knit_1 rfl rfl ?_
          refine k_callVf (d2 := 2) (n := 1) (as := [_]) hX.1 dX8_knit_2 lkX8_148 (fit_of hX (by omega) gmX8_isPart) rfl rfl (by decide) rfl rfl rfl (Nat.le_of_ble_eq_true rfl) (cM_isPart1 E g (by omega) (by omega) (by omega)) ?_
          refine k_if_eq (tgt := 24) hX.1 dX8_knit_5 (by decide) (by omega) (fun c_5 => ?_) (fun c_5 => ?_)
          · skip
            exact absurd c_5 (by decide)
          · skip
            refine k_aload_n hX.1 dX8_knit_8 rfl rfl ?_
            refine k_iload_n hX.1 dX8_knit_9 rfl rfl ?_
            refine k_callVf (d2 := 2) (n := 1) (as := [_]) hX.1 dX8_knit_10 lkX8_156 (fit_of hX (by omega) gmX8_isLot) rfl rfl (by decide) rfl rfl rfl (Nat.le_of_ble_eq_true rfl) (cM_isLot1 E g (by omega) (by omega) (by omega)) ?_
            refine k_if_eq (tgt := 24) hX.1 dX8_knit_13 (by decide) (by omega) (fun c_13 => ?_) (fun c_13 => ?_)
            · skip
              exact absurd c_13 (by decide)
            · skip
              refine k_aload_n hX.1 dX8_knit_16 rfl rfl ?_
              refine k_iload_n hX.1 dX8_knit_17 rfl rfl ?_
              refine k_callVf (d2 := 2) (n := 1) (as := [_]) hX.1 dX8_knit_18 lkX8_156 (fit_of hX (by omega) gmX8_isLot) rfl rfl (by decide) rfl rfl rfl (Nat.le_of_ble_eq_true rfl) (cM_isLot1 E g (by omega) (by omega) (by omega)) ?_
              refine k_if_ne (tgt := 27) hX.1 dX8_knit_21 (by decide) (by omega) (fun c_21 => ?_) (fun c_21 => ?_)
              · skip
                refine k_iload_n hX.1 dX8_knit_27 rfl rfl ?_
                refine k_iload_n hX.1 dX8_knit_28 rfl rfl ?_
                refine k_join2 50 (fun z => z = hf A p a b) (fun x1 hx1 => ?_) (fun jn_29 => ?_)
                · skip
                  subst hx1
                  refine k_istore hX.1 dX8_knit_50 (by decide) rfl rfl ?_
                  try simp only [List.set_cons_zero, List.set_cons_succ]
                  refine k_aload_n hX.1 dX8_knit_52 rfl rfl ?_
                  refine k_getr (t := 48) hX.1 dX8_knit_53 flX8_13 rfl (by decide) rfl rfl ?_
                  refine k_iload_n hX.1 dX8_knit_56 rfl rfl ?_
                  refine k_iald (j := p) hX.1 dX8_knit_57 rfl (by omega) (n := 5) rfl (by omega) (by omega) ?_
                  refine k_top (b := A 1 p) e1 ?_
                  refine k_iload hX.1 dX8_knit_58 rfl ?_
                  refine k_isub hX.1 dX8_knit_60 ?_
                  refine k_istore hX.1 dX8_knit_61 (by decide) rfl rfl ?_
                  try simp only [List.set_cons_zero, List.set_cons_succ]
                  refine k_aload_n hX.1 dX8_knit_63 rfl rfl ?_
                  refine k_getr (t := 49) hX.1 dX8_knit_64 flX8_16 rfl (by decide) rfl rfl ?_
                  refine k_iload_n hX.1 dX8_knit_67 rfl rfl ?_
                  refine k_iald (j := p) hX.1 dX8_knit_68 rfl (by omega) (n := 5) rfl (by omega) (by omega) ?_
                  refine k_iconst hX.1 dX8_knit_69 ?_
                  refine k_icmp_ne (tgt := 93) hX.1 dX8_knit_70 (by decide) (by omega) (by omega) (fun c_70 => ?_) (fun c_70 => ?_)
                  · skip
                    refine k_bipush hX.1 dX8_knit_93 (by decide) ?_
                    refine k_iret hX dX8_knit_95 rfl ?_
                    refine ⟨?_, ?_, sameC.rf g⟩
                    · rw [rKnit, if_pos ⟨i1, i2, i3⟩, Int.toNat_natCast, Int.toNat_natCast, Int.toNat_natCast, if_neg (fun z => h1 z.1)]
                    · rw [nKnit, if_pos ⟨i1, i2, i3⟩, Int.toNat_natCast, Int.toNat_natCast, Int.toNat_natCast, if_neg (fun z => h1 z.1)]
                      exact hR
                  · skip
                    exact absurd c_70 (by omega)
                · refine k_icmp_ne (tgt := 41) hX.1 dX8_knit_29 (by decide) (by omega) (by omega) (fun c_29 => ?_) (fun c_29 => ?_)
                  · skip
                    refine k_aload_n hX.1 dX8_knit_41 rfl rfl ?_
                    refine k_getr (t := 48) hX.1 dX8_knit_42 flX8_13 rfl (by decide) rfl rfl ?_
                    refine k_iload_n hX.1 dX8_knit_45 rfl rfl ?_
                    refine k_iald (j := p) hX.1 dX8_knit_46 rfl (by omega) (n := 5) rfl (by omega) (by omega) ?_
                    refine k_callSf (d2 := 1) (n := 1) (as := [_]) hX.1 dX8_knit_47 lkX8_162 (fit_of hX (by omega) gmX8_firstHalf) rfl rfl (Nat.le_of_ble_eq_true rfl) (cM_half E g (by omega)) ?_
                    exact jn_29 _ (by unfold hf; first | rw [if_pos (by omega), e1] | rw [if_neg (by omega), e1])
                  · skip
                    refine k_aload_n hX.1 dX8_knit_32 rfl rfl ?_
                    refine k_getr (t := 48) hX.1 dX8_knit_33 flX8_13 rfl (by decide) rfl rfl ?_
                    refine k_iload_n hX.1 dX8_knit_36 rfl rfl ?_
                    refine k_iald (j := p) hX.1 dX8_knit_37 rfl (by omega) (n := 5) rfl (by omega) (by omega) ?_
                    refine k_goto (tgt := 50) hX.1 dX8_knit_38 (by decide) ?_
                    exact jn_29 _ (by unfold hf; first | rw [if_pos (by omega), e1] | rw [if_neg (by omega), e1])
              · skip
                exact absurd c_21 (by decide)
      · skip
        refine k_aload_n hX.1 dX8_knit_0 rfl rfl ?_
        refine k_iload_n hX.1 dX8_knit_1 rfl rfl ?_
        refine k_callVf (d2 := 2) (n := 1) (as := [_]) hX.1 dX8_knit_2 lkX8_148 (fit_of hX (by omega) gmX8_isPart) rfl rfl (by decide) rfl rfl rfl (Nat.le_of_ble_eq_true rfl) (cM_isPart1 E g (by omega) (by omega) (by omega)) ?_
        refine k_if_eq (tgt := 24) hX.1 dX8_knit_5 (by decide) (by omega) (fun c_5 => ?_) (fun c_5 => ?_)
        · skip
          exact absurd c_5 (by decide)
        · skip
          refine k_aload_n hX.1 dX8_knit_8 rfl rfl ?_
          refine k_iload_n hX.1 dX8_knit_9 rfl rfl ?_
          refine k_callVf (d2 := 2) (n := 1) (as := [_]) hX.1 dX8_knit_10 lkX8_156 (fit_of hX (by omega) gmX8_isLot) rfl rfl (by decide) rfl rfl rfl (Nat.le_of_ble_eq_true rfl) (cM_isLot1 E g (by omega) (by omega) (by omega)) ?_
          refine k_if_eq (tgt := 24) hX.1 dX8_knit_13 (by decide) (by omega) (fun c_13 => ?_) (fun c_13 => ?_)
          · skip
            exact absurd c_13 (by decide)
          · skip
            refine k_aload_n hX.1 dX8_knit_16 rfl rfl ?_
            refine k_iload_n hX.1 dX8_knit_17 rfl rfl ?_
            refine k_callVf (d2 := 2) (n := 1) (as := [_]) hX.1 dX8_knit_18 lkX8_156 (fit_of hX (by omega) gmX8_isLot) rfl rfl (by decide) rfl rfl rfl (Nat.le_of_ble_eq_true rfl) (cM_isLot0 E g (by omega) (by omega) (by omega)) ?_
            refine k_if_ne (tgt := 27) hX.1 dX8_knit_21 (by decide) (by omega) (fun c_21 => ?_) (fun c_21 => ?_)
            · skip
              exact absurd rfl c_21
            · skip
              refine k_bipush hX.1 dX8_knit_24 (by decide) ?_
              refine k_iret hX dX8_knit_26 rfl ?_
              refine ⟨?_, ?_, sameC.rf g⟩
              · congr 2
                unfold rKnit
                (repeat first | rw [if_pos (by omega)] | rw [if_neg (by omega)])
              · unfold nKnit
                (repeat first | rw [if_pos (by omega)] | rw [if_neg (by omega)])
                exact hR
    · skip
      refine k_aload_n hX.1 dX8_knit_0 rfl rfl ?_
      refine k_iload_n hX.1 dX8_knit_1 rfl rfl ?_
      refine k_callVf (d2 := 2) (n := 1) (as := [_]) hX.1 dX8_knit_2 lkX8_148 (fit_of hX (by omega) gmX8_isPart) rfl rfl (by decide) rfl rfl rfl (Nat.le_of_ble_eq_true rfl) (cM_isPart1 E g (by omega) (by omega) (by omega)) ?_
      refine k_if_eq (tgt := 24) hX.1 dX8_knit_5 (by decide) (by omega) (fun c_5 => ?_) (fun c_5 => ?_)
      · skip
        exact absurd c_5 (by decide)
      · skip
        refine k_aload_n hX.1 dX8_knit_8 rfl rfl ?_
        refine k_iload_n hX.1 dX8_knit_9 rfl rfl ?_
        refine k_callVf (d2 := 2) (n := 1) (as := [_]) hX.1 dX8_knit_10 lkX8_156 (fit_of hX (by omega) gmX8_isLot) rfl rfl (by decide) rfl rfl rfl (Nat.le_of_ble_eq_true rfl) (cM_isLot0 E g (by omega) (by omega) (by omega)) ?_
        refine k_if_eq (tgt := 24) hX.1 dX8_knit_13 (by decide) (by omega) (fun c_13 => ?_) (fun c_13 => ?_)
        · skip
          refine k_bipush hX.1 dX8_knit_24 (by decide) ?_
          refine k_iret hX dX8_knit_26 rfl ?_
          refine ⟨?_, ?_, sameC.rf g⟩
          · congr 2
            unfold rKnit
            (repeat first | rw [if_pos (by omega)] | rw [if_neg (by omega)])
          · unfold nKnit
            (repeat first | rw [if_pos (by omega)] | rw [if_neg (by omega)])
            exact hR
        · skip
          exact absurd rfl c_13
  · skip
    refine k_aload_n hX.1 dX8_knit_0 rfl rfl ?_
    refine k_iload_n hX.1 dX8_knit_1 rfl rfl ?_
    refine k_callVf (d2 := 2) (n := 1) (as := [_]) hX.1 dX8_knit_2 lkX8_148 (fit_of hX (by omega) gmX8_isPart) rfl rfl (by decide) rfl rfl rfl (Nat.le_of_ble_eq_true rfl) (cM_isPart0 E g (by omega) (by omega) (by omega)) ?_
    refine k_if_eq (tgt := 24) hX.1 dX8_knit_5 (by decide) (by omega) (fun c_5 => ?_) (fun c_5 => ?_)
    · skip
      refine k_bipush hX.1 dX8_knit_24 (by decide) ?_
      refine k_iret hX dX8_knit_26 rfl ?_
      refine ⟨?_, ?_, sameC.rf g⟩
      · congr 2
        unfold rKnit
        (repeat first | rw [if_pos (by omega)] | rw [if_neg (by omega)])
      · unfold nKnit
        (repeat first | rw [if_pos (by omega)] | rw [if_neg (by omega)])
        exact hR
    · skip
      exact absurd rfl c_5

theorem tkG_neg {g : Mm} {t : Nat} {x : Int} (h : x ≤ 0) (h0 : 0 ≤ g.1 57 t) : tkG g t x = wr g 57 t (g.1 57 t - x) := by
  have e : bgn (g.1 57 t) x = 0 := by unfold bgn; omega
  unfold tkG
  rw [e, wr_self g 56 t (by omega)]
  congr 1; omega
set_option maxRecDepth 100000 in
set_option maxHeartbeats 4000000 in
theorem c8_gauge (E : En) {A : St} {g : Mm} {n : Int} (hR : RM A g) (hW : Wf A n) {q w : Int} (hq : bd q) (hw : bd w) : Ok E 5 mX8_gauge [vR 46, vI q, vI w] g (fun r g' => r = some (vI (rGauge A q w)) ∧ RM (nGauge A q w) g' ∧ sameC g g') := by
  have hM0 := hR.1
  have hW0 := hW.1
  obtain ⟨⟨⟨hm1, hm2, hm3⟩, hmp, hml⟩, ⟨hg1, hg2⟩, ⟨ht1, ht2, ht3, ⟨ht4, ht5⟩, ht6⟩, hmk⟩ := id hR
  obtain ⟨⟨⟨hw1, hw2, hw3, hw4, hw5, hw6, hw7, hw8⟩, hwp, hwl⟩, ⟨hq1, hq2, hq3⟩, ⟨hz1, ⟨hz2, hz3⟩, ⟨hz4, hz5⟩⟩, hwk⟩ := id hW
  refine Ok_of gmX8_gauge (by omega) (Nat.le_of_ble_eq_true rfl) (fun X hX => ?_)
  show V E X 0 [some (vR 46), some (vI q), some (vI w), none] [] g
  by_cases i1 : 0 ≤ q ∧ q < A 12 0
  · skip
    obtain ⟨p, rfl⟩ : ∃ m : Nat, q = (m : Int) := ⟨q.toNat, by omega⟩
    obtain ⟨e0, e1, e2, e3, e4, e5, e6, e7⟩ := hmp (p) (by omega)
    obtain ⟨⟨ek1, ek2⟩, ⟨er1, er2⟩, ew2, ew3, ew4, ew5, ew6, ew7⟩ := hwp (p) (by omega)
    by_cases i2 : 1 ≤ w ∧ w ≤ 18
    · skip
      by_cases h1 : A 2 p ≠ -1
      · skip
        obtain ⟨a, ha⟩ : ∃ m : Nat, A 2 p = (m : Int) := ⟨(A 2 p).toNat, by omega⟩
        obtain ⟨k0, k1, k2⟩ := hml (a) (by omega)
        obtain ⟨⟨ka, kb⟩, ⟨kc, kd⟩, ⟨ke, kf⟩⟩ := hwl (a) (by omega)
        have ra : rws A a = 4 * A 9 a + A 10 a := rfl
        have ra2 : rws A (A 2 p).toNat = rws A a := by rw [ha, Int.toNat_natCast]
        by_cases h2 : A 3 p = -1
        · skip
          by_cases h3 : w - A 4 p ≤ rws A (A 2 p).toNat
          · skip
            by_cases h4 : w - A 4 p ≤ 0
            · skip
              have ht := RM_tk hR (t := a) (by omega) (w - A 4 p)
              rw [tkG_neg h4 (by omega)] at ht
              refine k_aload_n hX.1 dX8_gauge_0 rfl rfl ?_
              refine k_iload_n hX.1 dX8_gauge_1 rfl rfl ?_
              refine k_callVf (d2 := 2) (n := 1) (as := [_]) hX.1 dX8_gauge_2 lkX8_148 (fit_of hX (by omega) gmX8_isPart) rfl rfl (by decide) rfl rfl rfl (Nat.le_of_ble_eq_true rfl) (cM_isPart1 E g (by omega) (by omega) (by omega)) ?_
              refine k_if_ne (tgt := 11) hX.1 dX8_gauge_5 (by decide) (by omega) (fun c_5 => ?_) (fun c_5 => ?_)
              · skip
                refine k_iload_n hX.1 dX8_gauge_11 rfl rfl ?_
                refine k_iconst hX.1 dX8_gauge_12 ?_
                refine k_bipush hX.1 dX8_gauge_13 (by decide) ?_
                refine k_callSf (d2 := 1) (n := 3) (as := [_, _, _]) hX.1 dX8_gauge_15 lkX8_86 (fit_of hX (by omega) gmX8_within) rfl rfl (Nat.le_of_ble_eq_true rfl) (cM_within1 E g (by omega) (by omega) (by omega) (by omega)) ?_
                refine k_if_ne (tgt := 24) hX.1 dX8_gauge_18 (by decide) (by omega) (fun c_18 => ?_) (fun c_18 => ?_)
                · skip
                  refine k_aload_n hX.1 dX8_gauge_24 rfl rfl ?_
                  refine k_getr (t := 49) hX.1 dX8_gauge_25 flX8_16 rfl (by decide) rfl rfl ?_
                  refine k_iload_n hX.1 dX8_gauge_28 rfl rfl ?_
                  refine k_iald (j := p) hX.1 dX8_gauge_29 rfl (by omega) (n := 5) rfl (by omega) (by omega) ?_
                  refine k_iconst hX.1 dX8_gauge_30 ?_
                  refine k_icmp_eq (tgt := 65) hX.1 dX8_gauge_31 (by decide) (by omega) (by omega) (fun c_31 => ?_) (fun c_31 => ?_)
                  · skip
                    exact absurd c_31 (by omega)
                  · skip
                    refine k_aload_n hX.1 dX8_gauge_34 rfl rfl ?_
                    refine k_getr (t := 50) hX.1 dX8_gauge_35 flX8_19 rfl (by decide) rfl rfl ?_
                    refine k_iload_n hX.1 dX8_gauge_38 rfl rfl ?_
                    refine k_iald (j := p) hX.1 dX8_gauge_39 rfl (by omega) (n := 5) rfl (by omega) (by omega) ?_
                    refine k_iconst hX.1 dX8_gauge_40 ?_
                    refine k_icmp_ne (tgt := 65) hX.1 dX8_gauge_41 (by decide) (by omega) (by omega) (fun c_41 => ?_) (fun c_41 => ?_)
                    · skip
                      exact absurd c_41 (by omega)
                    · skip
                      refine k_aload_n hX.1 dX8_gauge_44 rfl rfl ?_
                      refine k_aload_n hX.1 dX8_gauge_45 rfl rfl ?_
                      refine k_getr (t := 49) hX.1 dX8_gauge_46 flX8_16 rfl (by decide) rfl rfl ?_
                      refine k_iload_n hX.1 dX8_gauge_49 rfl rfl ?_
                      refine k_iald (j := p) hX.1 dX8_gauge_50 rfl (by omega) (n := 5) rfl (by omega) (by omega) ?_
                      refine k_top (b := (a : Int)) (by omega) ?_
                      refine k_callVf (d2 := 1) (n := 1) (as := [_]) hX.1 dX8_gauge_51 lkX8_165 (fit_of hX (by omega) gmX8_rowsIn) rfl rfl (by decide) rfl rfl rfl (Nat.le_of_ble_eq_true rfl) (cM_rowsIn E hM0 hW0 (t := a) (by omega)) ?_
                      refine k_iload_n hX.1 dX8_gauge_54 rfl rfl ?_
                      refine k_aload_n hX.1 dX8_gauge_55 rfl rfl ?_
                      refine k_getr (t := 51) hX.1 dX8_gauge_56 flX8_22 rfl (by decide) rfl rfl ?_
                      refine k_iload_n hX.1 dX8_gauge_59 rfl rfl ?_
                      refine k_iald (j := p) hX.1 dX8_gauge_60 rfl (by omega) (n := 5) rfl (by omega) (by omega) ?_
                      refine k_isub hX.1 dX8_gauge_61 ?_
                      refine k_icmp_ge (tgt := 68) hX.1 dX8_gauge_62 (by decide) (by omega) (by omega) (fun c_62 => ?_) (fun c_62 => ?_)
                      · skip
                        refine k_iload_n hX.1 dX8_gauge_68 rfl rfl ?_
                        refine k_aload_n hX.1 dX8_gauge_69 rfl rfl ?_
                        refine k_getr (t := 51) hX.1 dX8_gauge_70 flX8_22 rfl (by decide) rfl rfl ?_
                        refine k_iload_n hX.1 dX8_gauge_73 rfl rfl ?_
                        refine k_iald (j := p) hX.1 dX8_gauge_74 rfl (by omega) (n := 5) rfl (by omega) (by omega) ?_
                        refine k_top (b := A 4 p) e4 ?_
                        refine k_isub hX.1 dX8_gauge_75 ?_
                        refine k_istore_n hX.1 dX8_gauge_76 rfl (by decide) rfl rfl ?_
                        try simp only [List.set_cons_zero, List.set_cons_succ]
                        refine k_iload_n hX.1 dX8_gauge_77 rfl rfl ?_
                        refine k_if_le (tgt := 95) hX.1 dX8_gauge_78 (by decide) (by omega) (fun c_78 => ?_) (fun c_78 => ?_)
                        · skip
                          refine k_aload_n hX.1 dX8_gauge_95 rfl rfl ?_
                          refine k_getr (t := 57) hX.1 dX8_gauge_96 flX8_40 rfl (by decide) rfl rfl ?_
                          refine k_aload_n hX.1 dX8_gauge_99 rfl rfl ?_
                          refine k_getr (t := 49) hX.1 dX8_gauge_100 flX8_16 rfl (by decide) rfl rfl ?_
                          refine k_iload_n hX.1 dX8_gauge_103 rfl rfl ?_
                          refine k_iald (j := p) hX.1 dX8_gauge_104 rfl (by omega) (n := 5) rfl (by omega) (by omega) ?_
                          refine k_top (b := (a : Int)) (by omega) ?_
                          refine k_dup2 hX.1 dX8_gauge_105 ?_
                          refine k_iald (j := a) hX.1 dX8_gauge_106 rfl (by omega) (n := 3) rfl (by omega) (by omega) ?_
                          refine k_iload_n hX.1 dX8_gauge_107 rfl rfl ?_
                          refine k_isub hX.1 dX8_gauge_108 ?_
                          refine k_iast (j := a) hX.1 dX8_gauge_109 rfl (by omega) (n := 3) rfl (by omega) (by omega) ?_
                          refine k_aload_n hX.1 dX8_gauge_110 rfl rfl ?_
                          refine k_getr (t := 51) hX.1 dX8_gauge_111 flX8_22 rfl (by decide) rfl rfl ?_
                          refine k_iload_n hX.1 dX8_gauge_114 rfl rfl ?_
                          refine k_iload_n hX.1 dX8_gauge_115 rfl rfl ?_
                          refine k_iast (j := p) hX.1 dX8_gauge_116 rfl (by omega) (n := 5) rfl (by omega) (by omega) ?_
                          refine k_aload_n hX.1 dX8_gauge_117 rfl rfl ?_
                          refine k_getr (t := 53) hX.1 dX8_gauge_118 flX8_28 rfl (by decide) rfl rfl ?_
                          refine k_iload_n hX.1 dX8_gauge_121 rfl rfl ?_
                          refine k_iload_n hX.1 dX8_gauge_122 rfl rfl ?_
                          refine k_iast (j := p) hX.1 dX8_gauge_123 rfl (by omega) (n := 5) rfl (by omega) (by omega) ?_
                          refine k_iload_n hX.1 dX8_gauge_124 rfl rfl ?_
                          refine k_iret hX dX8_gauge_125 rfl ?_
                          refine ⟨?_, ?_, (((sameC.rf g).wr (by omega)).wr (by omega)).wr (by omega)⟩
                          · rw [rGauge, if_pos i1, if_pos i2, Int.toNat_natCast, if_pos ⟨h1, h2, h3⟩]
                          · rw [nGauge, if_pos i1, if_pos i2, Int.toNat_natCast, if_pos ⟨h1, h2, h3⟩]
                            unfold gaA
                            rw [ha, Int.toNat_natCast]
                            exact RM_part (j := 6) (RM_part (j := 4) (ht) (by omega) _) (by omega) _
                        · skip
                          exact absurd c_78 (by omega)
                      · skip
                        exact absurd c_62 (by omega)
                · skip
                  exact absurd c_18 (by decide)
              · skip
                exact absurd c_5 (by decide)
            · skip
              have ht := RM_tk hR (t := a) (by omega) (w - A 4 p)
              refine k_aload_n hX.1 dX8_gauge_0 rfl rfl ?_
              refine k_iload_n hX.1 dX8_gauge_1 rfl rfl ?_
              refine k_callVf (d2 := 2) (n := 1) (as := [_]) hX.1 dX8_gauge_2 lkX8_148 (fit_of hX (by omega) gmX8_isPart) rfl rfl (by decide) rfl rfl rfl (Nat.le_of_ble_eq_true rfl) (cM_isPart1 E g (by omega) (by omega) (by omega)) ?_
              refine k_if_ne (tgt := 11) hX.1 dX8_gauge_5 (by decide) (by omega) (fun c_5 => ?_) (fun c_5 => ?_)
              · skip
                refine k_iload_n hX.1 dX8_gauge_11 rfl rfl ?_
                refine k_iconst hX.1 dX8_gauge_12 ?_
                refine k_bipush hX.1 dX8_gauge_13 (by decide) ?_
                refine k_callSf (d2 := 1) (n := 3) (as := [_, _, _]) hX.1 dX8_gauge_15 lkX8_86 (fit_of hX (by omega) gmX8_within) rfl rfl (Nat.le_of_ble_eq_true rfl) (cM_within1 E g (by omega) (by omega) (by omega) (by omega)) ?_
                refine k_if_ne (tgt := 24) hX.1 dX8_gauge_18 (by decide) (by omega) (fun c_18 => ?_) (fun c_18 => ?_)
                · skip
                  refine k_aload_n hX.1 dX8_gauge_24 rfl rfl ?_
                  refine k_getr (t := 49) hX.1 dX8_gauge_25 flX8_16 rfl (by decide) rfl rfl ?_
                  refine k_iload_n hX.1 dX8_gauge_28 rfl rfl ?_
                  refine k_iald (j := p) hX.1 dX8_gauge_29 rfl (by omega) (n := 5) rfl (by omega) (by omega) ?_
                  refine k_iconst hX.1 dX8_gauge_30 ?_
                  refine k_icmp_eq (tgt := 65) hX.1 dX8_gauge_31 (by decide) (by omega) (by omega) (fun c_31 => ?_) (fun c_31 => ?_)
                  · skip
                    exact absurd c_31 (by omega)
                  · skip
                    refine k_aload_n hX.1 dX8_gauge_34 rfl rfl ?_
                    refine k_getr (t := 50) hX.1 dX8_gauge_35 flX8_19 rfl (by decide) rfl rfl ?_
                    refine k_iload_n hX.1 dX8_gauge_38 rfl rfl ?_
                    refine k_iald (j := p) hX.1 dX8_gauge_39 rfl (by omega) (n := 5) rfl (by omega) (by omega) ?_
                    refine k_iconst hX.1 dX8_gauge_40 ?_
                    refine k_icmp_ne (tgt := 65) hX.1 dX8_gauge_41 (by decide) (by omega) (by omega) (fun c_41 => ?_) (fun c_41 => ?_)
                    · skip
                      exact absurd c_41 (by omega)
                    · skip
                      refine k_aload_n hX.1 dX8_gauge_44 rfl rfl ?_
                      refine k_aload_n hX.1 dX8_gauge_45 rfl rfl ?_
                      refine k_getr (t := 49) hX.1 dX8_gauge_46 flX8_16 rfl (by decide) rfl rfl ?_
                      refine k_iload_n hX.1 dX8_gauge_49 rfl rfl ?_
                      refine k_iald (j := p) hX.1 dX8_gauge_50 rfl (by omega) (n := 5) rfl (by omega) (by omega) ?_
                      refine k_top (b := (a : Int)) (by omega) ?_
                      refine k_callVf (d2 := 1) (n := 1) (as := [_]) hX.1 dX8_gauge_51 lkX8_165 (fit_of hX (by omega) gmX8_rowsIn) rfl rfl (by decide) rfl rfl rfl (Nat.le_of_ble_eq_true rfl) (cM_rowsIn E hM0 hW0 (t := a) (by omega)) ?_
                      refine k_iload_n hX.1 dX8_gauge_54 rfl rfl ?_
                      refine k_aload_n hX.1 dX8_gauge_55 rfl rfl ?_
                      refine k_getr (t := 51) hX.1 dX8_gauge_56 flX8_22 rfl (by decide) rfl rfl ?_
                      refine k_iload_n hX.1 dX8_gauge_59 rfl rfl ?_
                      refine k_iald (j := p) hX.1 dX8_gauge_60 rfl (by omega) (n := 5) rfl (by omega) (by omega) ?_
                      refine k_isub hX.1 dX8_gauge_61 ?_
                      refine k_icmp_ge (tgt := 68) hX.1 dX8_gauge_62 (by decide) (by omega) (by omega) (fun c_62 => ?_) (fun c_62 => ?_)
                      · skip
                        refine k_iload_n hX.1 dX8_gauge_68 rfl rfl ?_
                        refine k_aload_n hX.1 dX8_gauge_69 rfl rfl ?_
                        refine k_getr (t := 51) hX.1 dX8_gauge_70 flX8_22 rfl (by decide) rfl rfl ?_
                        refine k_iload_n hX.1 dX8_gauge_73 rfl rfl ?_
                        refine k_iald (j := p) hX.1 dX8_gauge_74 rfl (by omega) (n := 5) rfl (by omega) (by omega) ?_
                        refine k_top (b := A 4 p) e4 ?_
                        refine k_isub hX.1 dX8_gauge_75 ?_
                        refine k_istore_n hX.1 dX8_gauge_76 rfl (by decide) rfl rfl ?_
                        try simp only [List.set_cons_zero, List.set_cons_succ]
                        refine k_iload_n hX.1 dX8_gauge_77 rfl rfl ?_
                        refine k_if_le (tgt := 95) hX.1 dX8_gauge_78 (by decide) (by omega) (fun c_78 => ?_) (fun c_78 => ?_)
                        · skip
                          exact absurd c_78 (by omega)
                        · skip
                          refine k_aload_n hX.1 dX8_gauge_81 rfl rfl ?_
                          refine k_aload_n hX.1 dX8_gauge_82 rfl rfl ?_
                          refine k_getr (t := 49) hX.1 dX8_gauge_83 flX8_16 rfl (by decide) rfl rfl ?_
                          refine k_iload_n hX.1 dX8_gauge_86 rfl rfl ?_
                          refine k_iald (j := p) hX.1 dX8_gauge_87 rfl (by omega) (n := 5) rfl (by omega) (by omega) ?_
                          refine k_top (b := (a : Int)) (by omega) ?_
                          refine k_iload_n hX.1 dX8_gauge_88 rfl rfl ?_
                          refine k_callVp (d2 := 1) (n := 2) (as := [_, _]) hX.1 dX8_gauge_89 lkX8_168 (fit_of hX (by omega) gmX8_take) rfl rfl (by decide) rfl rfl rfl (Nat.le_of_ble_eq_true rfl) (cM_take E g (t := a) (by omega) (by omega) (by omega)) ?_
                          refine k_goto (tgt := 110) hX.1 dX8_gauge_92 (by decide) ?_
                          refine k_aload_n hX.1 dX8_gauge_110 rfl rfl ?_
                          refine k_getr (t := 51) hX.1 dX8_gauge_111 flX8_22 rfl (by decide) rfl rfl ?_
                          refine k_iload_n hX.1 dX8_gauge_114 rfl rfl ?_
                          refine k_iload_n hX.1 dX8_gauge_115 rfl rfl ?_
                          refine k_iast (j := p) hX.1 dX8_gauge_116 rfl (by omega) (n := 5) rfl (by omega) (by omega) ?_
                          refine k_aload_n hX.1 dX8_gauge_117 rfl rfl ?_
                          refine k_getr (t := 53) hX.1 dX8_gauge_118 flX8_28 rfl (by decide) rfl rfl ?_
                          refine k_iload_n hX.1 dX8_gauge_121 rfl rfl ?_
                          refine k_iload_n hX.1 dX8_gauge_122 rfl rfl ?_
                          refine k_iast (j := p) hX.1 dX8_gauge_123 rfl (by omega) (n := 5) rfl (by omega) (by omega) ?_
                          refine k_iload_n hX.1 dX8_gauge_124 rfl rfl ?_
                          refine k_iret hX dX8_gauge_125 rfl ?_
                          refine ⟨?_, ?_, ((sameC_tk (sameC.rf g) _ _).wr (by omega)).wr (by omega)⟩
                          · rw [rGauge, if_pos i1, if_pos i2, Int.toNat_natCast, if_pos ⟨h1, h2, h3⟩]
                          · rw [nGauge, if_pos i1, if_pos i2, Int.toNat_natCast, if_pos ⟨h1, h2, h3⟩]
                            unfold gaA
                            rw [ha, Int.toNat_natCast]
                            exact RM_part (j := 6) (RM_part (j := 4) (ht) (by omega) _) (by omega) _
                      · skip
                        exact absurd c_62 (by omega)
                · skip
                  exact absurd c_18 (by decide)
              · skip
                exact absurd c_5 (by decide)
          · skip
            refine k_aload_n hX.1 dX8_gauge_0 rfl rfl ?_
            refine k_iload_n hX.1 dX8_gauge_1 rfl rfl ?_
            refine k_callVf (d2 := 2) (n := 1) (as := [_]) hX.1 dX8_gauge_2 lkX8_148 (fit_of hX (by omega) gmX8_isPart) rfl rfl (by decide) rfl rfl rfl (Nat.le_of_ble_eq_true rfl) (cM_isPart1 E g (by omega) (by omega) (by omega)) ?_
            refine k_if_ne (tgt := 11) hX.1 dX8_gauge_5 (by decide) (by omega) (fun c_5 => ?_) (fun c_5 => ?_)
            · skip
              refine k_iload_n hX.1 dX8_gauge_11 rfl rfl ?_
              refine k_iconst hX.1 dX8_gauge_12 ?_
              refine k_bipush hX.1 dX8_gauge_13 (by decide) ?_
              refine k_callSf (d2 := 1) (n := 3) (as := [_, _, _]) hX.1 dX8_gauge_15 lkX8_86 (fit_of hX (by omega) gmX8_within) rfl rfl (Nat.le_of_ble_eq_true rfl) (cM_within1 E g (by omega) (by omega) (by omega) (by omega)) ?_
              refine k_if_ne (tgt := 24) hX.1 dX8_gauge_18 (by decide) (by omega) (fun c_18 => ?_) (fun c_18 => ?_)
              · skip
                refine k_aload_n hX.1 dX8_gauge_24 rfl rfl ?_
                refine k_getr (t := 49) hX.1 dX8_gauge_25 flX8_16 rfl (by decide) rfl rfl ?_
                refine k_iload_n hX.1 dX8_gauge_28 rfl rfl ?_
                refine k_iald (j := p) hX.1 dX8_gauge_29 rfl (by omega) (n := 5) rfl (by omega) (by omega) ?_
                refine k_iconst hX.1 dX8_gauge_30 ?_
                refine k_icmp_eq (tgt := 65) hX.1 dX8_gauge_31 (by decide) (by omega) (by omega) (fun c_31 => ?_) (fun c_31 => ?_)
                · skip
                  exact absurd c_31 (by omega)
                · skip
                  refine k_aload_n hX.1 dX8_gauge_34 rfl rfl ?_
                  refine k_getr (t := 50) hX.1 dX8_gauge_35 flX8_19 rfl (by decide) rfl rfl ?_
                  refine k_iload_n hX.1 dX8_gauge_38 rfl rfl ?_
                  refine k_iald (j := p) hX.1 dX8_gauge_39 rfl (by omega) (n := 5) rfl (by omega) (by omega) ?_
                  refine k_iconst hX.1 dX8_gauge_40 ?_
                  refine k_icmp_ne (tgt := 65) hX.1 dX8_gauge_41 (by decide) (by omega) (by omega) (fun c_41 => ?_) (fun c_41 => ?_)
                  · skip
                    exact absurd c_41 (by omega)
                  · skip
                    refine k_aload_n hX.1 dX8_gauge_44 rfl rfl ?_
                    refine k_aload_n hX.1 dX8_gauge_45 rfl rfl ?_
                    refine k_getr (t := 49) hX.1 dX8_gauge_46 flX8_16 rfl (by decide) rfl rfl ?_
                    refine k_iload_n hX.1 dX8_gauge_49 rfl rfl ?_
                    refine k_iald (j := p) hX.1 dX8_gauge_50 rfl (by omega) (n := 5) rfl (by omega) (by omega) ?_
                    refine k_top (b := (a : Int)) (by omega) ?_
                    refine k_callVf (d2 := 1) (n := 1) (as := [_]) hX.1 dX8_gauge_51 lkX8_165 (fit_of hX (by omega) gmX8_rowsIn) rfl rfl (by decide) rfl rfl rfl (Nat.le_of_ble_eq_true rfl) (cM_rowsIn E hM0 hW0 (t := a) (by omega)) ?_
                    refine k_iload_n hX.1 dX8_gauge_54 rfl rfl ?_
                    refine k_aload_n hX.1 dX8_gauge_55 rfl rfl ?_
                    refine k_getr (t := 51) hX.1 dX8_gauge_56 flX8_22 rfl (by decide) rfl rfl ?_
                    refine k_iload_n hX.1 dX8_gauge_59 rfl rfl ?_
                    refine k_iald (j := p) hX.1 dX8_gauge_60 rfl (by omega) (n := 5) rfl (by omega) (by omega) ?_
                    refine k_isub hX.1 dX8_gauge_61 ?_
                    refine k_icmp_ge (tgt := 68) hX.1 dX8_gauge_62 (by decide) (by omega) (by omega) (fun c_62 => ?_) (fun c_62 => ?_)
                    · skip
                      exact absurd c_62 (by omega)
                    · skip
                      refine k_bipush hX.1 dX8_gauge_65 (by decide) ?_
                      refine k_iret hX dX8_gauge_67 rfl ?_
                      refine ⟨?_, ?_, sameC.rf g⟩
                      · rw [rGauge, if_pos i1, if_pos i2, Int.toNat_natCast, if_neg (fun z => h3 z.2.2)]
                      · rw [nGauge, if_pos i1, if_pos i2, Int.toNat_natCast, if_neg (fun z => h3 z.2.2)]
                        exact hR
              · skip
                exact absurd c_18 (by decide)
            · skip
              exact absurd c_5 (by decide)
        · skip
          refine k_aload_n hX.1 dX8_gauge_0 rfl rfl ?_
          refine k_iload_n hX.1 dX8_gauge_1 rfl rfl ?_
          refine k_callVf (d2 := 2) (n := 1) (as := [_]) hX.1 dX8_gauge_2 lkX8_148 (fit_of hX (by omega) gmX8_isPart) rfl rfl (by decide) rfl rfl rfl (Nat.le_of_ble_eq_true rfl) (cM_isPart1 E g (by omega) (by omega) (by omega)) ?_
          refine k_if_ne (tgt := 11) hX.1 dX8_gauge_5 (by decide) (by omega) (fun c_5 => ?_) (fun c_5 => ?_)
          · skip
            refine k_iload_n hX.1 dX8_gauge_11 rfl rfl ?_
            refine k_iconst hX.1 dX8_gauge_12 ?_
            refine k_bipush hX.1 dX8_gauge_13 (by decide) ?_
            refine k_callSf (d2 := 1) (n := 3) (as := [_, _, _]) hX.1 dX8_gauge_15 lkX8_86 (fit_of hX (by omega) gmX8_within) rfl rfl (Nat.le_of_ble_eq_true rfl) (cM_within1 E g (by omega) (by omega) (by omega) (by omega)) ?_
            refine k_if_ne (tgt := 24) hX.1 dX8_gauge_18 (by decide) (by omega) (fun c_18 => ?_) (fun c_18 => ?_)
            · skip
              refine k_aload_n hX.1 dX8_gauge_24 rfl rfl ?_
              refine k_getr (t := 49) hX.1 dX8_gauge_25 flX8_16 rfl (by decide) rfl rfl ?_
              refine k_iload_n hX.1 dX8_gauge_28 rfl rfl ?_
              refine k_iald (j := p) hX.1 dX8_gauge_29 rfl (by omega) (n := 5) rfl (by omega) (by omega) ?_
              refine k_iconst hX.1 dX8_gauge_30 ?_
              refine k_icmp_eq (tgt := 65) hX.1 dX8_gauge_31 (by decide) (by omega) (by omega) (fun c_31 => ?_) (fun c_31 => ?_)
              · skip
                exact absurd c_31 (by omega)
              · skip
                refine k_aload_n hX.1 dX8_gauge_34 rfl rfl ?_
                refine k_getr (t := 50) hX.1 dX8_gauge_35 flX8_19 rfl (by decide) rfl rfl ?_
                refine k_iload_n hX.1 dX8_gauge_38 rfl rfl ?_
                refine k_iald (j := p) hX.1 dX8_gauge_39 rfl (by omega) (n := 5) rfl (by omega) (by omega) ?_
                refine k_iconst hX.1 dX8_gauge_40 ?_
                refine k_icmp_ne (tgt := 65) hX.1 dX8_gauge_41 (by decide) (by omega) (by omega) (fun c_41 => ?_) (fun c_41 => ?_)
                · skip
                  refine k_bipush hX.1 dX8_gauge_65 (by decide) ?_
                  refine k_iret hX dX8_gauge_67 rfl ?_
                  refine ⟨?_, ?_, sameC.rf g⟩
                  · rw [rGauge, if_pos i1, if_pos i2, Int.toNat_natCast, if_neg (fun z => h2 z.2.1)]
                  · rw [nGauge, if_pos i1, if_pos i2, Int.toNat_natCast, if_neg (fun z => h2 z.2.1)]
                    exact hR
                · skip
                  exact absurd c_41 (by omega)
            · skip
              exact absurd c_18 (by decide)
          · skip
            exact absurd c_5 (by decide)
      · skip
        have h1a : A 2 p = -1 := by omega
        refine k_aload_n hX.1 dX8_gauge_0 rfl rfl ?_
        refine k_iload_n hX.1 dX8_gauge_1 rfl rfl ?_
        refine k_callVf (d2 := 2) (n := 1) (as := [_]) hX.1 dX8_gauge_2 lkX8_148 (fit_of hX (by omega) gmX8_isPart) rfl rfl (by decide) rfl rfl rfl (Nat.le_of_ble_eq_true rfl) (cM_isPart1 E g (by omega) (by omega) (by omega)) ?_
        refine k_if_ne (tgt := 11) hX.1 dX8_gauge_5 (by decide) (by omega) (fun c_5 => ?_) (fun c_5 => ?_)
        · skip
          refine k_iload_n hX.1 dX8_gauge_11 rfl rfl ?_
          refine k_iconst hX.1 dX8_gauge_12 ?_
          refine k_bipush hX.1 dX8_gauge_13 (by decide) ?_
          refine k_callSf (d2 := 1) (n := 3) (as := [_, _, _]) hX.1 dX8_gauge_15 lkX8_86 (fit_of hX (by omega) gmX8_within) rfl rfl (Nat.le_of_ble_eq_true rfl) (cM_within1 E g (by omega) (by omega) (by omega) (by omega)) ?_
          refine k_if_ne (tgt := 24) hX.1 dX8_gauge_18 (by decide) (by omega) (fun c_18 => ?_) (fun c_18 => ?_)
          · skip
            refine k_aload_n hX.1 dX8_gauge_24 rfl rfl ?_
            refine k_getr (t := 49) hX.1 dX8_gauge_25 flX8_16 rfl (by decide) rfl rfl ?_
            refine k_iload_n hX.1 dX8_gauge_28 rfl rfl ?_
            refine k_iald (j := p) hX.1 dX8_gauge_29 rfl (by omega) (n := 5) rfl (by omega) (by omega) ?_
            refine k_iconst hX.1 dX8_gauge_30 ?_
            refine k_icmp_eq (tgt := 65) hX.1 dX8_gauge_31 (by decide) (by omega) (by omega) (fun c_31 => ?_) (fun c_31 => ?_)
            · skip
              refine k_bipush hX.1 dX8_gauge_65 (by decide) ?_
              refine k_iret hX dX8_gauge_67 rfl ?_
              refine ⟨?_, ?_, sameC.rf g⟩
              · rw [rGauge, if_pos i1, if_pos i2, Int.toNat_natCast, if_neg (fun z => h1 z.1)]
              · rw [nGauge, if_pos i1, if_pos i2, Int.toNat_natCast, if_neg (fun z => h1 z.1)]
                exact hR
            · skip
              exact absurd c_31 (by omega)
          · skip
            exact absurd c_18 (by decide)
        · skip
          exact absurd c_5 (by decide)
    · skip
      refine k_aload_n hX.1 dX8_gauge_0 rfl rfl ?_
      refine k_iload_n hX.1 dX8_gauge_1 rfl rfl ?_
      refine k_callVf (d2 := 2) (n := 1) (as := [_]) hX.1 dX8_gauge_2 lkX8_148 (fit_of hX (by omega) gmX8_isPart) rfl rfl (by decide) rfl rfl rfl (Nat.le_of_ble_eq_true rfl) (cM_isPart1 E g (by omega) (by omega) (by omega)) ?_
      refine k_if_ne (tgt := 11) hX.1 dX8_gauge_5 (by decide) (by omega) (fun c_5 => ?_) (fun c_5 => ?_)
      · skip
        refine k_iload_n hX.1 dX8_gauge_11 rfl rfl ?_
        refine k_iconst hX.1 dX8_gauge_12 ?_
        refine k_bipush hX.1 dX8_gauge_13 (by decide) ?_
        refine k_callSf (d2 := 1) (n := 3) (as := [_, _, _]) hX.1 dX8_gauge_15 lkX8_86 (fit_of hX (by omega) gmX8_within) rfl rfl (Nat.le_of_ble_eq_true rfl) (cM_within0 E g (by omega) (by omega) (by omega) (by omega)) ?_
        refine k_if_ne (tgt := 24) hX.1 dX8_gauge_18 (by decide) (by omega) (fun c_18 => ?_) (fun c_18 => ?_)
        · skip
          exact absurd rfl c_18
        · skip
          refine k_bipush hX.1 dX8_gauge_21 (by decide) ?_
          refine k_iret hX dX8_gauge_23 rfl ?_
          refine ⟨?_, ?_, sameC.rf g⟩
          · rw [rGauge, if_pos i1, if_neg i2]
          · rw [nGauge, if_pos i1, if_neg i2]
            exact hR
      · skip
        exact absurd c_5 (by decide)
  · skip
    refine k_aload_n hX.1 dX8_gauge_0 rfl rfl ?_
    refine k_iload_n hX.1 dX8_gauge_1 rfl rfl ?_
    refine k_callVf (d2 := 2) (n := 1) (as := [_]) hX.1 dX8_gauge_2 lkX8_148 (fit_of hX (by omega) gmX8_isPart) rfl rfl (by decide) rfl rfl rfl (Nat.le_of_ble_eq_true rfl) (cM_isPart0 E g (by omega) (by omega) (by omega)) ?_
    refine k_if_ne (tgt := 11) hX.1 dX8_gauge_5 (by decide) (by omega) (fun c_5 => ?_) (fun c_5 => ?_)
    · skip
      exact absurd rfl c_5
    · skip
      refine k_bipush hX.1 dX8_gauge_8 (by decide) ?_
      refine k_iret hX dX8_gauge_10 rfl ?_
      refine ⟨?_, ?_, sameC.rf g⟩
      · rw [rGauge, if_neg i1]
      · rw [nGauge, if_neg i1]
        exact hR

set_option maxRecDepth 100000 in
set_option maxHeartbeats 4000000 in
theorem cM_washed (E : En) (g : Mm) {s : Int} (hs : 0 ≤ s ∧ s ≤ 100) (hf : 0 ≤ g.1 46 2 ∧ g.1 46 2 ≤ 100) : Fn E 1 mX8_washed [vR 46, vI s] g (vI (fdd s (g.1 46 2))) := by
  refine Ok_of gmX8_washed (by omega) (Nat.le_of_ble_eq_true rfl) (fun X hX => ?_)
  show V E X 0 [some (vR 46), some (vI s)] [] g
  refine k_iload_n hX.1 dX8_washed_0 rfl rfl ?_
  refine k_bipush hX.1 dX8_washed_1 (by decide) ?_
  refine k_icmp_le (tgt := 29) hX.1 dX8_washed_3 (by decide) (by omega) (by omega) (fun c_3 => ?_) (fun c_3 => ?_)
  · skip
    refine k_iload_n hX.1 dX8_washed_29 rfl rfl ?_
    refine k_aload_n hX.1 dX8_washed_30 rfl rfl ?_
    refine k_geti hX.1 dX8_washed_31 flX8_122 rfl (by decide) rfl ?_
    refine k_iadd hX.1 dX8_washed_34 ?_
    refine k_bipush hX.1 dX8_washed_35 (by decide) ?_
    refine k_icmp_le (tgt := 45) hX.1 dX8_washed_37 (by decide) (by omega) (by omega) (fun c_37 => ?_) (fun c_37 => ?_)
    · skip
      refine k_iload_n hX.1 dX8_washed_45 rfl rfl ?_
      refine k_aload_n hX.1 dX8_washed_46 rfl rfl ?_
      refine k_geti hX.1 dX8_washed_47 flX8_122 rfl (by decide) rfl ?_
      refine k_iadd hX.1 dX8_washed_50 ?_
      refine k_iret hX dX8_washed_51 rfl ?_
      refine ⟨?_, rfl⟩
      congr 2
      unfold fdd
      split <;> omega
    · skip
      refine k_bipush hX.1 dX8_washed_40 (by decide) ?_
      refine k_goto (tgt := 51) hX.1 dX8_washed_42 (by decide) ?_
      refine k_iret hX dX8_washed_51 rfl ?_
      refine ⟨?_, rfl⟩
      congr 2
      unfold fdd
      split <;> omega
  · skip
    refine k_iload_n hX.1 dX8_washed_6 rfl rfl ?_
    refine k_aload_n hX.1 dX8_washed_7 rfl rfl ?_
    refine k_geti hX.1 dX8_washed_8 flX8_122 rfl (by decide) rfl ?_
    refine k_isub hX.1 dX8_washed_11 ?_
    refine k_bipush hX.1 dX8_washed_12 (by decide) ?_
    refine k_icmp_ge (tgt := 22) hX.1 dX8_washed_14 (by decide) (by omega) (by omega) (fun c_14 => ?_) (fun c_14 => ?_)
    · skip
      refine k_iload_n hX.1 dX8_washed_22 rfl rfl ?_
      refine k_aload_n hX.1 dX8_washed_23 rfl rfl ?_
      refine k_geti hX.1 dX8_washed_24 flX8_122 rfl (by decide) rfl ?_
      refine k_isub hX.1 dX8_washed_27 ?_
      refine k_iret hX dX8_washed_28 rfl ?_
      refine ⟨?_, rfl⟩
      congr 2
      unfold fdd
      split <;> omega
    · skip
      refine k_bipush hX.1 dX8_washed_17 (by decide) ?_
      refine k_goto (tgt := 28) hX.1 dX8_washed_19 (by decide) ?_
      refine k_iret hX dX8_washed_28 rfl ?_
      refine ⟨?_, rfl⟩
      congr 2
      unfold fdd
      split <;> omega

def wG (g : Mm) (m : Nat) : Mm := (fun a b => if a = 55 ∧ b < m then fdd (g.1 55 b) (g.1 46 2) else g.1 a b, g.2)
theorem wG_0 (g : Mm) : wG g 0 = g := Prod.ext (by funext a b; show (if _ then _ else _) = _; rw [if_neg (by omega)]) rfl
theorem wG_off (g : Mm) {m a b : Nat} (h : ¬ (a = 55 ∧ b < m)) : (wG g m).1 a b = g.1 a b := if_neg h
theorem wG_at (g : Mm) {m b : Nat} (h : b < m) : (wG g m).1 55 b = fdd (g.1 55 b) (g.1 46 2) := if_pos ⟨rfl, h⟩
theorem wG_s (g : Mm) (t : Nat) : wr (wG g t) 55 t (fdd (g.1 55 t) (g.1 46 2)) = wG g (t + 1) := by
  refine Prod.ext ?_ rfl
  funext a b
  show (if a = 55 ∧ b = t then _ else (if a = 55 ∧ b < t then _ else _)) = (if a = 55 ∧ b < t + 1 then _ else _)
  by_cases h : a = 55 ∧ b = t
  · rw [if_pos h, if_pos (by omega), h.2]
  · rw [if_neg h]
    by_cases h2 : a = 55 ∧ b < t
    · rw [if_pos h2, if_pos (by omega)]
    · rw [if_neg h2, if_neg (by omega)]
theorem RM_wa {A : St} {g : Mm} (hR : RM A g) (hn : 0 ≤ A 12 2) : RM (waA A) (wG g (A 12 2).toNat) := by
  obtain ⟨⟨h1, h2, h3⟩, hp, ht, hk⟩ := hR
  refine ⟨⟨?_, fun p hp => ?_, fun t ht => ?_⟩, ?_, ?_, fun h => ?_⟩
  · rw [wG_off g (by omega), wG_off g (by omega), wG_off g (by omega), waA_off A (by omega), waA_off A (by omega), waA_off A (by omega)]; exact h1
  · rw [waA_off A (by omega)] at hp
    have e := h2 p hp
    rw [wG_off g (by omega), wG_off g (by omega), wG_off g (by omega), wG_off g (by omega), wG_off g (by omega), wG_off g (by omega), wG_off g (by omega), wG_off g (by omega), waA_off A (by omega), waA_off A (by omega), waA_off A (by omega), waA_off A (by omega), waA_off A (by omega), waA_off A (by omega), waA_off A (by omega), waA_off A (by omega)]
    exact e
  · rw [waA_off A (by omega)] at ht
    obtain ⟨e0, e1, e2⟩ := h3 t ht
    refine ⟨?_, ?_, ?_⟩
    · rw [wG_at g (by omega), e0, h1.2.2]
      exact (if_pos ⟨rfl, ht⟩).symm
    · rw [wG_off g (by omega), waA_off A (by omega)]; exact e1
    · rw [wG_off g (by omega), waA_off A (by omega)]; exact e2
  · unfold MPg
    rw [waA_off A (by omega), wG_off g (by omega)]
    exact ⟨hp.1, fun k hk => by rw [wG_off g (by omega), waA_off A (by omega)]; exact hp.2 k hk⟩
  · unfold MT_
    rw [waA_off A (by omega), waA_off A (by omega), waA_off A (by omega), wG_off g (by omega), wG_off g (by omega), wG_off g (by omega), wG_off g (by omega)]; exact ht
  · rw [waA_off A (by omega)] at h
    exact MK_fr (hk h) (fun a h1 h2 => by funext b; rw [wG_off g (by omega)]) (wG_off g (by omega)) ⟨waA_off A (by omega), waA_off A (by omega)⟩ (fun i p h1 h2 => waA_off A (by omega))
theorem sameC_wG (g : Mm) (m : Nat) : sameC g (wG g m) := fun a ha => ⟨by funext b; rw [wG_off g (by omega)], rfl⟩
set_option maxRecDepth 100000 in
set_option maxHeartbeats 4000000 in
theorem lpM_wash (E : En) {A : St} {g : Mm} {n : Int} (hR : RM A g) (hW : Wf A n) (hz : ¬ A 12 0 = 0) (hWn : Wf (waA A) (n + 1)) {X : Cx} (hX : Wk E mX8_wash X 5 (fun r g' => r = some (vI (rWash A)) ∧ RM (nWash A) g' ∧ sameC g g')) : ∀ (m : Nat) (t : Nat), m + t = (A 12 2).toNat → V E X 12 [some (vR 46), some (vI (t : Int))] [] (wG g t) := by
  have hM0 := hR.1
  have hW0 := hW.1
  obtain ⟨⟨⟨hm1, hm2, hm3⟩, hmp, hml⟩, ⟨hg1, hg2⟩, ⟨ht1, ht2, ht3, ⟨ht4, ht5⟩, ht6⟩, hmk⟩ := id hR
  obtain ⟨⟨⟨hw1, hw2, hw3, hw4, hw5, hw6, hw7, hw8⟩, hwp, hwl⟩, ⟨hq1, hq2, hq3⟩, ⟨hz1, ⟨hz2, hz3⟩, ⟨hz4, hz5⟩⟩, hwk⟩ := id hW
  intro m
  induction m with
  | zero =>
    intro t hm
    obtain rfl : t = (A 12 2).toNat := by omega
    have hR2 := RM_wa hR hw3
    refine k_iload_n hX.1 dX8_wash_12 rfl rfl ?_
    refine k_aload_n hX.1 dX8_wash_13 rfl rfl ?_
    refine k_geti hX.1 dX8_wash_14 flX8_132 rfl (by decide) rfl ?_
    refine k_top (b := A 12 2) (by rw [wG_off g (by omega)]; exact hm2) ?_
    refine k_icmp_ge (tgt := 42) hX.1 dX8_wash_17 (by decide) (by omega) (by omega) (fun c_17 => ?_) (fun c_17 => ?_)
    · skip
      refine k_aload_n hX.1 dX8_wash_42 rfl rfl ?_
      refine k_callVf (d2 := 4) (n := 0) (as := []) hX.1 dX8_wash_43 lkX8_172 (fit_of hX (by omega) gmX8_seenAll) rfl rfl (by decide) rfl rfl rfl (Nat.le_of_ble_eq_true rfl) (cM_seenAll E hR2.1 hWn.1) ?_
      refine k_iret hX dX8_wash_46 rfl ?_
      refine ⟨?_, ?_, sameC_wG g _⟩
      · rw [rWash, if_neg hz]
      · rw [nWash, if_neg hz]; exact hR2
    · skip
      exact absurd c_17 (by omega)
  | succ m ih =>
    intro t hm
    obtain ⟨e0, e1, e2⟩ := hml (t) (by omega)
    obtain ⟨⟨ea, eb⟩, ⟨ec, ed⟩, ⟨ee, ef⟩⟩ := hwl (t) (by omega)
    refine k_iload_n hX.1 dX8_wash_12 rfl rfl ?_
    refine k_aload_n hX.1 dX8_wash_13 rfl rfl ?_
    refine k_geti hX.1 dX8_wash_14 flX8_132 rfl (by decide) rfl ?_
    refine k_top (b := A 12 2) (by rw [wG_off g (by omega)]; exact hm2) ?_
    refine k_icmp_ge (tgt := 42) hX.1 dX8_wash_17 (by decide) (by omega) (by omega) (fun c_17 => ?_) (fun c_17 => ?_)
    · skip
      exact absurd c_17 (by omega)
    · skip
      refine k_aload_n hX.1 dX8_wash_20 rfl rfl ?_
      refine k_getr (t := 55) hX.1 dX8_wash_21 flX8_34 rfl (by decide) rfl rfl ?_
      refine k_iload_n hX.1 dX8_wash_24 rfl rfl ?_
      refine k_aload_n hX.1 dX8_wash_25 rfl rfl ?_
      refine k_aload_n hX.1 dX8_wash_26 rfl rfl ?_
      refine k_getr (t := 55) hX.1 dX8_wash_27 flX8_34 rfl (by decide) rfl rfl ?_
      refine k_iload_n hX.1 dX8_wash_30 rfl rfl ?_
      refine k_iald (j := t) hX.1 dX8_wash_31 rfl (by omega) (n := 3) rfl (by omega) (by omega) ?_
      refine k_top (b := g.1 55 t) (by rw [wG_off g (by omega)]) ?_
      refine k_callVf (d2 := 1) (n := 1) (as := [_]) hX.1 dX8_wash_32 lkX8_178 (fit_of hX (by omega) gmX8_washed) rfl rfl (by decide) rfl rfl rfl (Nat.le_of_ble_eq_true rfl) (cM_washed E _ (by omega) (by rw [wG_off g (by omega)]; omega)) ?_
      rw [wG_off g (show ¬ ((46 : Nat) = 55 ∧ 2 < t) by omega)]
      refine k_iast (j := t) hX.1 dX8_wash_35 rfl (by omega) (n := 3) rfl (by omega) (by omega) ?_
      refine k_iinc hX.1 dX8_wash_36 rfl (by decide) rfl rfl ?_
      try simp only [List.set_cons_zero, List.set_cons_succ]
      refine k_goto (tgt := 12) hX.1 dX8_wash_39 (by decide) ?_
      exact k_mem (wG_s g t) (ih (t + 1) (by omega))

set_option maxRecDepth 100000 in
set_option maxHeartbeats 4000000 in
theorem c8_wash (E : En) {A : St} {g : Mm} {n : Int} (hR : RM A g) (hW : Wf A n) (hWn : Wf (nWash A) (n + 1)) : Ok E 5 mX8_wash [vR 46] g (fun r g' => r = some (vI (rWash A)) ∧ RM (nWash A) g' ∧ sameC g g') := by
  have hM0 := hR.1
  have hW0 := hW.1
  obtain ⟨⟨⟨hm1, hm2, hm3⟩, hmp, hml⟩, ⟨hg1, hg2⟩, ⟨ht1, ht2, ht3, ⟨ht4, ht5⟩, ht6⟩, hmk⟩ := id hR
  obtain ⟨⟨⟨hw1, hw2, hw3, hw4, hw5, hw6, hw7, hw8⟩, hwp, hwl⟩, ⟨hq1, hq2, hq3⟩, ⟨hz1, ⟨hz2, hz3⟩, ⟨hz4, hz5⟩⟩, hwk⟩ := id hW
  refine Ok_of gmX8_wash (by omega) (Nat.le_of_ble_eq_true rfl) (fun X hX => ?_)
  show V E X 0 [some (vR 46), none] [] g
  by_cases hz : A 12 0 = 0
  · skip
    refine k_aload_n hX.1 dX8_wash_0 rfl rfl ?_
    refine k_geti hX.1 dX8_wash_1 flX8_119 rfl (by decide) rfl ?_
    refine k_if_ne (tgt := 10) hX.1 dX8_wash_4 (by decide) (by omega) (fun c_4 => ?_) (fun c_4 => ?_)
    · skip
      exact absurd c_4 (by omega)
    · skip
      refine k_bipush hX.1 dX8_wash_7 (by decide) ?_
      refine k_iret hX dX8_wash_9 rfl ?_
      refine ⟨?_, ?_, sameC.rf g⟩
      · congr 2
        unfold rWash
        (repeat first | rw [if_pos (by omega)] | rw [if_neg (by omega)])
      · unfold nWash
        (repeat first | rw [if_pos (by omega)] | rw [if_neg (by omega)])
        exact hR
  · skip
    have hn : nWash A = waA A := if_neg hz
    rw [hn] at hWn
    refine k_aload_n hX.1 dX8_wash_0 rfl rfl ?_
    refine k_geti hX.1 dX8_wash_1 flX8_119 rfl (by decide) rfl ?_
    refine k_if_ne (tgt := 10) hX.1 dX8_wash_4 (by decide) (by omega) (fun c_4 => ?_) (fun c_4 => ?_)
    · skip
      refine k_iconst hX.1 dX8_wash_10 ?_
      refine k_istore_n hX.1 dX8_wash_11 rfl (by decide) rfl rfl ?_
      try simp only [List.set_cons_zero, List.set_cons_succ]
      have h := lpM_wash E hR hW hz hWn hX (A 12 2).toNat 0 (by omega)
      rw [wG_0] at h
      exact h
    · skip
      exact absurd c_4 (by omega)
