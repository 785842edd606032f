def badW (w : Int) : Prop := ¬ w = 0 ∧ (w < 10 ∨ 14 < w)
def rLeast (A : St) (w : Int) : Int := if ¬ w = 0 ∧ (w < 10 ∨ 14 < w) then -102 else if A 12 0 = 0 ∨ 20 ≤ A 12 5 then -103 else if (lp0 A).1 = 0 then -1 else if w = 0 then (lp0 A).2.1 else if w - 10 < A 12 0 then (lp0 A).2.2 (w - 10).toNat else -1
def nLeast (A : St) (w : Int) : St := if ¬ w = 0 ∧ (w < 10 ∨ 14 < w) then A else if A 12 0 = 0 ∨ 20 ≤ A 12 5 then A else up A 12 5 (A 12 5 + 1)
theorem RC_ask {A : St} {g h : Mm} (hR : RC A g) (hW : Wb A) (hf : ∀ a, (a < 25 ∨ 29 < a) → h.1 a = (wr g 0 8 (A 12 5 + 1)).1 a) : RC (up A 12 5 (A 12 5 + 1)) h := by
  refine RC_o hR hW (fun a h1 h2 => by rw [hf a (by omega), wr_off (by omega)]) (fun i p h => up_off (by omega)) (fun h => by rw [up_off (by omega)] at h; exact h) ⟨?_, fun q hq => ?_⟩ ⟨?_, ?_, ?_⟩
  · rw [hf 1 (by omega), wr_off (by omega), up_off (by omega)]; exact hR.2.1.1
  · rw [up_off (by omega)] at hq
    rw [hf 2 (by omega), wr_off (by omega), up_off (by omega)]; exact hR.2.1.2 q hq
  · rw [hf 0 (by omega), wr_1, if_neg (by omega), up_off (by omega)]; exact hR.2.2.1.1
  · rw [hf 0 (by omega), wr_1, if_neg (by omega), up_off (by omega)]; exact hR.2.2.1.2.1
  · rw [hf 0 (by omega), wr_at, up_at]
set_option maxRecDepth 100000 in
set_option maxHeartbeats 4000000 in
theorem c7_least (E : En) {A : St} {g : Mm} {n : Int} (hR : RC A g) (hW : Wf A n) {w : Int} (hw : bd w) : Ok E 20 mX7_least [vR 0, vI w] g (fun r g' => r = some (vI (rLeast A w)) ∧ RC (nLeast A w) g' ∧ sameM g g') := by
  have hC0 := hR.1
  have hW0 := hW.1
  obtain ⟨⟨⟨hc1, hc2, hc3⟩, hcp, hcl⟩, ⟨hg1, hg2⟩, ⟨ht1, ht2, ht3⟩, hck, hcb⟩ := id hR
  obtain ⟨⟨⟨hw1, hw2, hw3, hw4, hw5, hw6, hw7, hw8⟩, hwp, hwl⟩, ⟨hq1, hq2, hq3⟩, ⟨hz1, ⟨hz2, hz3⟩, ⟨hz4, hz5⟩⟩, hwk⟩ := id hW
  refine Ok_of gmX7_least (by omega) (Nat.le_of_ble_eq_true rfl) (fun X hX => ?_)
  show V E X 0 [some (vR 0), some (vI w), none] [] g
  by_cases hb : ¬ w = 0 ∧ (w < 10 ∨ 14 < w) ∨ (w < -1000 ∨ 1000 < w)
  · skip
    by_cases hsm0 : w < -1000 ∨ 1000 < w
    · skip
      by_cases hlo : w < 10
      · skip
        refine k_iload_n hX.1 dX7_least_0 rfl rfl ?_
        refine k_bipush hX.1 dX7_least_1 (by decide) ?_
        refine k_isub hX.1 dX7_least_3 ?_
        refine k_istore_n hX.1 dX7_least_4 rfl (by decide) rfl rfl ?_
        try simp only [List.set_cons_zero, List.set_cons_succ]
        refine k_iload_n hX.1 dX7_least_5 rfl rfl ?_
        refine k_if_eq (tgt := 23) hX.1 dX7_least_6 (by decide) (by omega) (fun c_6 => ?_) (fun c_6 => ?_)
        · skip
          exact absurd c_6 (by omega)
        · skip
          refine k_iload_n hX.1 dX7_least_9 rfl rfl ?_
          refine k_bipush hX.1 dX7_least_10 (by decide) ?_
          refine k_icmp_lt (tgt := 20) hX.1 dX7_least_12 (by decide) (by omega) (by omega) (fun c_12 => ?_) (fun c_12 => ?_)
          · skip
            refine k_bipush hX.1 dX7_least_20 (by decide) ?_
            refine k_iret hX dX7_least_22 rfl ?_
            refine ⟨?_, ?_, sameM.rf g⟩
            · congr 2
              unfold rLeast
              first | rw [if_pos (show ¬ w = 0 ∧ (w < 10 ∨ 14 < w) by omega)] | rw [if_neg (show ¬ (¬ w = 0 ∧ (w < 10 ∨ 14 < w)) by omega), if_pos (show A 12 0 = 0 ∨ 20 ≤ A 12 5 by omega)]
            · unfold nLeast
              first | rw [if_pos (show ¬ w = 0 ∧ (w < 10 ∨ 14 < w) by omega)] | rw [if_neg (show ¬ (¬ w = 0 ∧ (w < 10 ∨ 14 < w)) by omega), if_pos (show A 12 0 = 0 ∨ 20 ≤ A 12 5 by omega)]
              exact hR
          · skip
            exact absurd c_12 (by omega)
      · skip
        refine k_iload_n hX.1 dX7_least_0 rfl rfl ?_
        refine k_bipush hX.1 dX7_least_1 (by decide) ?_
        refine k_isub hX.1 dX7_least_3 ?_
        refine k_istore_n hX.1 dX7_least_4 rfl (by decide) rfl rfl ?_
        try simp only [List.set_cons_zero, List.set_cons_succ]
        refine k_iload_n hX.1 dX7_least_5 rfl rfl ?_
        refine k_if_eq (tgt := 23) hX.1 dX7_least_6 (by decide) (by omega) (fun c_6 => ?_) (fun c_6 => ?_)
        · skip
          exact absurd c_6 (by omega)
        · skip
          refine k_iload_n hX.1 dX7_least_9 rfl rfl ?_
          refine k_bipush hX.1 dX7_least_10 (by decide) ?_
          refine k_icmp_lt (tgt := 20) hX.1 dX7_least_12 (by decide) (by omega) (by omega) (fun c_12 => ?_) (fun c_12 => ?_)
          · skip
            exact absurd c_12 (by omega)
          · skip
            refine k_iload_n hX.1 dX7_least_15 rfl rfl ?_
            refine k_iconst hX.1 dX7_least_16 ?_
            refine k_icmp_lt (tgt := 23) hX.1 dX7_least_17 (by decide) (by omega) (by omega) (fun c_17 => ?_) (fun c_17 => ?_)
            · skip
              exact absurd c_17 (by omega)
            · skip
              refine k_bipush hX.1 dX7_least_20 (by decide) ?_
              refine k_iret hX dX7_least_22 rfl ?_
              refine ⟨?_, ?_, sameM.rf g⟩
              · congr 2
                unfold rLeast
                first | rw [if_pos (show ¬ w = 0 ∧ (w < 10 ∨ 14 < w) by omega)] | rw [if_neg (show ¬ (¬ w = 0 ∧ (w < 10 ∨ 14 < w)) by omega), if_pos (show A 12 0 = 0 ∨ 20 ≤ A 12 5 by omega)]
              · unfold nLeast
                first | rw [if_pos (show ¬ w = 0 ∧ (w < 10 ∨ 14 < w) by omega)] | rw [if_neg (show ¬ (¬ w = 0 ∧ (w < 10 ∨ 14 < w)) by omega), if_pos (show A 12 0 = 0 ∨ 20 ≤ A 12 5 by omega)]
                exact hR
    · skip
      by_cases hlo : w < 10
      · skip
        refine k_iload_n hX.1 dX7_least_0 rfl rfl ?_
        refine k_bipush hX.1 dX7_least_1 (by decide) ?_
        refine k_isub hX.1 dX7_least_3 ?_
        refine k_istore_n hX.1 dX7_least_4 rfl (by decide) rfl rfl ?_
        try simp only [List.set_cons_zero, List.set_cons_succ]
        refine k_iload_n hX.1 dX7_least_5 rfl rfl ?_
        refine k_if_eq (tgt := 23) hX.1 dX7_least_6 (by decide) (by omega) (fun c_6 => ?_) (fun c_6 => ?_)
        · skip
          exact absurd c_6 (by omega)
        · skip
          refine k_iload_n hX.1 dX7_least_9 rfl rfl ?_
          refine k_bipush hX.1 dX7_least_10 (by decide) ?_
          refine k_icmp_lt (tgt := 20) hX.1 dX7_least_12 (by decide) (by omega) (by omega) (fun c_12 => ?_) (fun c_12 => ?_)
          · skip
            refine k_bipush hX.1 dX7_least_20 (by decide) ?_
            refine k_iret hX dX7_least_22 rfl ?_
            refine ⟨?_, ?_, sameM.rf g⟩
            · congr 2
              unfold rLeast
              first | rw [if_pos (show ¬ w = 0 ∧ (w < 10 ∨ 14 < w) by omega)] | rw [if_neg (show ¬ (¬ w = 0 ∧ (w < 10 ∨ 14 < w)) by omega), if_pos (show A 12 0 = 0 ∨ 20 ≤ A 12 5 by omega)]
            · unfold nLeast
              first | rw [if_pos (show ¬ w = 0 ∧ (w < 10 ∨ 14 < w) by omega)] | rw [if_neg (show ¬ (¬ w = 0 ∧ (w < 10 ∨ 14 < w)) by omega), if_pos (show A 12 0 = 0 ∨ 20 ≤ A 12 5 by omega)]
              exact hR
          · skip
            exact absurd c_12 (by omega)
      · skip
        refine k_iload_n hX.1 dX7_least_0 rfl rfl ?_
        refine k_bipush hX.1 dX7_least_1 (by decide) ?_
        refine k_isub hX.1 dX7_least_3 ?_
        refine k_istore_n hX.1 dX7_least_4 rfl (by decide) rfl rfl ?_
        try simp only [List.set_cons_zero, List.set_cons_succ]
        refine k_iload_n hX.1 dX7_least_5 rfl rfl ?_
        refine k_if_eq (tgt := 23) hX.1 dX7_least_6 (by decide) (by omega) (fun c_6 => ?_) (fun c_6 => ?_)
        · skip
          exact absurd c_6 (by omega)
        · skip
          refine k_iload_n hX.1 dX7_least_9 rfl rfl ?_
          refine k_bipush hX.1 dX7_least_10 (by decide) ?_
          refine k_icmp_lt (tgt := 20) hX.1 dX7_least_12 (by decide) (by omega) (by omega) (fun c_12 => ?_) (fun c_12 => ?_)
          · skip
            exact absurd c_12 (by omega)
          · skip
            refine k_iload_n hX.1 dX7_least_15 rfl rfl ?_
            refine k_iconst hX.1 dX7_least_16 ?_
            refine k_icmp_lt (tgt := 23) hX.1 dX7_least_17 (by decide) (by omega) (by omega) (fun c_17 => ?_) (fun c_17 => ?_)
            · skip
              exact absurd c_17 (by omega)
            · skip
              refine k_bipush hX.1 dX7_least_20 (by decide) ?_
              refine k_iret hX dX7_least_22 rfl ?_
              refine ⟨?_, ?_, sameM.rf g⟩
              · congr 2
                unfold rLeast
                first | rw [if_pos (show ¬ w = 0 ∧ (w < 10 ∨ 14 < w) by omega)] | rw [if_neg (show ¬ (¬ w = 0 ∧ (w < 10 ∨ 14 < w)) by omega), if_pos (show A 12 0 = 0 ∨ 20 ≤ A 12 5 by omega)]
              · unfold nLeast
                first | rw [if_pos (show ¬ w = 0 ∧ (w < 10 ∨ 14 < w) by omega)] | rw [if_neg (show ¬ (¬ w = 0 ∧ (w < 10 ∨ 14 < w)) by omega), if_pos (show A 12 0 = 0 ∨ 20 ≤ A 12 5 by omega)]
                exact hR
  · skip
    by_cases hst : A 12 0 = 0 ∨ 20 ≤ A 12 5
    · skip
      by_cases hw0 : w = 0
      · skip
        refine k_iload_n hX.1 dX7_least_0 rfl rfl ?_
        refine k_bipush hX.1 dX7_least_1 (by decide) ?_
        refine k_isub hX.1 dX7_least_3 ?_
        refine k_istore_n hX.1 dX7_least_4 rfl (by decide) rfl rfl ?_
        try simp only [List.set_cons_zero, List.set_cons_succ]
        refine k_iload_n hX.1 dX7_least_5 rfl rfl ?_
        refine k_if_eq (tgt := 23) hX.1 dX7_least_6 (by decide) (by omega) (fun c_6 => ?_) (fun c_6 => ?_)
        · skip
          refine k_aload_n hX.1 dX7_least_23 rfl rfl ?_
          refine k_getr (t := 3) hX.1 dX7_least_24 flX7_19 rfl (by decide) rfl rfl ?_
          refine k_geti hX.1 dX7_least_27 flX7_74 rfl (by decide) rfl ?_
          refine k_if_eq (tgt := 42) hX.1 dX7_least_30 (by decide) (by omega) (fun c_30 => ?_) (fun c_30 => ?_)
          · skip
            refine k_bipush hX.1 dX7_least_42 (by decide) ?_
            refine k_iret hX dX7_least_44 rfl ?_
            refine ⟨?_, ?_, sameM.rf g⟩
            · congr 2
              unfold rLeast
              first | rw [if_pos (show ¬ w = 0 ∧ (w < 10 ∨ 14 < w) by omega)] | rw [if_neg (show ¬ (¬ w = 0 ∧ (w < 10 ∨ 14 < w)) by omega), if_pos (show A 12 0 = 0 ∨ 20 ≤ A 12 5 by omega)]
            · unfold nLeast
              first | rw [if_pos (show ¬ w = 0 ∧ (w < 10 ∨ 14 < w) by omega)] | rw [if_neg (show ¬ (¬ w = 0 ∧ (w < 10 ∨ 14 < w)) by omega), if_pos (show A 12 0 = 0 ∨ 20 ≤ A 12 5 by omega)]
              exact hR
          · skip
            have hq : 20 ≤ A 12 5 := by omega
            refine k_aload_n hX.1 dX7_least_33 rfl rfl ?_
            refine k_geti hX.1 dX7_least_34 flX7_163 rfl (by decide) rfl ?_
            refine k_bipush hX.1 dX7_least_37 (by decide) ?_
            refine k_icmp_lt (tgt := 45) hX.1 dX7_least_39 (by decide) (by omega) (by omega) (fun c_39 => ?_) (fun c_39 => ?_)
            · skip
              exact absurd c_39 (by omega)
            · skip
              refine k_bipush hX.1 dX7_least_42 (by decide) ?_
              refine k_iret hX dX7_least_44 rfl ?_
              refine ⟨?_, ?_, sameM.rf g⟩
              · congr 2
                unfold rLeast
                first | rw [if_pos (show ¬ w = 0 ∧ (w < 10 ∨ 14 < w) by omega)] | rw [if_neg (show ¬ (¬ w = 0 ∧ (w < 10 ∨ 14 < w)) by omega), if_pos (show A 12 0 = 0 ∨ 20 ≤ A 12 5 by omega)]
              · unfold nLeast
                first | rw [if_pos (show ¬ w = 0 ∧ (w < 10 ∨ 14 < w) by omega)] | rw [if_neg (show ¬ (¬ w = 0 ∧ (w < 10 ∨ 14 < w)) by omega), if_pos (show A 12 0 = 0 ∨ 20 ≤ A 12 5 by omega)]
                exact hR
        · skip
          exact absurd c_6 (by omega)
      · skip
        refine k_iload_n hX.1 dX7_least_0 rfl rfl ?_
        refine k_bipush hX.1 dX7_least_1 (by decide) ?_
        refine k_isub hX.1 dX7_least_3 ?_
        refine k_istore_n hX.1 dX7_least_4 rfl (by decide) rfl rfl ?_
        try simp only [List.set_cons_zero, List.set_cons_succ]
        refine k_iload_n hX.1 dX7_least_5 rfl rfl ?_
        refine k_if_eq (tgt := 23) hX.1 dX7_least_6 (by decide) (by omega) (fun c_6 => ?_) (fun c_6 => ?_)
        · skip
          exact absurd c_6 (by omega)
        · skip
          refine k_iload_n hX.1 dX7_least_9 rfl rfl ?_
          refine k_bipush hX.1 dX7_least_10 (by decide) ?_
          refine k_icmp_lt (tgt := 20) hX.1 dX7_least_12 (by decide) (by omega) (by omega) (fun c_12 => ?_) (fun c_12 => ?_)
          · skip
            exact absurd c_12 (by omega)
          · skip
            refine k_iload_n hX.1 dX7_least_15 rfl rfl ?_
            refine k_iconst hX.1 dX7_least_16 ?_
            refine k_icmp_lt (tgt := 23) hX.1 dX7_least_17 (by decide) (by omega) (by omega) (fun c_17 => ?_) (fun c_17 => ?_)
            · skip
              refine k_aload_n hX.1 dX7_least_23 rfl rfl ?_
              refine k_getr (t := 3) hX.1 dX7_least_24 flX7_19 rfl (by decide) rfl rfl ?_
              refine k_geti hX.1 dX7_least_27 flX7_74 rfl (by decide) rfl ?_
              refine k_if_eq (tgt := 42) hX.1 dX7_least_30 (by decide) (by omega) (fun c_30 => ?_) (fun c_30 => ?_)
              · skip
                refine k_bipush hX.1 dX7_least_42 (by decide) ?_
                refine k_iret hX dX7_least_44 rfl ?_
                refine ⟨?_, ?_, sameM.rf g⟩
                · congr 2
                  unfold rLeast
                  first | rw [if_pos (show ¬ w = 0 ∧ (w < 10 ∨ 14 < w) by omega)] | rw [if_neg (show ¬ (¬ w = 0 ∧ (w < 10 ∨ 14 < w)) by omega), if_pos (show A 12 0 = 0 ∨ 20 ≤ A 12 5 by omega)]
                · unfold nLeast
                  first | rw [if_pos (show ¬ w = 0 ∧ (w < 10 ∨ 14 < w) by omega)] | rw [if_neg (show ¬ (¬ w = 0 ∧ (w < 10 ∨ 14 < w)) by omega), if_pos (show A 12 0 = 0 ∨ 20 ≤ A 12 5 by omega)]
                  exact hR
              · skip
                have hq : 20 ≤ A 12 5 := by omega
                refine k_aload_n hX.1 dX7_least_33 rfl rfl ?_
                refine k_geti hX.1 dX7_least_34 flX7_163 rfl (by decide) rfl ?_
                refine k_bipush hX.1 dX7_least_37 (by decide) ?_
                refine k_icmp_lt (tgt := 45) hX.1 dX7_least_39 (by decide) (by omega) (by omega) (fun c_39 => ?_) (fun c_39 => ?_)
                · skip
                  exact absurd c_39 (by omega)
                · skip
                  refine k_bipush hX.1 dX7_least_42 (by decide) ?_
                  refine k_iret hX dX7_least_44 rfl ?_
                  refine ⟨?_, ?_, sameM.rf g⟩
                  · congr 2
                    unfold rLeast
                    first | rw [if_pos (show ¬ w = 0 ∧ (w < 10 ∨ 14 < w) by omega)] | rw [if_neg (show ¬ (¬ w = 0 ∧ (w < 10 ∨ 14 < w)) by omega), if_pos (show A 12 0 = 0 ∨ 20 ≤ A 12 5 by omega)]
                  · unfold nLeast
                    first | rw [if_pos (show ¬ w = 0 ∧ (w < 10 ∨ 14 < w) by omega)] | rw [if_neg (show ¬ (¬ w = 0 ∧ (w < 10 ∨ 14 < w)) by omega), if_pos (show A 12 0 = 0 ∨ 20 ≤ A 12 5 by omega)]
                    exact hR
            · skip
              exact absurd c_17 (by omega)
    · skip
      by_cases hw0 : w = 0
      · skip
        refine k_iload_n hX.1 dX7_least_0 rfl rfl ?_
        refine k_bipush hX.1 dX7_least_1 (by decide) ?_
        refine k_isub hX.1 dX7_least_3 ?_
        refine k_istore_n hX.1 dX7_least_4 rfl (by decide) rfl rfl ?_
        try simp only [List.set_cons_zero, List.set_cons_succ]
        refine k_iload_n hX.1 dX7_least_5 rfl rfl ?_
        refine k_if_eq (tgt := 23) hX.1 dX7_least_6 (by decide) (by omega) (fun c_6 => ?_) (fun c_6 => ?_)
        · skip
          refine k_aload_n hX.1 dX7_least_23 rfl rfl ?_
          refine k_getr (t := 3) hX.1 dX7_least_24 flX7_19 rfl (by decide) rfl rfl ?_
          refine k_geti hX.1 dX7_least_27 flX7_74 rfl (by decide) rfl ?_
          refine k_if_eq (tgt := 42) hX.1 dX7_least_30 (by decide) (by omega) (fun c_30 => ?_) (fun c_30 => ?_)
          · skip
            exact absurd c_30 (by omega)
          · skip
            refine k_aload_n hX.1 dX7_least_33 rfl rfl ?_
            refine k_geti hX.1 dX7_least_34 flX7_163 rfl (by decide) rfl ?_
            refine k_bipush hX.1 dX7_least_37 (by decide) ?_
            refine k_icmp_lt (tgt := 45) hX.1 dX7_least_39 (by decide) (by omega) (by omega) (fun c_39 => ?_) (fun c_39 => ?_)
            · skip
              refine k_aload_n hX.1 dX7_least_45 rfl rfl ?_
              refine k_dupR hX.1 dX7_least_46 ?_
              refine k_geti hX.1 dX7_least_47 flX7_163 rfl (by decide) rfl ?_
              refine k_iconst hX.1 dX7_least_50 ?_
              refine k_iadd hX.1 dX7_least_51 ?_
              refine k_puti hX.1 dX7_least_52 flX7_163 rfl (by decide) rfl ?_
              refine k_aload_n hX.1 dX7_least_55 rfl rfl ?_
              refine k_getr (t := 25) hX.1 dX7_least_56 flX7_29 rfl (by decide) rfl rfl ?_
              refine k_aload_n hX.1 dX7_least_59 rfl rfl ?_
              refine k_getr (t := 3) hX.1 dX7_least_60 flX7_19 rfl (by decide) rfl rfl ?_
              refine k_callV (d2 := 19) (n := 1) (as := [_]) hX.1 dX7_least_63 lkX7_166 (fit_of hX (by omega) gmX5_search) rfl rfl (by decide) rfl rfl rfl (Nat.le_of_ble_eq_true rfl) (cN_search E (CW_fr hC0 (g' := wr g 0 8 (g.1 0 8 + 1)) (fun a h1 h2 => wr_off (by omega)) ⟨rfl, rfl, rfl⟩ (fun _ _ _ _ => rfl) (fun _ _ _ _ _ => rfl) hw2 hw4) hW0) (fun r_63 g_63 q_63 => ?_)
              obtain ⟨rfl, z1, z2, z3⟩ := q_63
              show V E X 66 _ [] _
              obtain ⟨y1, y2, y3, y4, y5⟩ := z1
              rw [ht3] at z2
              have hsm : sameM g g_63 := fun a ha => ⟨by rw [z2 a (by omega), wr_off (by omega)], by rw [z3]; rfl⟩
              refine k_aload_n hX.1 dX7_least_66 rfl rfl ?_
              refine k_getr (t := 25) hX.1 dX7_least_67 flX7_29 rfl (by decide) rfl rfl ?_
              refine k_getz hX.1 dX7_least_70 flX7_170 rfl (by decide) rfl ?_
              refine k_top (b := (lp0 A).1) y2 ?_
              refine k_if_ne (tgt := 78) hX.1 dX7_least_73 (by decide) (by omega) (fun c_73 => ?_) (fun c_73 => ?_)
              · skip
                refine k_iload_n hX.1 dX7_least_78 rfl rfl ?_
                refine k_if_ne (tgt := 90) hX.1 dX7_least_79 (by decide) (by omega) (fun c_79 => ?_) (fun c_79 => ?_)
                · skip
                  exact absurd c_79 (by omega)
                · skip
                  refine k_aload_n hX.1 dX7_least_82 rfl rfl ?_
                  refine k_getr (t := 25) hX.1 dX7_least_83 flX7_29 rfl (by decide) rfl rfl ?_
                  refine k_geti hX.1 dX7_least_86 flX7_173 rfl (by decide) rfl ?_
                  refine k_top (b := (lp0 A).2.1) y3 ?_
                  refine k_iret hX dX7_least_89 rfl ?_
                  refine ⟨?_, ?_, hsm⟩
                  · congr 2
                    unfold rLeast
                    rw [if_neg (show ¬ (¬ w = 0 ∧ (w < 10 ∨ 14 < w)) by omega), if_neg (show ¬ (A 12 0 = 0 ∨ 20 ≤ A 12 5) by omega)]
                    rw [if_neg (show ¬ (lp0 A).1 = 0 by omega), if_pos hw0]
                  · unfold nLeast
                    rw [if_neg (show ¬ (¬ w = 0 ∧ (w < 10 ∨ 14 < w)) by omega), if_neg (show ¬ (A 12 0 = 0 ∨ 20 ≤ A 12 5) by omega)]
                    exact RC_ask hR hW.b z2
              · skip
                refine k_iconst hX.1 dX7_least_76 ?_
                refine k_iret hX dX7_least_77 rfl ?_
                refine ⟨?_, ?_, hsm⟩
                · congr 2
                  unfold rLeast
                  rw [if_neg (show ¬ (¬ w = 0 ∧ (w < 10 ∨ 14 < w)) by omega), if_neg (show ¬ (A 12 0 = 0 ∨ 20 ≤ A 12 5) by omega)]
                  rw [if_pos (show (lp0 A).1 = 0 by omega)]
                · unfold nLeast
                  rw [if_neg (show ¬ (¬ w = 0 ∧ (w < 10 ∨ 14 < w)) by omega), if_neg (show ¬ (A 12 0 = 0 ∨ 20 ≤ A 12 5) by omega)]
                  exact RC_ask hR hW.b z2
            · skip
              exact absurd c_39 (by omega)
        · skip
          exact absurd c_6 (by omega)
      · skip
        refine k_iload_n hX.1 dX7_least_0 rfl rfl ?_
        refine k_bipush hX.1 dX7_least_1 (by decide) ?_
        refine k_isub hX.1 dX7_least_3 ?_
        refine k_istore_n hX.1 dX7_least_4 rfl (by decide) rfl rfl ?_
        try simp only [List.set_cons_zero, List.set_cons_succ]
        refine k_iload_n hX.1 dX7_least_5 rfl rfl ?_
        refine k_if_eq (tgt := 23) hX.1 dX7_least_6 (by decide) (by omega) (fun c_6 => ?_) (fun c_6 => ?_)
        · skip
          exact absurd c_6 (by omega)
        · skip
          refine k_iload_n hX.1 dX7_least_9 rfl rfl ?_
          refine k_bipush hX.1 dX7_least_10 (by decide) ?_
          refine k_icmp_lt (tgt := 20) hX.1 dX7_least_12 (by decide) (by omega) (by omega) (fun c_12 => ?_) (fun c_12 => ?_)
          · skip
            exact absurd c_12 (by omega)
          · skip
            refine k_iload_n hX.1 dX7_least_15 rfl rfl ?_
            refine k_iconst hX.1 dX7_least_16 ?_
            refine k_icmp_lt (tgt := 23) hX.1 dX7_least_17 (by decide) (by omega) (by omega) (fun c_17 => ?_) (fun c_17 => ?_)
            · skip
              refine k_aload_n hX.1 dX7_least_23 rfl rfl ?_
              refine k_getr (t := 3) hX.1 dX7_least_24 flX7_19 rfl (by decide) rfl rfl ?_
              refine k_geti hX.1 dX7_least_27 flX7_74 rfl (by decide) rfl ?_
              refine k_if_eq (tgt := 42) hX.1 dX7_least_30 (by decide) (by omega) (fun c_30 => ?_) (fun c_30 => ?_)
              · skip
                exact absurd c_30 (by omega)
              · skip
                refine k_aload_n hX.1 dX7_least_33 rfl rfl ?_
                refine k_geti hX.1 dX7_least_34 flX7_163 rfl (by decide) rfl ?_
                refine k_bipush hX.1 dX7_least_37 (by decide) ?_
                refine k_icmp_lt (tgt := 45) hX.1 dX7_least_39 (by decide) (by omega) (by omega) (fun c_39 => ?_) (fun c_39 => ?_)
                · skip
                  refine k_aload_n hX.1 dX7_least_45 rfl rfl ?_
                  refine k_dupR hX.1 dX7_least_46 ?_
                  refine k_geti hX.1 dX7_least_47 flX7_163 rfl (by decide) rfl ?_
                  refine k_iconst hX.1 dX7_least_50 ?_
                  refine k_iadd hX.1 dX7_least_51 ?_
                  refine k_puti hX.1 dX7_least_52 flX7_163 rfl (by decide) rfl ?_
                  refine k_aload_n hX.1 dX7_least_55 rfl rfl ?_
                  refine k_getr (t := 25) hX.1 dX7_least_56 flX7_29 rfl (by decide) rfl rfl ?_
                  refine k_aload_n hX.1 dX7_least_59 rfl rfl ?_
                  refine k_getr (t := 3) hX.1 dX7_least_60 flX7_19 rfl (by decide) rfl rfl ?_
                  refine k_callV (d2 := 19) (n := 1) (as := [_]) hX.1 dX7_least_63 lkX7_166 (fit_of hX (by omega) gmX5_search) rfl rfl (by decide) rfl rfl rfl (Nat.le_of_ble_eq_true rfl) (cN_search E (CW_fr hC0 (g' := wr g 0 8 (g.1 0 8 + 1)) (fun a h1 h2 => wr_off (by omega)) ⟨rfl, rfl, rfl⟩ (fun _ _ _ _ => rfl) (fun _ _ _ _ _ => rfl) hw2 hw4) hW0) (fun r_63 g_63 q_63 => ?_)
                  obtain ⟨rfl, z1, z2, z3⟩ := q_63
                  show V E X 66 _ [] _
                  obtain ⟨y1, y2, y3, y4, y5⟩ := z1
                  rw [ht3] at z2
                  have hsm : sameM g g_63 := fun a ha => ⟨by rw [z2 a (by omega), wr_off (by omega)], by rw [z3]; rfl⟩
                  refine k_aload_n hX.1 dX7_least_66 rfl rfl ?_
                  refine k_getr (t := 25) hX.1 dX7_least_67 flX7_29 rfl (by decide) rfl rfl ?_
                  refine k_getz hX.1 dX7_least_70 flX7_170 rfl (by decide) rfl ?_
                  refine k_top (b := (lp0 A).1) y2 ?_
                  refine k_if_ne (tgt := 78) hX.1 dX7_least_73 (by decide) (by omega) (fun c_73 => ?_) (fun c_73 => ?_)
                  · skip
                    refine k_iload_n hX.1 dX7_least_78 rfl rfl ?_
                    refine k_if_ne (tgt := 90) hX.1 dX7_least_79 (by decide) (by omega) (fun c_79 => ?_) (fun c_79 => ?_)
                    · skip
                      refine k_aload_n hX.1 dX7_least_90 rfl rfl ?_
                      refine k_getr (t := 3) hX.1 dX7_least_91 flX7_19 rfl (by decide) rfl rfl ?_
                      refine k_iload_n hX.1 dX7_least_94 rfl rfl ?_
                      refine k_callVf (d2 := 1) (n := 1) (as := [_]) hX.1 dX7_least_95 lkX7_77 (fit_of hX (by omega) gmX6_hasPart) rfl rfl (by decide) rfl rfl rfl (Nat.le_of_ble_eq_true rfl) (cW_hasPart E _ (by omega) (by rw [z2 3 (by omega), wr_off (by omega)]; omega)) ?_
                      refine k_top (b := if w - 10 < A 12 0 then 1 else 0) (by rw [z2 3 (by omega), wr_off (by omega), hc1]; by_cases e : w - 10 < A 12 0; (rw [if_pos (by omega), if_pos e]); (rw [if_neg (by omega), if_neg e])) ?_
                      refine k_if_eq (tgt := 113) hX.1 dX7_least_98 (by decide) (by split <;> omega) (fun c_98 => ?_) (fun c_98 => ?_)
                      · skip
                        have hq : ¬ w - 10 < A 12 0 := fun q => by rw [if_pos q] at c_98; exact absurd c_98 (by decide)
                        refine k_iconst hX.1 dX7_least_113 ?_
                        refine k_iret hX dX7_least_114 rfl ?_
                        refine ⟨?_, ?_, hsm⟩
                        · congr 2
                          unfold rLeast
                          rw [if_neg (show ¬ (¬ w = 0 ∧ (w < 10 ∨ 14 < w)) by omega), if_neg (show ¬ (A 12 0 = 0 ∨ 20 ≤ A 12 5) by omega)]
                          rw [if_neg (show ¬ (lp0 A).1 = 0 by omega), if_neg hw0]
                          first | rw [if_pos hq] | rw [if_neg hq]
                        · unfold nLeast
                          rw [if_neg (show ¬ (¬ w = 0 ∧ (w < 10 ∨ 14 < w)) by omega), if_neg (show ¬ (A 12 0 = 0 ∨ 20 ≤ A 12 5) by omega)]
                          exact RC_ask hR hW.b z2
                      · skip
                        have hq : w - 10 < A 12 0 := by
                          apply Classical.byContradiction; intro q; exact c_98 (if_neg q)
                        refine k_aload_n hX.1 dX7_least_101 rfl rfl ?_
                        refine k_getr (t := 25) hX.1 dX7_least_102 flX7_29 rfl (by decide) rfl rfl ?_
                        refine k_getr (t := 27) hX.1 dX7_least_105 flX7_176 rfl (by decide) rfl rfl ?_
                        refine k_iload_n hX.1 dX7_least_108 rfl rfl ?_
                        refine k_iald (j := (w - 10).toNat) hX.1 dX7_least_109 rfl (by omega) (n := 5) rfl (by omega) (by omega) ?_
                        refine k_top (b := (lp0 A).2.2 (w - 10).toNat) (y5 (by omega) _ (by omega)) ?_
                        refine k_goto (tgt := 114) hX.1 dX7_least_110 (by decide) ?_
                        refine k_iret hX dX7_least_114 rfl ?_
                        refine ⟨?_, ?_, hsm⟩
                        · congr 2
                          unfold rLeast
                          rw [if_neg (show ¬ (¬ w = 0 ∧ (w < 10 ∨ 14 < w)) by omega), if_neg (show ¬ (A 12 0 = 0 ∨ 20 ≤ A 12 5) by omega)]
                          rw [if_neg (show ¬ (lp0 A).1 = 0 by omega), if_neg hw0]
                          first | rw [if_pos hq] | rw [if_neg hq]
                        · unfold nLeast
                          rw [if_neg (show ¬ (¬ w = 0 ∧ (w < 10 ∨ 14 < w)) by omega), if_neg (show ¬ (A 12 0 = 0 ∨ 20 ≤ A 12 5) by omega)]
                          exact RC_ask hR hW.b z2
                    · skip
                      exact absurd c_79 (by omega)
                  · skip
                    refine k_iconst hX.1 dX7_least_76 ?_
                    refine k_iret hX dX7_least_77 rfl ?_
                    refine ⟨?_, ?_, hsm⟩
                    · congr 2
                      unfold rLeast
                      rw [if_neg (show ¬ (¬ w = 0 ∧ (w < 10 ∨ 14 < w)) by omega), if_neg (show ¬ (A 12 0 = 0 ∨ 20 ≤ A 12 5) by omega)]
                      rw [if_pos (show (lp0 A).1 = 0 by omega)]
                    · unfold nLeast
                      rw [if_neg (show ¬ (¬ w = 0 ∧ (w < 10 ∨ 14 < w)) by omega), if_neg (show ¬ (A 12 0 = 0 ∨ 20 ≤ A 12 5) by omega)]
                      exact RC_ask hR hW.b z2
                · skip
                  exact absurd c_39 (by omega)
            · skip
              exact absurd c_17 (by omega)

/-! ===== the digest ===== -/
def mx (h : Int64) (v : Int) : Int64 := 31 * h + (zi v).toInt64
def mxN (f : Nat → Int) : Nat → Int64 → Int64
  | 0, h => h
  | n + 1, h => mx (mxN f n h) (f n)
noncomputable def dgP (A : St) : Nat → Int64 → Int64
  | 0, h => h
  | p + 1, h => mx (mxN (fun w => pn A p (w : Int)) 9 (dgP A p h)) (srV A p)
def dgL (A : St) : Nat → Int64 → Int64
  | 0, h => h
  | t + 1, h => mx (mx (mxN (fun w => lt1 A t (w : Int)) 3 (dgL A t h)) (want A t 0)) (want A t 1)
noncomputable def dg3 (A : St) : Int64 := if 0 < A 12 0 then mx (dgL A (A 12 2).toNat (dgP A (A 12 0).toNat 829)) (wyC A) else dgL A (A 12 2).toNat (dgP A (A 12 0).toNat 829)
noncomputable def dgs (A : St) : Int64 := mxN (fun w => rCount A (w : Int)) 11 (mxN (A 11) (A 12 3).toNat (dg3 A))
set_option maxRecDepth 100000 in
set_option maxHeartbeats 4000000 in
theorem lp_dg6 (E : En) {A : St} {g : Mm} {n : Int} (hW : Wf A n) {X : Cx} (hX : Wk E mX7_digest X 7 (fun r g' => r = some (vL (dgs A)) ∧ RC A g' ∧ sameM g g')) : ∀ (m : Nat) (w : Nat) (h : Int64) (k : Mm), (m + w = 11 ∧ RC A k ∧ sameM g k ∧ h = mxN (fun w => rCount A (w : Int)) w (mxN (A 11) (A 12 3).toNat (dg3 A))) → V E X 237 [some (vR 0), some (vL h), none, some (vI (w : Int)), none] [] k := by
  intro m
  induction m with
  | zero =>
    intro w h k ⟨hm, hRk, hsk, hh⟩
    obtain rfl : w = 11 := by omega
    refine k_iload_n hX.1 dX7_digest_237 rfl rfl ?_
    refine k_bipush hX.1 dX7_digest_238 (by decide) ?_
    refine k_icmp_gt (tgt := 262) hX.1 dX7_digest_240 (by decide) (by omega) (by omega) (fun c_240 => ?_) (fun c_240 => ?_)
    · skip
      refine k_lload_n hX.1 dX7_digest_262 rfl rfl ?_
      refine k_lret hX dX7_digest_263 rfl ?_
      exact ⟨by rw [hh]; rfl, hRk, hsk⟩
    · skip
      exact absurd c_240 (by omega)
  | succ m ih =>
    intro w h k ⟨hm, hRk, hsk, hh⟩
    refine k_iload_n hX.1 dX7_digest_237 rfl rfl ?_
    refine k_bipush hX.1 dX7_digest_238 (by decide) ?_
    refine k_icmp_gt (tgt := 262) hX.1 dX7_digest_240 (by decide) (by omega) (by omega) (fun c_240 => ?_) (fun c_240 => ?_)
    · skip
      exact absurd c_240 (by omega)
    · skip
      refine k_ldc2 hX.1 dX7_digest_243 lcX7_214 ?_
      refine k_lload_n hX.1 dX7_digest_246 rfl rfl ?_
      refine k_lmul hX.1 dX7_digest_247 ?_
      refine k_aload_n hX.1 dX7_digest_248 rfl rfl ?_
      refine k_iload_n hX.1 dX7_digest_249 rfl rfl ?_
      refine k_callV (d2 := 6) (n := 1) (as := [_]) hX.1 dX7_digest_250 lkX7_219 (fit_of hX (by omega) gmX7_count) rfl rfl (by decide) rfl rfl rfl (Nat.le_of_ble_eq_true rfl) (c7_count E hRk hW (q := (w : Int)) (by omega)) (fun r_250 g_250 q_250 => ?_)
      obtain ⟨rfl, hR2, hs2⟩ := q_250
      show V E X 253 _ (vI _ :: _) _
      refine k_i2l hX.1 dX7_digest_253 ?_
      refine k_ladd hX.1 dX7_digest_254 ?_
      refine k_lstore_n hX.1 dX7_digest_255 rfl (by decide) rfl rfl ?_
      try simp only [List.set_cons_zero, List.set_cons_succ]
      refine k_iinc hX.1 dX7_digest_256 rfl (by decide) rfl rfl ?_
      try simp only [List.set_cons_zero, List.set_cons_succ]
      refine k_goto (tgt := 237) hX.1 dX7_digest_259 (by decide) ?_
      exact ih (w + 1) _ _ ⟨by omega, hR2, hsk.tr hs2, by rw [mxN, ← hh]; rfl⟩

set_option maxRecDepth 100000 in
set_option maxHeartbeats 4000000 in
theorem lp_dg5 (E : En) {A : St} {g k : Mm} {n : Int} (hRk : RC A k) (hW : Wf A n) (hsk : sameM g k) {X : Cx} (hX : Wk E mX7_digest X 7 (fun r g' => r = some (vL (dgs A)) ∧ RC A g' ∧ sameM g g')) : ∀ (m : Nat) (i : Nat) (h : Int64), ((m : Int) + i = A 12 3 ∧ h = mxN (A 11) i (dg3 A)) → V E X 201 [some (vR 0), some (vL h), none, some (vI (i : Int)), none] [] k := by
  obtain ⟨-, ⟨hg1, hg2⟩, -⟩ := id hRk
  obtain ⟨-, ⟨hq1, hq2, hq3⟩, -⟩ := id hW
  intro m
  induction m with
  | zero =>
    intro i h ⟨hm, hh⟩
    obtain rfl : i = (A 12 3).toNat := by omega
    refine k_iload_n hX.1 dX7_digest_201 rfl rfl ?_
    refine k_aload_n hX.1 dX7_digest_202 rfl rfl ?_
    refine k_getr (t := 1) hX.1 dX7_digest_203 flX7_10 rfl (by decide) rfl rfl ?_
    refine k_geti hX.1 dX7_digest_206 flX7_47 rfl (by decide) rfl ?_
    refine k_top (b := A 12 3) hg1 ?_
    refine k_icmp_ge (tgt := 235) hX.1 dX7_digest_209 (by decide) (by omega) (by omega) (fun c_209 => ?_) (fun c_209 => ?_)
    · skip
      refine k_iconst hX.1 dX7_digest_235 ?_
      refine k_istore_n hX.1 dX7_digest_236 rfl (by decide) rfl rfl ?_
      try simp only [List.set_cons_zero, List.set_cons_succ]
      exact lp_dg6 E hW hX 11 0 h k ⟨rfl, hRk, hsk, hh⟩
    · skip
      exact absurd c_209 (by omega)
  | succ m ih =>
    intro i h ⟨hm, hh⟩
    refine k_iload_n hX.1 dX7_digest_201 rfl rfl ?_
    refine k_aload_n hX.1 dX7_digest_202 rfl rfl ?_
    refine k_getr (t := 1) hX.1 dX7_digest_203 flX7_10 rfl (by decide) rfl rfl ?_
    refine k_geti hX.1 dX7_digest_206 flX7_47 rfl (by decide) rfl ?_
    refine k_top (b := A 12 3) hg1 ?_
    refine k_icmp_ge (tgt := 235) hX.1 dX7_digest_209 (by decide) (by omega) (by omega) (fun c_209 => ?_) (fun c_209 => ?_)
    · skip
      exact absurd c_209 (by omega)
    · skip
      refine k_ldc2 hX.1 dX7_digest_212 lcX7_214 ?_
      refine k_lload_n hX.1 dX7_digest_215 rfl rfl ?_
      refine k_lmul hX.1 dX7_digest_216 ?_
      refine k_aload_n hX.1 dX7_digest_217 rfl rfl ?_
      refine k_getr (t := 1) hX.1 dX7_digest_218 flX7_10 rfl (by decide) rfl rfl ?_
      refine k_getr (t := 2) hX.1 dX7_digest_221 flX7_216 rfl (by decide) rfl rfl ?_
      refine k_iload_n hX.1 dX7_digest_224 rfl rfl ?_
      refine k_iald (j := i) hX.1 dX7_digest_225 rfl (by omega) (n := 18) rfl (by omega) (by omega) ?_
      refine k_top (b := A 11 i) (hg2 i (by omega)) ?_
      refine k_i2l hX.1 dX7_digest_226 ?_
      refine k_ladd hX.1 dX7_digest_227 ?_
      refine k_lstore_n hX.1 dX7_digest_228 rfl (by decide) rfl rfl ?_
      try simp only [List.set_cons_zero, List.set_cons_succ]
      refine k_iinc hX.1 dX7_digest_229 rfl (by decide) rfl rfl ?_
      try simp only [List.set_cons_zero, List.set_cons_succ]
      refine k_goto (tgt := 201) hX.1 dX7_digest_232 (by decide) ?_
      exact ih (i + 1) _ ⟨by omega, by rw [mxN, ← hh]; rfl⟩

set_option maxRecDepth 100000 in
set_option maxHeartbeats 4000000 in
theorem lp_dg4 (E : En) {A : St} {g k : Mm} {n : Int} (hRk : RC A k) (hW : Wf A n) (hsk : sameM g k) (hS : uS A g k) {t : Nat} (ht : (t : Int) < A 12 2) {h0 : Int64} {X : Cx} (hX : Wk E mX7_digest X 7 (fun r g' => r = some (vL (dgs A)) ∧ RC A g' ∧ sameM g g')) : ∀ (m : Nat) (w : Nat) (h : Int64), m + w = 3 ∧ h = mxN (fun w => lt1 A t (w : Int)) w h0 → (∀ h : Int64, h = mxN (fun w => lt1 A t (w : Int)) 3 h0 → V E X 134 [some (vR 0), some (vL h), none, some (vI (t : Int)), some (vI 3)] [] k) → V E X 100 [some (vR 0), some (vL h), none, some (vI (t : Int)), some (vI (w : Int))] [] k := by
  obtain ⟨⟨⟨hc1, hc2, hc3⟩, hcp, hcl⟩, -⟩ := id hRk
  have hC0 := hRk.1
  have hW0 := hW.1
  obtain ⟨⟨⟨hw1, hw2, hw3, hw4, hw5, hw6, hw7, hw8⟩, hwp, hwl⟩, ⟨hq1, hq2, hq3⟩, -⟩ := id hW
  obtain ⟨e0, e1, e2⟩ := hcl t ht
  intro m
  induction m with
  | zero =>
    intro w h ⟨hm, hh⟩ hx
    obtain rfl : w = 3 := by omega
    refine k_iload hX.1 dX7_digest_100 rfl ?_
    refine k_iconst hX.1 dX7_digest_102 ?_
    refine k_icmp_gt (tgt := 134) hX.1 dX7_digest_103 (by decide) (by omega) (by omega) (fun c_103 => ?_) (fun c_103 => ?_)
    · skip
      exact hx h hh
    · skip
      exact absurd c_103 (by omega)
  | succ m ih =>
    intro w h ⟨hm, hh⟩ hx
    refine k_iload hX.1 dX7_digest_100 rfl ?_
    refine k_iconst hX.1 dX7_digest_102 ?_
    refine k_icmp_gt (tgt := 134) hX.1 dX7_digest_103 (by decide) (by omega) (by omega) (fun c_103 => ?_) (fun c_103 => ?_)
    · skip
      exact absurd c_103 (by omega)
    · skip
      refine k_ldc2 hX.1 dX7_digest_106 lcX7_214 ?_
      refine k_lload_n hX.1 dX7_digest_109 rfl rfl ?_
      refine k_lmul hX.1 dX7_digest_110 ?_
      refine k_aload_n hX.1 dX7_digest_111 rfl rfl ?_
      refine k_getr (t := 3) hX.1 dX7_digest_112 flX7_19 rfl (by decide) rfl rfl ?_
      refine k_getr (t := 5) hX.1 dX7_digest_115 flX7_101 rfl (by decide) rfl rfl ?_
      refine k_iload_n hX.1 dX7_digest_118 rfl rfl ?_
      refine k_aaldL (j := t) (q := 11 + t) hX.1 dX7_digest_119 rfl (by omega) (n := 3) rfl (by omega) (by omega) rfl ?_
      refine k_iload hX.1 dX7_digest_120 rfl ?_
      refine k_callVf (d2 := 1) (n := 1) (as := [_]) hX.1 dX7_digest_122 lkX7_112 (fit_of hX (by omega) gmX2_tell) rfl (sk_L11 (by omega)) (by decide) rfl rfl rfl (Nat.le_of_ble_eq_true rfl) (cL_tell E k (t := t) (by omega) (by omega)) ?_
      refine k_top (show _ = lt1 A t (w : Int) by rw [lt1, e0, e1, e2]) ?_
      refine k_i2l hX.1 dX7_digest_125 ?_
      refine k_ladd hX.1 dX7_digest_126 ?_
      refine k_lstore_n hX.1 dX7_digest_127 rfl (by decide) rfl rfl ?_
      try simp only [List.set_cons_zero, List.set_cons_succ]
      refine k_iinc hX.1 dX7_digest_128 rfl (by decide) rfl rfl ?_
      try simp only [List.set_cons_zero, List.set_cons_succ]
      refine k_goto (tgt := 100) hX.1 dX7_digest_131 (by decide) ?_
      exact ih (w + 1) _ ⟨by omega, by rw [mxN, ← hh]; rfl⟩ hx

set_option maxRecDepth 100000 in
set_option maxHeartbeats 4000000 in
theorem lp_dg3 (E : En) {A : St} {g k : Mm} {n : Int} (hRk : RC A k) (hW : Wf A n) (hsk : sameM g k) (hS : uS A g k) {X : Cx} (hX : Wk E mX7_digest X 7 (fun r g' => r = some (vL (dgs A)) ∧ RC A g' ∧ sameM g g')) : ∀ (m : Nat) (t : Nat) (h : Int64), (m + t = (A 12 2).toNat ∧ h = dgL A t (dgP A (A 12 0).toNat 829)) → V E X 86 [some (vR 0), some (vL h), none, some (vI (t : Int)), none] [] k := by
  obtain ⟨⟨⟨hc1, hc2, hc3⟩, hcp, hcl⟩, -⟩ := id hRk
  have hC0 := hRk.1
  have hW0 := hW.1
  obtain ⟨⟨⟨hw1, hw2, hw3, hw4, hw5, hw6, hw7, hw8⟩, hwp, hwl⟩, ⟨hq1, hq2, hq3⟩, -⟩ := id hW
  intro m
  induction m with
  | zero =>
    intro t h ⟨hm, hh⟩
    obtain rfl : t = (A 12 2).toNat := by omega
    refine k_iload_n hX.1 dX7_digest_86 rfl rfl ?_
    refine k_aload_n hX.1 dX7_digest_87 rfl rfl ?_
    refine k_getr (t := 3) hX.1 dX7_digest_88 flX7_19 rfl (by decide) rfl rfl ?_
    refine k_geti hX.1 dX7_digest_91 flX7_98 rfl (by decide) rfl ?_
    refine k_top (b := A 12 2) hc2 ?_
    refine k_icmp_ge (tgt := 174) hX.1 dX7_digest_94 (by decide) (by omega) (by omega) (fun c_94 => ?_) (fun c_94 => ?_)
    · skip
      refine k_aload_n hX.1 dX7_digest_174 rfl rfl ?_
      refine k_getr (t := 3) hX.1 dX7_digest_175 flX7_19 rfl (by decide) rfl rfl ?_
      refine k_geti hX.1 dX7_digest_178 flX7_74 rfl (by decide) rfl ?_
      refine k_top (b := A 12 0) hc1 ?_
      refine k_if_le (tgt := 199) hX.1 dX7_digest_181 (by decide) (by omega) (fun c_181 => ?_) (fun c_181 => ?_)
      · skip
        refine k_iconst hX.1 dX7_digest_199 ?_
        refine k_istore_n hX.1 dX7_digest_200 rfl (by decide) rfl rfl ?_
        try simp only [List.set_cons_zero, List.set_cons_succ]
        refine lp_dg5 E hRk hW hsk hX (A 12 3).toNat 0 _ ⟨by omega, ?_⟩
        unfold dg3
        first | (rw [if_pos (show 0 < A 12 0 by omega), ← hh]; rfl) | (rw [if_neg (show ¬ 0 < A 12 0 by omega), ← hh]; rfl)
      · skip
        refine k_ldc2 hX.1 dX7_digest_184 lcX7_214 ?_
        refine k_lload_n hX.1 dX7_digest_187 rfl rfl ?_
        refine k_lmul hX.1 dX7_digest_188 ?_
        refine k_aload_n hX.1 dX7_digest_189 rfl rfl ?_
        refine k_getr (t := 30) hX.1 dX7_digest_190 flX7_36 rfl (by decide) rfl rfl ?_
        refine k_callVf (d2 := 1) (n := 0) (as := []) hX.1 dX7_digest_193 lkX7_189 (fit_of hX (by omega) gmX1_ways) rfl rfl (by decide) rfl rfl rfl (Nat.le_of_ble_eq_true rfl) (cU_ways E hW0 hS (by omega)) ?_
        refine k_i2l hX.1 dX7_digest_196 ?_
        refine k_ladd hX.1 dX7_digest_197 ?_
        refine k_lstore_n hX.1 dX7_digest_198 rfl (by decide) rfl rfl ?_
        try simp only [List.set_cons_zero, List.set_cons_succ]
        refine k_iconst hX.1 dX7_digest_199 ?_
        refine k_istore_n hX.1 dX7_digest_200 rfl (by decide) rfl rfl ?_
        try simp only [List.set_cons_zero, List.set_cons_succ]
        refine lp_dg5 E hRk hW hsk hX (A 12 3).toNat 0 _ ⟨by omega, ?_⟩
        unfold dg3
        first | (rw [if_pos (show 0 < A 12 0 by omega), ← hh]; rfl) | (rw [if_neg (show ¬ 0 < A 12 0 by omega), ← hh]; rfl)
    · skip
      exact absurd c_94 (by omega)
  | succ m ih =>
    intro t h ⟨hm, hh⟩
    refine k_iload_n hX.1 dX7_digest_86 rfl rfl ?_
    refine k_aload_n hX.1 dX7_digest_87 rfl rfl ?_
    refine k_getr (t := 3) hX.1 dX7_digest_88 flX7_19 rfl (by decide) rfl rfl ?_
    refine k_geti hX.1 dX7_digest_91 flX7_98 rfl (by decide) rfl ?_
    refine k_top (b := A 12 2) hc2 ?_
    refine k_icmp_ge (tgt := 174) hX.1 dX7_digest_94 (by decide) (by omega) (by omega) (fun c_94 => ?_) (fun c_94 => ?_)
    · skip
      exact absurd c_94 (by omega)
    · skip
      refine k_iconst hX.1 dX7_digest_97 ?_
      refine k_istore hX.1 dX7_digest_98 (by decide) rfl rfl ?_
      try simp only [List.set_cons_zero, List.set_cons_succ]
      refine lp_dg4 E hRk hW hsk hS (t := t) (by omega) hX 3 0 h ⟨rfl, rfl⟩ (fun h2 hh2 => ?_)
      refine k_ldc2 hX.1 dX7_digest_134 lcX7_214 ?_
      refine k_lload_n hX.1 dX7_digest_137 rfl rfl ?_
      refine k_lmul hX.1 dX7_digest_138 ?_
      refine k_aload_n hX.1 dX7_digest_139 rfl rfl ?_
      refine k_getr (t := 3) hX.1 dX7_digest_140 flX7_19 rfl (by decide) rfl rfl ?_
      refine k_iload_n hX.1 dX7_digest_143 rfl rfl ?_
      refine k_iconst hX.1 dX7_digest_144 ?_
      refine k_callVf (d2 := 2) (n := 2) (as := [_, _]) hX.1 dX7_digest_145 lkX7_179 (fit_of hX (by omega) gmX6_ballsWanted) rfl rfl (by decide) rfl rfl rfl (Nat.le_of_ble_eq_true rfl) (cW_ballsWanted E hC0 hW0 (t := t) (by omega) (by omega)) ?_
      refine k_i2l hX.1 dX7_digest_148 ?_
      refine k_ladd hX.1 dX7_digest_149 ?_
      refine k_lstore_n hX.1 dX7_digest_150 rfl (by decide) rfl rfl ?_
      try simp only [List.set_cons_zero, List.set_cons_succ]
      refine k_ldc2 hX.1 dX7_digest_151 lcX7_214 ?_
      refine k_lload_n hX.1 dX7_digest_154 rfl rfl ?_
      refine k_lmul hX.1 dX7_digest_155 ?_
      refine k_aload_n hX.1 dX7_digest_156 rfl rfl ?_
      refine k_getr (t := 3) hX.1 dX7_digest_157 flX7_19 rfl (by decide) rfl rfl ?_
      refine k_iload_n hX.1 dX7_digest_160 rfl rfl ?_
      refine k_iconst hX.1 dX7_digest_161 ?_
      refine k_callVf (d2 := 2) (n := 2) (as := [_, _]) hX.1 dX7_digest_162 lkX7_179 (fit_of hX (by omega) gmX6_ballsWanted) rfl rfl (by decide) rfl rfl rfl (Nat.le_of_ble_eq_true rfl) (cW_ballsWanted E hC0 hW0 (t := t) (by omega) (by omega)) ?_
      refine k_i2l hX.1 dX7_digest_165 ?_
      refine k_ladd hX.1 dX7_digest_166 ?_
      refine k_lstore_n hX.1 dX7_digest_167 rfl (by decide) rfl rfl ?_
      try simp only [List.set_cons_zero, List.set_cons_succ]
      refine k_iinc hX.1 dX7_digest_168 rfl (by decide) rfl rfl ?_
      try simp only [List.set_cons_zero, List.set_cons_succ]
      refine k_goto (tgt := 86) hX.1 dX7_digest_171 (by decide) ?_
      exact k_sub (by repeat first | exact trivial | refine And.intro rfl ?_) (ih (t + 1) _ ⟨by omega, by rw [dgL, ← hh, ← hh2]; rfl⟩)

set_option maxRecDepth 100000 in
set_option maxHeartbeats 4000000 in
theorem lp_dg2 (E : En) {A : St} {g k : Mm} {n : Int} (hRk : RC A k) (hW : Wf A n) (hsk : sameM g k) (hS : uS A g k) {p : Nat} (hp : (p : Int) < A 12 0) {h0 : Int64} {X : Cx} (hX : Wk E mX7_digest X 7 (fun r g' => r = some (vL (dgs A)) ∧ RC A g' ∧ sameM g g')) : ∀ (m : Nat) (w : Nat) (h : Int64), m + w = 9 ∧ h = mxN (fun w => pn A p (w : Int)) w h0 → (∀ h : Int64, h = mxN (fun w => pn A p (w : Int)) 9 h0 → V E X 62 [some (vR 0), some (vL h), none, some (vI (p : Int)), some (vI 9)] [] k) → V E X 31 [some (vR 0), some (vL h), none, some (vI (p : Int)), some (vI (w : Int))] [] k := by
  obtain ⟨⟨⟨hc1, hc2, hc3⟩, hcp, hcl⟩, -⟩ := id hRk
  have hC0 := hRk.1
  have hW0 := hW.1
  obtain ⟨⟨⟨hw1, hw2, hw3, hw4, hw5, hw6, hw7, hw8⟩, hwp, hwl⟩, ⟨hq1, hq2, hq3⟩, -⟩ := id hW
  intro m
  induction m with
  | zero =>
    intro w h ⟨hm, hh⟩ hx
    obtain rfl : w = 9 := by omega
    refine k_iload hX.1 dX7_digest_31 rfl ?_
    refine k_bipush hX.1 dX7_digest_33 (by decide) ?_
    refine k_icmp_gt (tgt := 62) hX.1 dX7_digest_35 (by decide) (by omega) (by omega) (fun c_35 => ?_) (fun c_35 => ?_)
    · skip
      exact hx h hh
    · skip
      exact absurd c_35 (by omega)
  | succ m ih =>
    intro w h ⟨hm, hh⟩ hx
    refine k_iload hX.1 dX7_digest_31 rfl ?_
    refine k_bipush hX.1 dX7_digest_33 (by decide) ?_
    refine k_icmp_gt (tgt := 62) hX.1 dX7_digest_35 (by decide) (by omega) (by omega) (fun c_35 => ?_) (fun c_35 => ?_)
    · skip
      exact absurd c_35 (by omega)
    · skip
      refine k_ldc2 hX.1 dX7_digest_38 lcX7_214 ?_
      refine k_lload_n hX.1 dX7_digest_41 rfl rfl ?_
      refine k_lmul hX.1 dX7_digest_42 ?_
      refine k_aload_n hX.1 dX7_digest_43 rfl rfl ?_
      refine k_getr (t := 3) hX.1 dX7_digest_44 flX7_19 rfl (by decide) rfl rfl ?_
      refine k_iload_n hX.1 dX7_digest_47 rfl rfl ?_
      refine k_iload hX.1 dX7_digest_48 rfl ?_
      refine k_callVf (d2 := 4) (n := 2) (as := [_, _]) hX.1 dX7_digest_50 lkX7_81 (fit_of hX (by omega) gmX6_tellPart) rfl rfl (by decide) rfl rfl rfl (Nat.le_of_ble_eq_true rfl) (cW_tellPart E hC0 hW0 (p := p) (q := (w : Int)) (by omega) (by omega)) ?_
      refine k_i2l hX.1 dX7_digest_53 ?_
      refine k_ladd hX.1 dX7_digest_54 ?_
      refine k_lstore_n hX.1 dX7_digest_55 rfl (by decide) rfl rfl ?_
      try simp only [List.set_cons_zero, List.set_cons_succ]
      refine k_iinc hX.1 dX7_digest_56 rfl (by decide) rfl rfl ?_
      try simp only [List.set_cons_zero, List.set_cons_succ]
      refine k_goto (tgt := 31) hX.1 dX7_digest_59 (by decide) ?_
      exact ih (w + 1) _ ⟨by omega, by rw [mxN, ← hh]; rfl⟩ hx

set_option maxRecDepth 100000 in
set_option maxHeartbeats 4000000 in
theorem lp_dg1 (E : En) {A : St} {g k : Mm} {n : Int} (hRk : RC A k) (hW : Wf A n) (hsk : sameM g k) (hS : uS A g k) {X : Cx} (hX : Wk E mX7_digest X 7 (fun r g' => r = some (vL (dgs A)) ∧ RC A g' ∧ sameM g g')) : ∀ (m : Nat) (p : Nat) (h : Int64), (m + p = (A 12 0).toNat ∧ h = dgP A p 829) → V E X 17 [some (vR 0), some (vL h), none, some (vI (p : Int)), none] [] k := by
  obtain ⟨⟨⟨hc1, hc2, hc3⟩, hcp, hcl⟩, -⟩ := id hRk
  have hC0 := hRk.1
  have hW0 := hW.1
  obtain ⟨⟨⟨hw1, hw2, hw3, hw4, hw5, hw6, hw7, hw8⟩, hwp, hwl⟩, ⟨hq1, hq2, hq3⟩, -⟩ := id hW
  intro m
  induction m with
  | zero =>
    intro p h ⟨hm, hh⟩
    obtain rfl : p = (A 12 0).toNat := by omega
    refine k_iload_n hX.1 dX7_digest_17 rfl rfl ?_
    refine k_aload_n hX.1 dX7_digest_18 rfl rfl ?_
    refine k_getr (t := 3) hX.1 dX7_digest_19 flX7_19 rfl (by decide) rfl rfl ?_
    refine k_geti hX.1 dX7_digest_22 flX7_74 rfl (by decide) rfl ?_
    refine k_top (b := A 12 0) hc1 ?_
    refine k_icmp_ge (tgt := 84) hX.1 dX7_digest_25 (by decide) (by omega) (by omega) (fun c_25 => ?_) (fun c_25 => ?_)
    · skip
      refine k_iconst hX.1 dX7_digest_84 ?_
      refine k_istore_n hX.1 dX7_digest_85 rfl (by decide) rfl rfl ?_
      try simp only [List.set_cons_zero, List.set_cons_succ]
      exact lp_dg3 E hRk hW hsk hS hX (A 12 2).toNat 0 h ⟨by omega, hh⟩
    · skip
      exact absurd c_25 (by omega)
  | succ m ih =>
    intro p h ⟨hm, hh⟩
    refine k_iload_n hX.1 dX7_digest_17 rfl rfl ?_
    refine k_aload_n hX.1 dX7_digest_18 rfl rfl ?_
    refine k_getr (t := 3) hX.1 dX7_digest_19 flX7_19 rfl (by decide) rfl rfl ?_
    refine k_geti hX.1 dX7_digest_22 flX7_74 rfl (by decide) rfl ?_
    refine k_top (b := A 12 0) hc1 ?_
    refine k_icmp_ge (tgt := 84) hX.1 dX7_digest_25 (by decide) (by omega) (by omega) (fun c_25 => ?_) (fun c_25 => ?_)
    · skip
      exact absurd c_25 (by omega)
    · skip
      refine k_iconst hX.1 dX7_digest_28 ?_
      refine k_istore hX.1 dX7_digest_29 (by decide) rfl rfl ?_
      try simp only [List.set_cons_zero, List.set_cons_succ]
      refine lp_dg2 E hRk hW hsk hS (p := p) (by omega) hX 9 0 h ⟨rfl, rfl⟩ (fun h2 hh2 => ?_)
      refine k_ldc2 hX.1 dX7_digest_62 lcX7_214 ?_
      refine k_lload_n hX.1 dX7_digest_65 rfl rfl ?_
      refine k_lmul hX.1 dX7_digest_66 ?_
      refine k_aload_n hX.1 dX7_digest_67 rfl rfl ?_
      refine k_getr (t := 30) hX.1 dX7_digest_68 flX7_36 rfl (by decide) rfl rfl ?_
      refine k_iload_n hX.1 dX7_digest_71 rfl rfl ?_
      refine k_callVf (d2 := 1) (n := 1) (as := [_]) hX.1 dX7_digest_72 lkX7_192 (fit_of hX (by omega) gmX1_toneOf) rfl rfl (by decide) rfl rfl rfl (Nat.le_of_ble_eq_true rfl) (cU_tof E hW0 hS (p := p) (by omega)) ?_
      refine k_i2l hX.1 dX7_digest_75 ?_
      refine k_ladd hX.1 dX7_digest_76 ?_
      refine k_lstore_n hX.1 dX7_digest_77 rfl (by decide) rfl rfl ?_
      try simp only [List.set_cons_zero, List.set_cons_succ]
      refine k_iinc hX.1 dX7_digest_78 rfl (by decide) rfl rfl ?_
      try simp only [List.set_cons_zero, List.set_cons_succ]
      refine k_goto (tgt := 17) hX.1 dX7_digest_81 (by decide) ?_
      exact k_sub (by repeat first | exact trivial | refine And.intro rfl ?_) (ih (p + 1) _ ⟨by omega, by rw [dgP, ← hh, ← hh2]; rfl⟩)

set_option maxRecDepth 100000 in
set_option maxHeartbeats 4000000 in
theorem c7_digest (E : En) {A : St} {g : Mm} {n : Int} (hR : RC A g) (hW : Wf A n) : Ok E 7 mX7_digest [vR 0] g (fun r g' => r = some (vL (dgs A)) ∧ RC A g' ∧ sameM g g') := by
  have hC0 := hR.1
  have hW0 := hW.1
  obtain ⟨⟨⟨hc1, hc2, hc3⟩, hcp, hcl⟩, ⟨hg1, hg2⟩, ⟨ht1, ht2, ht3⟩, hck, hcb⟩ := id hR
  obtain ⟨⟨⟨hw1, hw2, hw3, hw4, hw5, hw6, hw7, hw8⟩, hwp, hwl⟩, ⟨hq1, hq2, hq3⟩, ⟨hz1, ⟨hz2, hz3⟩, ⟨hz4, hz5⟩⟩, hwk⟩ := id hW
  refine Ok_of gmX7_digest (by omega) (Nat.le_of_ble_eq_true rfl) (fun X hX => ?_)
  show V E X 0 [some (vR 0), none, none, none, none] [] g
  refine k_ldc2 hX.1 dX7_digest_0 lcX7_212 ?_
  refine k_lstore_n hX.1 dX7_digest_3 rfl (by decide) rfl rfl ?_
  try simp only [List.set_cons_zero, List.set_cons_succ]
  refine k_aload_n hX.1 dX7_digest_4 rfl rfl ?_
  refine k_getr (t := 30) hX.1 dX7_digest_5 flX7_36 rfl (by decide) rfl rfl ?_
  refine k_aload_n hX.1 dX7_digest_8 rfl rfl ?_
  refine k_getr (t := 3) hX.1 dX7_digest_9 flX7_19 rfl (by decide) rfl rfl ?_
  refine k_callV (d2 := 5) (n := 1) (as := [_]) hX.1 dX7_digest_12 lkX7_186 (fit_of hX (by omega) gmX1_study) rfl rfl (by decide) rfl rfl rfl (Nat.le_of_ble_eq_true rfl) (cU_study E hC0 hW0) (fun r_12 g_12 q_12 => ?_)
  obtain ⟨rfl, hS⟩ := q_12
  show V E X 15 _ [] _
  refine k_iconst hX.1 dX7_digest_15 ?_
  refine k_istore_n hX.1 dX7_digest_16 rfl (by decide) rfl rfl ?_
  try simp only [List.set_cons_zero, List.set_cons_succ]
  exact k_sub (by repeat first | exact trivial | refine And.intro rfl ?_) (lp_dg1 E (RC_u hR hW hS) hW (sameM_u hS) hS hX (A 12 0).toNat 0 _ ⟨by omega, rfl⟩)
