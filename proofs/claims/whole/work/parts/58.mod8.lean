set_option maxRecDepth 100000 in
set_option maxHeartbeats 4000000 in
theorem cM_sorts (E : En) {A : St} {g : Mm} {n : Int} (hM : MW A g) (hW : WW A n) : Fn E 1 mX8_sorts [vR 46] g (vI ((nM_ A : Nat) : Int)) := by
  obtain ⟨⟨hm1, hm2, hm3⟩, hmp, hml⟩ := id hM
  obtain ⟨⟨hw1, hw2, hw3, hw4, hw5, hw6, hw7, hw8⟩, hwp, hwl⟩ := id hW
  obtain ⟨hb1, hb2, hb3, hb4⟩ := nm_bd hW
  refine Ok_of gmX8_sorts (by omega) (Nat.le_of_ble_eq_true rfl) (fun X hX => ?_)
  show V E X 0 [some (vR 46)] [] g
  rcases (show A 12 2 = 0 ∨ A 12 2 = 1 ∨ A 12 2 = 2 ∨ A 12 2 = 3 by omega) with e | e | e | e
  · skip
    refine k_aload_n hX.1 dX8_sorts_0 rfl rfl ?_
    refine k_geti hX.1 dX8_sorts_1 flX8_132 rfl (by decide) rfl ?_
    refine k_top (b := 0) (by omega) ?_
    refine k_aload_n hX.1 dX8_sorts_4 rfl rfl ?_
    refine k_geti hX.1 dX8_sorts_5 flX8_132 rfl (by decide) rfl ?_
    refine k_top (b := 0) (by omega) ?_
    refine k_aload_n hX.1 dX8_sorts_8 rfl rfl ?_
    refine k_geti hX.1 dX8_sorts_9 flX8_132 rfl (by decide) rfl ?_
    refine k_top (b := 0) (by omega) ?_
    refine k_iconst hX.1 dX8_sorts_12 ?_
    refine k_isub hX.1 dX8_sorts_13 ?_
    refine k_imul hX.1 dX8_sorts_14 ?_
    refine k_iconst hX.1 dX8_sorts_15 ?_
    refine k_idiv hX.1 dX8_sorts_16 (by omega) (by omega) ?_
    refine k_iadd hX.1 dX8_sorts_17 ?_
    refine k_iret hX dX8_sorts_18 rfl ?_
    refine ⟨?_, rfl⟩
    rw [hb4]
    simp [nmT, e]
  · skip
    refine k_aload_n hX.1 dX8_sorts_0 rfl rfl ?_
    refine k_geti hX.1 dX8_sorts_1 flX8_132 rfl (by decide) rfl ?_
    refine k_top (b := 1) (by omega) ?_
    refine k_aload_n hX.1 dX8_sorts_4 rfl rfl ?_
    refine k_geti hX.1 dX8_sorts_5 flX8_132 rfl (by decide) rfl ?_
    refine k_top (b := 1) (by omega) ?_
    refine k_aload_n hX.1 dX8_sorts_8 rfl rfl ?_
    refine k_geti hX.1 dX8_sorts_9 flX8_132 rfl (by decide) rfl ?_
    refine k_top (b := 1) (by omega) ?_
    refine k_iconst hX.1 dX8_sorts_12 ?_
    refine k_isub hX.1 dX8_sorts_13 ?_
    refine k_imul hX.1 dX8_sorts_14 ?_
    refine k_iconst hX.1 dX8_sorts_15 ?_
    refine k_idiv hX.1 dX8_sorts_16 (by omega) (by omega) ?_
    refine k_iadd hX.1 dX8_sorts_17 ?_
    refine k_iret hX dX8_sorts_18 rfl ?_
    refine ⟨?_, rfl⟩
    rw [hb4]
    simp [nmT, e]
  · skip
    refine k_aload_n hX.1 dX8_sorts_0 rfl rfl ?_
    refine k_geti hX.1 dX8_sorts_1 flX8_132 rfl (by decide) rfl ?_
    refine k_top (b := 2) (by omega) ?_
    refine k_aload_n hX.1 dX8_sorts_4 rfl rfl ?_
    refine k_geti hX.1 dX8_sorts_5 flX8_132 rfl (by decide) rfl ?_
    refine k_top (b := 2) (by omega) ?_
    refine k_aload_n hX.1 dX8_sorts_8 rfl rfl ?_
    refine k_geti hX.1 dX8_sorts_9 flX8_132 rfl (by decide) rfl ?_
    refine k_top (b := 2) (by omega) ?_
    refine k_iconst hX.1 dX8_sorts_12 ?_
    refine k_isub hX.1 dX8_sorts_13 ?_
    refine k_imul hX.1 dX8_sorts_14 ?_
    refine k_iconst hX.1 dX8_sorts_15 ?_
    refine k_idiv hX.1 dX8_sorts_16 (by omega) (by omega) ?_
    refine k_iadd hX.1 dX8_sorts_17 ?_
    refine k_iret hX dX8_sorts_18 rfl ?_
    refine ⟨?_, rfl⟩
    rw [hb4]
    simp [nmT, e]
  · skip
    refine k_aload_n hX.1 dX8_sorts_0 rfl rfl ?_
    refine k_geti hX.1 dX8_sorts_1 flX8_132 rfl (by decide) rfl ?_
    refine k_top (b := 3) (by omega) ?_
    refine k_aload_n hX.1 dX8_sorts_4 rfl rfl ?_
    refine k_geti hX.1 dX8_sorts_5 flX8_132 rfl (by decide) rfl ?_
    refine k_top (b := 3) (by omega) ?_
    refine k_aload_n hX.1 dX8_sorts_8 rfl rfl ?_
    refine k_geti hX.1 dX8_sorts_9 flX8_132 rfl (by decide) rfl ?_
    refine k_top (b := 3) (by omega) ?_
    refine k_iconst hX.1 dX8_sorts_12 ?_
    refine k_isub hX.1 dX8_sorts_13 ?_
    refine k_imul hX.1 dX8_sorts_14 ?_
    refine k_iconst hX.1 dX8_sorts_15 ?_
    refine k_idiv hX.1 dX8_sorts_16 (by omega) (by omega) ?_
    refine k_iadd hX.1 dX8_sorts_17 ?_
    refine k_iret hX dX8_sorts_18 rfl ?_
    refine ⟨?_, rfl⟩
    rw [hb4]
    simp [nmT, e]

theorem sort_d {A : St} {n : Int} (hW : WW A n) {i : Nat} (hi : i < nM_ A) : (i : Int) < A 12 2 ∨ ((i : Int) - A 12 2 = 0 ∧ 2 ≤ A 12 2) ∨ ((i : Int) - A 12 2 = 1 ∧ A 12 2 = 3) ∨ ((i : Int) - A 12 2 = 2 ∧ A 12 2 = 3) := by
  obtain ⟨hb1, hb2, hb3, hb4⟩ := nm_bd hW
  have h0 := hW.1.2.2.1
  have h3 := hW.1.2.2.2.1
  rcases (show A 12 2 = 0 ∨ A 12 2 = 1 ∨ A 12 2 = 2 ∨ A 12 2 = 3 by omega) with z | z | z | z
  · have e : nmT (A 12 2) = 0 := by rw [z]; rfl
    omega
  · have e : nmT (A 12 2) = 1 := by rw [z]; rfl
    omega
  · have e : nmT (A 12 2) = 3 := by rw [z]; rfl
    omega
  · have e : nmT (A 12 2) = 6 := by rw [z]; rfl
    omega
theorem tM_bd {A : St} {n : Int} (hW : WW A n) {i : Nat} (hi : i < nM_ A) : 0 ≤ tM A i ∧ tM A i ≤ 40 := by
  obtain ⟨j, hj, e⟩ := (tM_set hW.1.2.2.1 hW.1.2.2.2.1 (tM A i)).2 ⟨i, hi, rfl⟩
  have hb := nm_bd hW
  have := tC_bd hW (i := j) (by omega)
  omega
theorem pow_bd {S p : Nat} (hS : S ≤ 6) (hp : p ≤ 5) : S ^ p ≤ 7776 := by
  have h1 := Nat.pow_le_pow_left hS p
  have h2 := Nat.pow_le_pow_right (show 0 < 6 by omega) hp
  have h3 : (6 : Nat) ^ 5 = 7776 := rfl
  omega
theorem vq_s0 {A : St} {f : Nat → Int} {n : Nat} (h : vq A f n = 0) : vq A f (n + 1) = 0 := by rw [vq, if_neg (by omega)]
theorem vq_s1 {A : St} {f : Nat → Int} {n : Nat} (h : vq A f n = 1) (h2 : A 7 n = -1 ∨ A 7 n = s2 A n (f n) (f (n + 1))) : vq A f (n + 1) = 1 := by
  have : mmI A n (f n) (f (n + 1)) = 1 := if_pos h2
  rw [vq, if_pos ⟨h, this⟩]
theorem vq_s2 {A : St} {f : Nat → Int} {n : Nat} (h2 : ¬ (A 7 n = -1 ∨ A 7 n = s2 A n (f n) (f (n + 1)))) : vq A f (n + 1) = 0 := by
  have : mmI A n (f n) (f (n + 1)) = 0 := if_neg h2
  rw [vq, if_neg (by omega)]
set_option maxRecDepth 100000 in
set_option maxHeartbeats 4000000 in
theorem cM_sortTone (E : En) {A : St} {g : Mm} {n : Int} (hM : MW A g) (hW : WW A n) {i : Nat} (hi : i < nM_ A) : Fn E 1 mX8_sortTone [vR 46, vI (i : Int)] g (vI (tM A i)) := by
  obtain ⟨⟨hm1, hm2, hm3⟩, hmp, hml⟩ := id hM
  obtain ⟨⟨hw1, hw2, hw3, hw4, hw5, hw6, hw7, hw8⟩, hwp, hwl⟩ := id hW
  obtain ⟨hb1, hb2, hb3, hb4⟩ := nm_bd hW
  refine Ok_of gmX8_sortTone (by omega) (Nat.le_of_ble_eq_true rfl) (fun X hX => ?_)
  show V E X 0 [some (vR 46), some (vI (i : Int)), none, none, none] [] g
  rcases sort_d hW hi with e | ⟨e, e2⟩ | ⟨e, e2⟩ | ⟨e, e2⟩
  · skip
    have q1 := (hml i e).1
    refine k_iload_n hX.1 dX8_sortTone_0 rfl rfl ?_
    refine k_aload_n hX.1 dX8_sortTone_1 rfl rfl ?_
    refine k_geti hX.1 dX8_sortTone_2 flX8_132 rfl (by decide) rfl ?_
    refine k_icmp_ge (tgt := 17) hX.1 dX8_sortTone_5 (by decide) (by omega) (by omega) (fun c_5 => ?_) (fun c_5 => ?_)
    · skip
      exact absurd c_5 (by omega)
    · skip
      refine k_iconst hX.1 dX8_sortTone_8 ?_
      refine k_aload_n hX.1 dX8_sortTone_9 rfl rfl ?_
      refine k_getr (t := 55) hX.1 dX8_sortTone_10 flX8_34 rfl (by decide) rfl rfl ?_
      refine k_iload_n hX.1 dX8_sortTone_13 rfl rfl ?_
      refine k_iald (j := i) hX.1 dX8_sortTone_14 rfl (by omega) (n := 3) rfl (by omega) (by omega) ?_
      refine k_imul hX.1 dX8_sortTone_15 ?_
      refine k_iret hX dX8_sortTone_16 rfl ?_
      refine ⟨?_, rfl⟩
      congr 2
      unfold tM
      rw [if_pos e]
      omega
  · skip
    have q1 := (hml 0 (by omega)).1
    have q2 := (hml 1 (by omega)).1
    refine k_iload_n hX.1 dX8_sortTone_0 rfl rfl ?_
    refine k_aload_n hX.1 dX8_sortTone_1 rfl rfl ?_
    refine k_geti hX.1 dX8_sortTone_2 flX8_132 rfl (by decide) rfl ?_
    refine k_icmp_ge (tgt := 17) hX.1 dX8_sortTone_5 (by decide) (by omega) (by omega) (fun c_5 => ?_) (fun c_5 => ?_)
    · skip
      refine k_iload_n hX.1 dX8_sortTone_17 rfl rfl ?_
      refine k_aload_n hX.1 dX8_sortTone_18 rfl rfl ?_
      refine k_geti hX.1 dX8_sortTone_19 flX8_132 rfl (by decide) rfl ?_
      refine k_isub hX.1 dX8_sortTone_22 ?_
      refine k_istore_n hX.1 dX8_sortTone_23 rfl (by decide) rfl rfl ?_
      try simp only [List.set_cons_zero, List.set_cons_succ]
      refine k_iload_n hX.1 dX8_sortTone_24 rfl rfl ?_
      refine k_iconst hX.1 dX8_sortTone_25 ?_
      refine k_icmp_ne (tgt := 33) hX.1 dX8_sortTone_26 (by decide) (by omega) (by omega) (fun c_26 => ?_) (fun c_26 => ?_)
      · skip
        refine k_iconst hX.1 dX8_sortTone_33 ?_
        refine k_istore_n hX.1 dX8_sortTone_34 rfl (by decide) rfl rfl ?_
        try simp only [List.set_cons_zero, List.set_cons_succ]
        refine k_iload_n hX.1 dX8_sortTone_35 rfl rfl ?_
        refine k_if_ne (tgt := 43) hX.1 dX8_sortTone_36 (by decide) (by omega) (fun c_36 => ?_) (fun c_36 => ?_)
        · skip
          exact absurd c_36 (by omega)
        · skip
          refine k_iconst hX.1 dX8_sortTone_39 ?_
          refine k_goto (tgt := 44) hX.1 dX8_sortTone_40 (by decide) ?_
          refine k_istore hX.1 dX8_sortTone_44 (by decide) rfl rfl ?_
          try simp only [List.set_cons_zero, List.set_cons_succ]
          refine k_aload_n hX.1 dX8_sortTone_46 rfl rfl ?_
          refine k_getr (t := 55) hX.1 dX8_sortTone_47 flX8_34 rfl (by decide) rfl rfl ?_
          refine k_iload_n hX.1 dX8_sortTone_50 rfl rfl ?_
          refine k_iald (j := 0) hX.1 dX8_sortTone_51 rfl (by omega) (n := 3) rfl (by omega) (by omega) ?_
          refine k_aload_n hX.1 dX8_sortTone_52 rfl rfl ?_
          refine k_getr (t := 55) hX.1 dX8_sortTone_53 flX8_34 rfl (by decide) rfl rfl ?_
          refine k_iload hX.1 dX8_sortTone_56 rfl ?_
          refine k_iald (j := 1) hX.1 dX8_sortTone_58 rfl (by omega) (n := 3) rfl (by omega) (by omega) ?_
          refine k_iadd hX.1 dX8_sortTone_59 ?_
          refine k_iret hX dX8_sortTone_60 rfl ?_
          refine ⟨?_, rfl⟩
          congr 2
          unfold tM
          rw [if_neg (by omega)]
          rw [if_neg (by omega)]
          rw [if_pos (by omega)]
          omega
      · skip
        exact absurd c_26 (by omega)
    · skip
      exact absurd c_5 (by omega)
  · skip
    have q1 := (hml 0 (by omega)).1
    have q2 := (hml 2 (by omega)).1
    refine k_iload_n hX.1 dX8_sortTone_0 rfl rfl ?_
    refine k_aload_n hX.1 dX8_sortTone_1 rfl rfl ?_
    refine k_geti hX.1 dX8_sortTone_2 flX8_132 rfl (by decide) rfl ?_
    refine k_icmp_ge (tgt := 17) hX.1 dX8_sortTone_5 (by decide) (by omega) (by omega) (fun c_5 => ?_) (fun c_5 => ?_)
    · skip
      refine k_iload_n hX.1 dX8_sortTone_17 rfl rfl ?_
      refine k_aload_n hX.1 dX8_sortTone_18 rfl rfl ?_
      refine k_geti hX.1 dX8_sortTone_19 flX8_132 rfl (by decide) rfl ?_
      refine k_isub hX.1 dX8_sortTone_22 ?_
      refine k_istore_n hX.1 dX8_sortTone_23 rfl (by decide) rfl rfl ?_
      try simp only [List.set_cons_zero, List.set_cons_succ]
      refine k_iload_n hX.1 dX8_sortTone_24 rfl rfl ?_
      refine k_iconst hX.1 dX8_sortTone_25 ?_
      refine k_icmp_ne (tgt := 33) hX.1 dX8_sortTone_26 (by decide) (by omega) (by omega) (fun c_26 => ?_) (fun c_26 => ?_)
      · skip
        refine k_iconst hX.1 dX8_sortTone_33 ?_
        refine k_istore_n hX.1 dX8_sortTone_34 rfl (by decide) rfl rfl ?_
        try simp only [List.set_cons_zero, List.set_cons_succ]
        refine k_iload_n hX.1 dX8_sortTone_35 rfl rfl ?_
        refine k_if_ne (tgt := 43) hX.1 dX8_sortTone_36 (by decide) (by omega) (fun c_36 => ?_) (fun c_36 => ?_)
        · skip
          refine k_iconst hX.1 dX8_sortTone_43 ?_
          refine k_istore hX.1 dX8_sortTone_44 (by decide) rfl rfl ?_
          try simp only [List.set_cons_zero, List.set_cons_succ]
          refine k_aload_n hX.1 dX8_sortTone_46 rfl rfl ?_
          refine k_getr (t := 55) hX.1 dX8_sortTone_47 flX8_34 rfl (by decide) rfl rfl ?_
          refine k_iload_n hX.1 dX8_sortTone_50 rfl rfl ?_
          refine k_iald (j := 0) hX.1 dX8_sortTone_51 rfl (by omega) (n := 3) rfl (by omega) (by omega) ?_
          refine k_aload_n hX.1 dX8_sortTone_52 rfl rfl ?_
          refine k_getr (t := 55) hX.1 dX8_sortTone_53 flX8_34 rfl (by decide) rfl rfl ?_
          refine k_iload hX.1 dX8_sortTone_56 rfl ?_
          refine k_iald (j := 2) hX.1 dX8_sortTone_58 rfl (by omega) (n := 3) rfl (by omega) (by omega) ?_
          refine k_iadd hX.1 dX8_sortTone_59 ?_
          refine k_iret hX dX8_sortTone_60 rfl ?_
          refine ⟨?_, rfl⟩
          congr 2
          unfold tM
          rw [if_neg (by omega)]
          rw [if_neg (by omega)]
          rw [if_neg (by omega)]
          omega
        · skip
          exact absurd c_36 (by omega)
      · skip
        exact absurd c_26 (by omega)
    · skip
      exact absurd c_5 (by omega)
  · skip
    have q1 := (hml 1 (by omega)).1
    have q2 := (hml 2 (by omega)).1
    refine k_iload_n hX.1 dX8_sortTone_0 rfl rfl ?_
    refine k_aload_n hX.1 dX8_sortTone_1 rfl rfl ?_
    refine k_geti hX.1 dX8_sortTone_2 flX8_132 rfl (by decide) rfl ?_
    refine k_icmp_ge (tgt := 17) hX.1 dX8_sortTone_5 (by decide) (by omega) (by omega) (fun c_5 => ?_) (fun c_5 => ?_)
    · skip
      refine k_iload_n hX.1 dX8_sortTone_17 rfl rfl ?_
      refine k_aload_n hX.1 dX8_sortTone_18 rfl rfl ?_
      refine k_geti hX.1 dX8_sortTone_19 flX8_132 rfl (by decide) rfl ?_
      refine k_isub hX.1 dX8_sortTone_22 ?_
      refine k_istore_n hX.1 dX8_sortTone_23 rfl (by decide) rfl rfl ?_
      try simp only [List.set_cons_zero, List.set_cons_succ]
      refine k_iload_n hX.1 dX8_sortTone_24 rfl rfl ?_
      refine k_iconst hX.1 dX8_sortTone_25 ?_
      refine k_icmp_ne (tgt := 33) hX.1 dX8_sortTone_26 (by decide) (by omega) (by omega) (fun c_26 => ?_) (fun c_26 => ?_)
      · skip
        exact absurd c_26 (by omega)
      · skip
        refine k_iconst hX.1 dX8_sortTone_29 ?_
        refine k_goto (tgt := 34) hX.1 dX8_sortTone_30 (by decide) ?_
        refine k_istore_n hX.1 dX8_sortTone_34 rfl (by decide) rfl rfl ?_
        try simp only [List.set_cons_zero, List.set_cons_succ]
        refine k_iload_n hX.1 dX8_sortTone_35 rfl rfl ?_
        refine k_if_ne (tgt := 43) hX.1 dX8_sortTone_36 (by decide) (by omega) (fun c_36 => ?_) (fun c_36 => ?_)
        · skip
          refine k_iconst hX.1 dX8_sortTone_43 ?_
          refine k_istore hX.1 dX8_sortTone_44 (by decide) rfl rfl ?_
          try simp only [List.set_cons_zero, List.set_cons_succ]
          refine k_aload_n hX.1 dX8_sortTone_46 rfl rfl ?_
          refine k_getr (t := 55) hX.1 dX8_sortTone_47 flX8_34 rfl (by decide) rfl rfl ?_
          refine k_iload_n hX.1 dX8_sortTone_50 rfl rfl ?_
          refine k_iald (j := 1) hX.1 dX8_sortTone_51 rfl (by omega) (n := 3) rfl (by omega) (by omega) ?_
          refine k_aload_n hX.1 dX8_sortTone_52 rfl rfl ?_
          refine k_getr (t := 55) hX.1 dX8_sortTone_53 flX8_34 rfl (by decide) rfl rfl ?_
          refine k_iload hX.1 dX8_sortTone_56 rfl ?_
          refine k_iald (j := 2) hX.1 dX8_sortTone_58 rfl (by omega) (n := 3) rfl (by omega) (by omega) ?_
          refine k_iadd hX.1 dX8_sortTone_59 ?_
          refine k_iret hX dX8_sortTone_60 rfl ?_
          refine ⟨?_, rfl⟩
          congr 2
          unfold tM
          rw [if_neg (by omega)]
          rw [if_pos (by omega)]
          rw [if_neg (by omega)]
          omega
        · skip
          exact absurd c_36 (by omega)
    · skip
      exact absurd c_5 (by omega)

set_option maxRecDepth 100000 in
set_option maxHeartbeats 4000000 in
theorem lpM_ways (E : En) {A : St} {g : Mm} {n : Int} (hM : MW A g) (hW : WW A n) {X : Cx} (hX : Wk E mX8_waysMany X 2 (fun r g' => r = some (vI ((nM_ A ^ (A 12 0).toNat : Nat) : Int)) ∧ g' = g)) : ∀ (m : Nat) (p : Nat), m + p = (A 12 0).toNat → V E X 4 [some (vR 46), some (vI ((nM_ A ^ p : Nat) : Int)), some (vI (p : Int))] [] g := by
  obtain ⟨⟨hm1, hm2, hm3⟩, hmp, hml⟩ := id hM
  obtain ⟨⟨hw1, hw2, hw3, hw4, hw5, hw6, hw7, hw8⟩, hwp, hwl⟩ := id hW
  obtain ⟨hb1, hb2, hb3, hb4⟩ := nm_bd hW
  intro m
  induction m with
  | zero =>
    intro p hm
    refine k_iload_n hX.1 dX8_waysMany_4 rfl rfl ?_
    refine k_aload_n hX.1 dX8_waysMany_5 rfl rfl ?_
    refine k_geti hX.1 dX8_waysMany_6 flX8_119 rfl (by decide) rfl ?_
    refine k_icmp_ge (tgt := 25) hX.1 dX8_waysMany_9 (by decide) (by omega) (by omega) (fun c_9 => ?_) (fun c_9 => ?_)
    · skip
      refine k_iload_n hX.1 dX8_waysMany_25 rfl rfl ?_
      refine k_iret hX dX8_waysMany_26 rfl ?_
      refine ⟨?_, rfl⟩
      rw [show p = (A 12 0).toNat by omega]
    · skip
      exact absurd c_9 (by omega)
  | succ m ih =>
    intro p hm
    refine k_iload_n hX.1 dX8_waysMany_4 rfl rfl ?_
    refine k_aload_n hX.1 dX8_waysMany_5 rfl rfl ?_
    refine k_geti hX.1 dX8_waysMany_6 flX8_119 rfl (by decide) rfl ?_
    refine k_icmp_ge (tgt := 25) hX.1 dX8_waysMany_9 (by decide) (by omega) (by omega) (fun c_9 => ?_) (fun c_9 => ?_)
    · skip
      exact absurd c_9 (by omega)
    · skip
      refine k_iload_n hX.1 dX8_waysMany_12 rfl rfl ?_
      refine k_aload_n hX.1 dX8_waysMany_13 rfl rfl ?_
      refine k_callVf (d2 := 1) (n := 0) (as := []) hX.1 dX8_waysMany_14 lkX8_203 (fit_of hX (by omega) gmX8_sorts) rfl rfl (by decide) rfl rfl rfl (Nat.le_of_ble_eq_true rfl) (cM_sorts E hM hW) ?_
      refine k_imul hX.1 dX8_waysMany_17 ?_
      refine k_top (b := ((nM_ A ^ (p + 1) : Nat) : Int)) (by rw [Nat.pow_succ, Int.natCast_mul]) ?_
      refine k_istore_n hX.1 dX8_waysMany_18 rfl (by decide) rfl rfl ?_
      try simp only [List.set_cons_zero, List.set_cons_succ]
      refine k_iinc hX.1 dX8_waysMany_19 rfl (by decide) rfl rfl ?_
      try simp only [List.set_cons_zero, List.set_cons_succ]
      refine k_goto (tgt := 4) hX.1 dX8_waysMany_22 (by decide) ?_
      exact ih (p + 1) (by omega)

set_option maxRecDepth 100000 in
set_option maxHeartbeats 4000000 in
theorem cM_waysMany (E : En) {A : St} {g : Mm} {n : Int} (hM : MW A g) (hW : WW A n) : Fn E 2 mX8_waysMany [vR 46] g (vI ((nM_ A ^ (A 12 0).toNat : Nat) : Int)) := by
  obtain ⟨⟨hm1, hm2, hm3⟩, hmp, hml⟩ := id hM
  obtain ⟨⟨hw1, hw2, hw3, hw4, hw5, hw6, hw7, hw8⟩, hwp, hwl⟩ := id hW
  obtain ⟨hb1, hb2, hb3, hb4⟩ := nm_bd hW
  refine Ok_of gmX8_waysMany (by omega) (Nat.le_of_ble_eq_true rfl) (fun X hX => ?_)
  show V E X 0 [some (vR 46), none, none] [] g
  refine k_iconst hX.1 dX8_waysMany_0 ?_
  refine k_istore_n hX.1 dX8_waysMany_1 rfl (by decide) rfl rfl ?_
  try simp only [List.set_cons_zero, List.set_cons_succ]
  refine k_iconst hX.1 dX8_waysMany_2 ?_
  refine k_istore_n hX.1 dX8_waysMany_3 rfl (by decide) rfl rfl ?_
  try simp only [List.set_cons_zero, List.set_cons_succ]
  exact lpM_ways E hM hW hX (A 12 0).toNat 0 (by omega)

/-- only the plan's tones are changed -/
def pF (g h : Mm) : Prop := h.2 = g.2 ∧ ∀ a, a ≠ 59 → h.1 a = g.1 a
def pN (A : St) (g : Mm) (c : Nat) (h : Mm) : Prop := pF g h ∧ ∀ q : Nat, (q : Int) < A 12 0 → h.1 59 q = fcd A c q
theorem pF_rf (g : Mm) : pF g g := ⟨rfl, fun _ _ => rfl⟩
theorem pF_tr {g h k : Mm} (h1 : pF g h) (h2 : pF h k) : pF g k := ⟨h2.1.trans h1.1, fun a ha => (h2.2 a ha).trans (h1.2 a ha)⟩
theorem pF_w {g h : Mm} (h1 : pF g h) {j : Nat} {v : Int} : pF g (wr h 59 j v) := ⟨h1.1, fun a ha => by rw [wr_off ha]; exact h1.2 a ha⟩
theorem MW_pF {A : St} {g h : Mm} (hM : MW A g) (hy : pF g h) : MW A h := MW_fr hM (fun a h1 h2 => hy.2 a (by omega)) ⟨by rw [hy.2 46 (by omega)], by rw [hy.2 46 (by omega)], by rw [hy.2 46 (by omega)]⟩ ⟨rfl, rfl, rfl⟩ (fun _ _ _ _ => rfl) (fun _ _ _ _ _ => rfl)
theorem RM_pF {A : St} {g h : Mm} (hR : RM A g) (hy : pF g h) : RM A h := RM_scr hR (fun a h1 h2 h3 => hy.2 a (by omega)) (fun j _ _ => by rw [hy.2 46 (by omega)])
theorem sameC_pF {g h : Mm} (hy : pF g h) : sameC g h := fun a ha => ⟨hy.2 a (by omega), by rw [hy.1]⟩
set_option maxRecDepth 100000 in
set_option maxHeartbeats 4000000 in
theorem lpM_cb2 (E : En) {A : St} {g : Mm} {n : Int} (hM : MW A g) (hW : WW A n) {c : Nat} (hc : c < 7776) (hS : 0 < nM_ A) {h : Mm} (hy : pN A g c h) {x : Int} (hp1 : 1 ≤ A 12 0) {X : Cx} (hX : Wk E mX8_couldBe X 3 (fun r g' => r = some (vI (vq A (fcd A c) ((A 12 0).toNat - 1))) ∧ pN A g c g')) : ∀ (m : Nat) (p : Nat), m + p = (A 12 0).toNat - 1 → V E X 46 [some (vR 46), some (vI (c : Int)), some (vI x), some (vI (vq A (fcd A c) p)), some (vI (p : Int))] [] h := by
  obtain ⟨⟨hm1, hm2, hm3⟩, hmp, hml⟩ := id hM
  obtain ⟨⟨hw1, hw2, hw3, hw4, hw5, hw6, hw7, hw8⟩, hwp, hwl⟩ := id hW
  obtain ⟨hb1, hb2, hb3, hb4⟩ := nm_bd hW
  have fb : ∀ q, 0 ≤ fcd A c q ∧ fcd A c q ≤ 40 := fun q => tM_bd hW (dgt_lt hS c q)
  intro m
  induction m with
  | zero =>
    intro p hm
    refine k_iload hX.1 dX8_couldBe_46 rfl ?_
    refine k_iconst hX.1 dX8_couldBe_48 ?_
    refine k_iadd hX.1 dX8_couldBe_49 ?_
    refine k_aload_n hX.1 dX8_couldBe_50 rfl rfl ?_
    refine k_geti hX.1 dX8_couldBe_51 flX8_119 rfl (by decide) rfl ?_
    refine k_top (b := A 12 0) (by rw [hy.1.2 46 (by omega)]; exact hm1) ?_
    refine k_icmp_ge (tgt := 116) hX.1 dX8_couldBe_54 (by decide) (by omega) (by omega) (fun c_54 => ?_) (fun c_54 => ?_)
    · skip
      refine k_iload_n hX.1 dX8_couldBe_116 rfl rfl ?_
      refine k_zret hX dX8_couldBe_117 rfl (vq_01 A (fcd A c) p) ?_
      refine ⟨?_, hy⟩
      rw [show p = (A 12 0).toNat - 1 by omega]
    · skip
      exact absurd c_54 (by omega)
  | succ m ih =>
    intro p hm
    obtain ⟨f0, f1, f2, f3, f4, f5, f6, f7⟩ := hmp p (by omega)
    obtain ⟨-, -, -, -, -, -, -, w7⟩ := hwp p (by omega)
    have v1 := vq_01 A (fcd A c) p
    have b1 := fb p
    have b2 := fb (p + 1)
    have b3 := s2_bd (A := A) (p := p) (a := fcd A c p) (b := fcd A c (p + 1)) (c := 40) (by omega)
    have t1 := hy.2 p (by omega)
    have t2 := hy.2 (p + 1) (by omega)
    have f8 : h.1 54 p = A 7 p := by rw [hy.1.2 54 (by omega)]; exact f7
    refine k_iload hX.1 dX8_couldBe_46 rfl ?_
    refine k_iconst hX.1 dX8_couldBe_48 ?_
    refine k_iadd hX.1 dX8_couldBe_49 ?_
    refine k_aload_n hX.1 dX8_couldBe_50 rfl rfl ?_
    refine k_geti hX.1 dX8_couldBe_51 flX8_119 rfl (by decide) rfl ?_
    refine k_top (b := A 12 0) (by rw [hy.1.2 46 (by omega)]; exact hm1) ?_
    refine k_icmp_ge (tgt := 116) hX.1 dX8_couldBe_54 (by decide) (by omega) (by omega) (fun c_54 => ?_) (fun c_54 => ?_)
    · skip
      exact absurd c_54 (by omega)
    · skip
      refine k_iload_n hX.1 dX8_couldBe_57 rfl rfl ?_
      refine k_join1 109 (fun z => z = vq A (fcd A c) (p + 1)) (fun x1 hx1 => ?_) (fun jn_58 => ?_)
      · skip
        subst hx1
        refine k_istore_n hX.1 dX8_couldBe_109 rfl (by decide) rfl rfl ?_
        try simp only [List.set_cons_zero, List.set_cons_succ]
        refine k_iinc hX.1 dX8_couldBe_110 rfl (by decide) rfl rfl ?_
        try simp only [List.set_cons_zero, List.set_cons_succ]
        refine k_goto (tgt := 46) hX.1 dX8_couldBe_113 (by decide) ?_
        exact ih (p + 1) (by omega)
      · refine k_if_eq (tgt := 108) hX.1 dX8_couldBe_58 (by decide) (by omega) (fun c_58 => ?_) (fun c_58 => ?_)
        · skip
          refine k_iconst hX.1 dX8_couldBe_108 ?_
          exact jn_58 _ (by first | rw [vq_s0 (by omega)] | rw [vq_s1 (by omega) (by omega)] | rw [vq_s2 (by omega)])
        · skip
          refine k_aload_n hX.1 dX8_couldBe_61 rfl rfl ?_
          refine k_getr (t := 54) hX.1 dX8_couldBe_62 flX8_31 rfl (by decide) rfl rfl ?_
          refine k_iload hX.1 dX8_couldBe_65 rfl ?_
          refine k_iald (j := p) hX.1 dX8_couldBe_67 rfl (by omega) (n := 5) rfl (by omega) (by omega) ?_
          refine k_top f8 ?_
          refine k_iconst hX.1 dX8_couldBe_68 ?_
          refine k_icmp_eq (tgt := 104) hX.1 dX8_couldBe_69 (by decide) (by omega) (by omega) (fun c_69 => ?_) (fun c_69 => ?_)
          · skip
            refine k_iconst hX.1 dX8_couldBe_104 ?_
            refine k_goto (tgt := 109) hX.1 dX8_couldBe_105 (by decide) ?_
            exact jn_58 _ (by first | rw [vq_s0 (by omega)] | rw [vq_s1 (by omega) (by omega)] | rw [vq_s2 (by omega)])
          · skip
            refine k_aload_n hX.1 dX8_couldBe_72 rfl rfl ?_
            refine k_getr (t := 54) hX.1 dX8_couldBe_73 flX8_31 rfl (by decide) rfl rfl ?_
            refine k_iload hX.1 dX8_couldBe_76 rfl ?_
            refine k_iald (j := p) hX.1 dX8_couldBe_78 rfl (by omega) (n := 5) rfl (by omega) (by omega) ?_
            refine k_top f8 ?_
            refine k_aload_n hX.1 dX8_couldBe_79 rfl rfl ?_
            refine k_iload hX.1 dX8_couldBe_80 rfl ?_
            refine k_aload_n hX.1 dX8_couldBe_82 rfl rfl ?_
            refine k_getr (t := 59) hX.1 dX8_couldBe_83 flX8_47 rfl (by decide) rfl rfl ?_
            refine k_iload hX.1 dX8_couldBe_86 rfl ?_
            refine k_iald (j := p) hX.1 dX8_couldBe_88 rfl (by omega) (n := 5) rfl (by omega) (by omega) ?_
            refine k_top t1 ?_
            refine k_aload_n hX.1 dX8_couldBe_89 rfl rfl ?_
            refine k_getr (t := 59) hX.1 dX8_couldBe_90 flX8_47 rfl (by decide) rfl rfl ?_
            refine k_iload hX.1 dX8_couldBe_93 rfl ?_
            refine k_iconst hX.1 dX8_couldBe_95 ?_
            refine k_iadd hX.1 dX8_couldBe_96 ?_
            refine k_iald (j := (p + 1)) hX.1 dX8_couldBe_97 rfl (by omega) (n := 5) rfl (by omega) (by omega) ?_
            refine k_top t2 ?_
            refine k_callVf (d2 := 2) (n := 3) (as := [_, _, _]) hX.1 dX8_couldBe_98 lkX8_141 (fit_of hX (by omega) gmX8_seenBy) rfl rfl (by decide) rfl rfl rfl (Nat.le_of_ble_eq_true rfl) (cM_seenBy E (MW_pF hM hy.1) hW (p := p) (by omega) (by omega) (by omega)) ?_
            refine k_icmp_ne (tgt := 108) hX.1 dX8_couldBe_101 (by decide) (by omega) (by omega) (fun c_101 => ?_) (fun c_101 => ?_)
            · skip
              refine k_iconst hX.1 dX8_couldBe_108 ?_
              exact jn_58 _ (by first | rw [vq_s0 (by omega)] | rw [vq_s1 (by omega) (by omega)] | rw [vq_s2 (by omega)])
            · skip
              refine k_iconst hX.1 dX8_couldBe_104 ?_
              refine k_goto (tgt := 109) hX.1 dX8_couldBe_105 (by decide) ?_
              exact jn_58 _ (by first | rw [vq_s0 (by omega)] | rw [vq_s1 (by omega) (by omega)] | rw [vq_s2 (by omega)])

theorem dg_step (S c p : Nat) : c / S ^ p / S = c / S ^ (p + 1) := by rw [Nat.pow_succ, Nat.div_div_eq_div_mul]
theorem dg_i (S c p : Nat) : ((c / S ^ p : Nat) : Int) / (S : Int) = ((c / S ^ (p + 1) : Nat) : Int) := by rw [← dg_step]; rfl
theorem dg_m (S c p : Nat) : ((c / S ^ p : Nat) : Int) % (S : Int) = ((dgt S c p : Nat) : Int) := rfl
set_option maxRecDepth 100000 in
set_option maxHeartbeats 4000000 in
theorem lpM_cb1 (E : En) {A : St} {g : Mm} {n : Int} (hM : MW A g) (hW : WW A n) {c : Nat} (hc : c < 7776) (hS : 0 < nM_ A) (hp1 : 1 ≤ A 12 0) {X : Cx} (hX : Wk E mX8_couldBe X 3 (fun r g' => r = some (vI (vq A (fcd A c) ((A 12 0).toNat - 1))) ∧ pN A g c g')) : ∀ (m : Nat) (p : Nat) (h : Mm), m + p = (A 12 0).toNat ∧ pF g h ∧ (∀ q, q < p → h.1 59 q = fcd A c q) → V E X 4 [some (vR 46), some (vI (c : Int)), some (vI ((c / nM_ A ^ p : Nat) : Int)), some (vI (p : Int)), none] [] h := by
  obtain ⟨⟨hm1, hm2, hm3⟩, hmp, hml⟩ := id hM
  obtain ⟨⟨hw1, hw2, hw3, hw4, hw5, hw6, hw7, hw8⟩, hwp, hwl⟩ := id hW
  obtain ⟨hb1, hb2, hb3, hb4⟩ := nm_bd hW
  intro m
  induction m with
  | zero =>
    intro p h ⟨hm, hy, hv⟩
    refine k_iload_n hX.1 dX8_couldBe_4 rfl rfl ?_
    refine k_aload_n hX.1 dX8_couldBe_5 rfl rfl ?_
    refine k_geti hX.1 dX8_couldBe_6 flX8_119 rfl (by decide) rfl ?_
    refine k_top (b := A 12 0) (by rw [hy.2 46 (by omega)]; exact hm1) ?_
    refine k_icmp_ge (tgt := 41) hX.1 dX8_couldBe_9 (by decide) (by omega) (by omega) (fun c_9 => ?_) (fun c_9 => ?_)
    · skip
      refine k_iconst hX.1 dX8_couldBe_41 ?_
      refine k_istore_n hX.1 dX8_couldBe_42 rfl (by decide) rfl rfl ?_
      try simp only [List.set_cons_zero, List.set_cons_succ]
      refine k_iconst hX.1 dX8_couldBe_43 ?_
      refine k_istore hX.1 dX8_couldBe_44 (by decide) rfl rfl ?_
      try simp only [List.set_cons_zero, List.set_cons_succ]
      exact lpM_cb2 E hM hW hc hS (h := h) ⟨hy, fun q hq => hv q (by omega)⟩ hp1 hX ((A 12 0).toNat - 1) 0 (by omega)
    · skip
      exact absurd c_9 (by omega)
  | succ m ih =>
    intro p h ⟨hm, hy, hv⟩
    have hd := Nat.div_le_self c (nM_ A ^ p)
    have hd0 := Int.natCast_nonneg (c / nM_ A ^ p)
    have dl := dgt_lt hS c p
    refine k_iload_n hX.1 dX8_couldBe_4 rfl rfl ?_
    refine k_aload_n hX.1 dX8_couldBe_5 rfl rfl ?_
    refine k_geti hX.1 dX8_couldBe_6 flX8_119 rfl (by decide) rfl ?_
    refine k_top (b := A 12 0) (by rw [hy.2 46 (by omega)]; exact hm1) ?_
    refine k_icmp_ge (tgt := 41) hX.1 dX8_couldBe_9 (by decide) (by omega) (by omega) (fun c_9 => ?_) (fun c_9 => ?_)
    · skip
      exact absurd c_9 (by omega)
    · skip
      refine k_aload_n hX.1 dX8_couldBe_12 rfl rfl ?_
      refine k_getr (t := 59) hX.1 dX8_couldBe_13 flX8_47 rfl (by decide) rfl rfl ?_
      refine k_iload_n hX.1 dX8_couldBe_16 rfl rfl ?_
      refine k_aload_n hX.1 dX8_couldBe_17 rfl rfl ?_
      refine k_iload_n hX.1 dX8_couldBe_18 rfl rfl ?_
      refine k_aload_n hX.1 dX8_couldBe_19 rfl rfl ?_
      refine k_callVf (d2 := 1) (n := 0) (as := []) hX.1 dX8_couldBe_20 lkX8_203 (fit_of hX (by omega) gmX8_sorts) rfl rfl (by decide) rfl rfl rfl (Nat.le_of_ble_eq_true rfl) (cM_sorts E (MW_pF hM hy) hW) ?_
      refine k_irem hX.1 dX8_couldBe_23 (by omega) (by omega) ?_
      refine k_top (dg_m (nM_ A) c p) ?_
      refine k_callVf (d2 := 1) (n := 1) (as := [_]) hX.1 dX8_couldBe_24 lkX8_206 (fit_of hX (by omega) gmX8_sortTone) rfl rfl (by decide) rfl rfl rfl (Nat.le_of_ble_eq_true rfl) (cM_sortTone E (MW_pF hM hy) hW dl) ?_
      refine k_iast (j := p) hX.1 dX8_couldBe_27 rfl (by omega) (n := 5) rfl (by omega) (by omega) ?_
      refine k_iload_n hX.1 dX8_couldBe_28 rfl rfl ?_
      refine k_aload_n hX.1 dX8_couldBe_29 rfl rfl ?_
      refine k_callVf (d2 := 1) (n := 0) (as := []) hX.1 dX8_couldBe_30 lkX8_203 (fit_of hX (by omega) gmX8_sorts) rfl rfl (by decide) rfl rfl rfl (Nat.le_of_ble_eq_true rfl) (cM_sorts E (MW_pF hM (pF_w hy)) hW) ?_
      refine k_idiv hX.1 dX8_couldBe_33 (by omega) (by omega) ?_
      refine k_top (dg_i (nM_ A) c p) ?_
      refine k_istore_n hX.1 dX8_couldBe_34 rfl (by decide) rfl rfl ?_
      try simp only [List.set_cons_zero, List.set_cons_succ]
      refine k_iinc hX.1 dX8_couldBe_35 rfl (by decide) rfl rfl ?_
      try simp only [List.set_cons_zero, List.set_cons_succ]
      refine k_goto (tgt := 4) hX.1 dX8_couldBe_38 (by decide) ?_
      refine ih (p + 1) _ ⟨by omega, pF_w hy, fun q hq => ?_⟩
      by_cases e : q = p
      · subst e; rw [wr_at]; rfl
      · rw [wr_1, if_neg (by omega)]; exact hv q (by omega)

set_option maxRecDepth 100000 in
set_option maxHeartbeats 4000000 in
theorem cM_couldBe (E : En) {A : St} {g : Mm} {n : Int} (hM : MW A g) (hW : WW A n) {c : Nat} (hc : c < 7776) (hS : 0 < nM_ A) (hp1 : 1 ≤ A 12 0) : Ok E 3 mX8_couldBe [vR 46, vI (c : Int)] g (fun r g' => r = some (vI (vq A (fcd A c) ((A 12 0).toNat - 1))) ∧ pN A g c g') := by
  obtain ⟨⟨hm1, hm2, hm3⟩, hmp, hml⟩ := id hM
  obtain ⟨⟨hw1, hw2, hw3, hw4, hw5, hw6, hw7, hw8⟩, hwp, hwl⟩ := id hW
  obtain ⟨hb1, hb2, hb3, hb4⟩ := nm_bd hW
  refine Ok_of gmX8_couldBe (by omega) (Nat.le_of_ble_eq_true rfl) (fun X hX => ?_)
  show V E X 0 [some (vR 46), some (vI (c : Int)), none, none, none] [] g
  have e0 : (c : Int) = ((c / nM_ A ^ 0 : Nat) : Int) := by rw [Nat.pow_zero, Nat.div_one]
  refine k_iload_n hX.1 dX8_couldBe_0 rfl rfl ?_
  refine k_istore_n hX.1 dX8_couldBe_1 rfl (by decide) rfl rfl ?_
  try simp only [List.set_cons_zero, List.set_cons_succ]
  refine k_iconst hX.1 dX8_couldBe_2 ?_
  refine k_istore_n hX.1 dX8_couldBe_3 rfl (by decide) rfl rfl ?_
  try simp only [List.set_cons_zero, List.set_cons_succ]
  have h := lpM_cb1 E hM hW hc hS hp1 hX (A 12 0).toNat 0 g ⟨by omega, pF_rf g, fun q hq => by omega⟩
  rw [← e0] at h
  exact h

set_option maxRecDepth 100000 in
set_option maxHeartbeats 4000000 in
theorem lpM_fits (E : En) {A : St} {g : Mm} {n : Int} (hM : MW A g) (hW : WW A n) (hp1 : 1 ≤ A 12 0) {X : Cx} (hX : Wk E mX8_fitsNow X 4 (fun r g' => r = some (vI (wyC A)) ∧ pF g g')) : ∀ (m : Nat) (c : Nat) (u : Int) (h : Mm), m + c = nM_ A ^ (A 12 0).toNat ∧ pF g h ∧ u = sm (fun c => vq A (fcd A c) ((A 12 0).toNat - 1)) c → V E X 4 [some (vR 46), some (vI u), some (vI (c : Int))] [] h := by
  obtain ⟨⟨hm1, hm2, hm3⟩, hmp, hml⟩ := id hM
  obtain ⟨⟨hw1, hw2, hw3, hw4, hw5, hw6, hw7, hw8⟩, hwp, hwl⟩ := id hW
  obtain ⟨hb1, hb2, hb3, hb4⟩ := nm_bd hW
  have hpw := pow_bd (S := nM_ A) (p := (A 12 0).toNat) hb3 (by omega)
  intro m
  induction m with
  | zero =>
    intro c u h ⟨hm, hy, hu⟩
    refine k_iload_n hX.1 dX8_fitsNow_4 rfl rfl ?_
    refine k_aload_n hX.1 dX8_fitsNow_5 rfl rfl ?_
    refine k_callVf (d2 := 2) (n := 0) (as := []) hX.1 dX8_fitsNow_6 lkX8_209 (fit_of hX (by omega) gmX8_waysMany) rfl rfl (by decide) rfl rfl rfl (Nat.le_of_ble_eq_true rfl) (cM_waysMany E (MW_pF hM hy) hW) ?_
    refine k_icmp_ge (tgt := 34) hX.1 dX8_fitsNow_9 (by decide) (by omega) (by omega) (fun c_9 => ?_) (fun c_9 => ?_)
    · skip
      refine k_iload_n hX.1 dX8_fitsNow_34 rfl rfl ?_
      refine k_iret hX dX8_fitsNow_35 rfl ?_
      refine ⟨?_, hy⟩
      rw [hu, show c = nM_ A ^ (A 12 0).toNat by omega, fits_eq hw3 hw4 hp1]
    · skip
      exact absurd c_9 (by omega)
  | succ m ih =>
    intro c u h ⟨hm, hy, hu⟩
    have hS : 0 < nM_ A := by
      rcases Nat.eq_zero_or_pos (nM_ A) with z | z
      · rw [z, Nat.zero_pow (by omega)] at hm; omega
      · exact z
    have v1 := vq_01 A (fcd A c) ((A 12 0).toNat - 1)
    refine k_iload_n hX.1 dX8_fitsNow_4 rfl rfl ?_
    refine k_aload_n hX.1 dX8_fitsNow_5 rfl rfl ?_
    refine k_callVf (d2 := 2) (n := 0) (as := []) hX.1 dX8_fitsNow_6 lkX8_209 (fit_of hX (by omega) gmX8_waysMany) rfl rfl (by decide) rfl rfl rfl (Nat.le_of_ble_eq_true rfl) (cM_waysMany E (MW_pF hM hy) hW) ?_
    refine k_icmp_ge (tgt := 34) hX.1 dX8_fitsNow_9 (by decide) (by omega) (by omega) (fun c_9 => ?_) (fun c_9 => ?_)
    · skip
      exact absurd c_9 (by omega)
    · skip
      refine k_iload_n hX.1 dX8_fitsNow_12 rfl rfl ?_
      refine k_aload_n hX.1 dX8_fitsNow_13 rfl rfl ?_
      refine k_iload_n hX.1 dX8_fitsNow_14 rfl rfl ?_
      refine k_callV (d2 := 3) (n := 1) (as := [_]) hX.1 dX8_fitsNow_15 lkX8_212 (fit_of hX (by omega) gmX8_couldBe) rfl rfl (by decide) rfl rfl rfl (Nat.le_of_ble_eq_true rfl) (cM_couldBe E (MW_pF hM hy) hW (c := c) (by omega) hS hp1) (fun r_15 g_15 q_15 => ?_)
      obtain ⟨rfl, hy2⟩ := q_15
      show V E X 18 _ (vI _ :: _) _
      refine k_join1 26 (fun z => z = vq A (fcd A c) ((A 12 0).toNat - 1)) (fun x1 hx1 => ?_) (fun jn_18 => ?_)
      · skip
        subst hx1
        refine k_iadd hX.1 dX8_fitsNow_26 ?_
        refine k_istore_n hX.1 dX8_fitsNow_27 rfl (by decide) rfl rfl ?_
        try simp only [List.set_cons_zero, List.set_cons_succ]
        refine k_iinc hX.1 dX8_fitsNow_28 rfl (by decide) rfl rfl ?_
        try simp only [List.set_cons_zero, List.set_cons_succ]
        refine k_goto (tgt := 4) hX.1 dX8_fitsNow_31 (by decide) ?_
        exact ih (c + 1) _ _ ⟨by omega, pF_tr hy hy2.1, by rw [hu]; rfl⟩
      · refine k_if_eq (tgt := 25) hX.1 dX8_fitsNow_18 (by decide) (by omega) (fun c_18 => ?_) (fun c_18 => ?_)
        · skip
          refine k_iconst hX.1 dX8_fitsNow_25 ?_
          exact jn_18 _ (by omega)
        · skip
          refine k_iconst hX.1 dX8_fitsNow_21 ?_
          refine k_goto (tgt := 26) hX.1 dX8_fitsNow_22 (by decide) ?_
          exact jn_18 _ (by omega)

set_option maxRecDepth 100000 in
set_option maxHeartbeats 4000000 in
theorem cM_fitsNow (E : En) {A : St} {g : Mm} {n : Int} (hM : MW A g) (hW : WW A n) (hp1 : 1 ≤ A 12 0) : Ok E 4 mX8_fitsNow [vR 46] g (fun r g' => r = some (vI (wyC A)) ∧ pF g g') := by
  obtain ⟨⟨hm1, hm2, hm3⟩, hmp, hml⟩ := id hM
  obtain ⟨⟨hw1, hw2, hw3, hw4, hw5, hw6, hw7, hw8⟩, hwp, hwl⟩ := id hW
  obtain ⟨hb1, hb2, hb3, hb4⟩ := nm_bd hW
  refine Ok_of gmX8_fitsNow (by omega) (Nat.le_of_ble_eq_true rfl) (fun X hX => ?_)
  show V E X 0 [some (vR 46), none, none] [] g
  refine k_iconst hX.1 dX8_fitsNow_0 ?_
  refine k_istore_n hX.1 dX8_fitsNow_1 rfl (by decide) rfl rfl ?_
  try simp only [List.set_cons_zero, List.set_cons_succ]
  refine k_iconst hX.1 dX8_fitsNow_2 ?_
  refine k_istore_n hX.1 dX8_fitsNow_3 rfl (by decide) rfl rfl ?_
  try simp only [List.set_cons_zero, List.set_cons_succ]
  exact lpM_fits E hM hW hp1 hX (nM_ A ^ (A 12 0).toNat) 0 0 g ⟨by omega, pF_rf g, rfl⟩

set_option maxRecDepth 100000 in
set_option maxHeartbeats 4000000 in
theorem c8_fits (E : En) {A : St} {g : Mm} {n : Int} (hR : RM A g) (hW : Wf A n) : Ok E 6 mX8_fits [vR 46] g (fun r g' => r = some (vI (rFits A)) ∧ RM (A) g' ∧ sameC g g') := by
  have hM0 := hR.1
  have hW0 := hW.1
  obtain ⟨⟨⟨hm1, hm2, hm3⟩, hmp, hml⟩, ⟨hg1, hg2⟩, ⟨ht1, ht2, ht3, ⟨ht4, ht5⟩, ht6⟩, hmk⟩ := id hR
  obtain ⟨⟨⟨hw1, hw2, hw3, hw4, hw5, hw6, hw7, hw8⟩, hwp, hwl⟩, ⟨hq1, hq2, hq3⟩, ⟨hz1, ⟨hz2, hz3⟩, ⟨hz4, hz5⟩⟩, hwk⟩ := id hW
  refine Ok_of gmX8_fits (by omega) (Nat.le_of_ble_eq_true rfl) (fun X hX => ?_)
  show V E X 0 [some (vR 46)] [] g
  by_cases hz : A 12 0 = 0
  · skip
    refine k_aload_n hX.1 dX8_fits_0 rfl rfl ?_
    refine k_geti hX.1 dX8_fits_1 flX8_119 rfl (by decide) rfl ?_
    refine k_if_ne (tgt := 12) hX.1 dX8_fits_4 (by decide) (by omega) (fun c_4 => ?_) (fun c_4 => ?_)
    · skip
      exact absurd c_4 (by omega)
    · skip
      refine k_bipush hX.1 dX8_fits_7 (by decide) ?_
      refine k_goto (tgt := 16) hX.1 dX8_fits_9 (by decide) ?_
      refine k_iret hX dX8_fits_16 rfl ?_
      refine ⟨?_, hR, sameC.rf g⟩
      rw [rFits, if_pos hz]
  · skip
    refine k_aload_n hX.1 dX8_fits_0 rfl rfl ?_
    refine k_geti hX.1 dX8_fits_1 flX8_119 rfl (by decide) rfl ?_
    refine k_if_ne (tgt := 12) hX.1 dX8_fits_4 (by decide) (by omega) (fun c_4 => ?_) (fun c_4 => ?_)
    · skip
      refine k_aload_n hX.1 dX8_fits_12 rfl rfl ?_
      refine k_callV (d2 := 4) (n := 0) (as := []) hX.1 dX8_fits_13 lkX8_215 (fit_of hX (by omega) gmX8_fitsNow) rfl rfl (by decide) rfl rfl rfl (Nat.le_of_ble_eq_true rfl) (cM_fitsNow E hM0 hW0 (by omega)) (fun r_13 g_13 q_13 => ?_)
      obtain ⟨rfl, hy⟩ := q_13
      show V E X 16 _ (vI _ :: _) _
      refine k_iret hX dX8_fits_16 rfl ?_
      refine ⟨?_, RM_pF hR hy, sameC_pF hy⟩
      rw [rFits, if_neg hz]
    · skip
      exact absurd c_4 (by omega)

/-- the tones that part p has in the codes below c that fit -/
def LM (A : St) (p c : Nat) (x : Int) : Prop := ∃ k, k < c ∧ vq A (fcd A k) ((A 12 0).toNat - 1) = 1 ∧ fcd A k p = x
def sI (A : St) (p c : Nat) (t k : Int) : Prop := (-1 ≤ t ∧ t ≤ 40) ∧ ((k = 1 ∧ t = -1 ∧ ∀ x, ¬ LM A p c x) ∨ (k = 1 ∧ 0 ≤ t ∧ LM A p c t ∧ ∀ y, LM A p c y → y = t) ∨ (k = 0 ∧ ∃ x y, LM A p c x ∧ LM A p c y ∧ x ≠ y))
theorem LM_mono {A : St} {p c : Nat} {x : Int} (h : LM A p c x) : LM A p (c + 1) x := by
  obtain ⟨k, hk, h⟩ := h
  exact ⟨k, by omega, h⟩
theorem LM_new {A : St} {p c : Nat} {x : Int} (h : LM A p (c + 1) x) : LM A p c x ∨ (vq A (fcd A c) ((A 12 0).toNat - 1) = 1 ∧ fcd A c p = x) := by
  obtain ⟨k, hk, h⟩ := h
  by_cases z : k = c
  · subst z; exact Or.inr h
  · exact Or.inl ⟨k, by omega, h⟩
theorem sI_0 {A : St} {p : Nat} : sI A p 0 (-1) 1 := ⟨by omega, Or.inl ⟨rfl, rfl, fun x ⟨k, hk, _⟩ => by omega⟩⟩
theorem sI_n {A : St} {p c : Nat} {t k : Int} (h : sI A p c t k) (hv : vq A (fcd A c) ((A 12 0).toNat - 1) = 0) : sI A p (c + 1) t k := by
  obtain ⟨hb, h⟩ := h
  have e : ∀ x, LM A p (c + 1) x → LM A p c x := fun x hx => by
    rcases LM_new hx with z | z
    · exact z
    · omega
  refine ⟨hb, ?_⟩
  rcases h with ⟨a, b, d⟩ | ⟨a, b, d, f⟩ | ⟨a, x, y, b, d, f⟩
  · exact Or.inl ⟨a, b, fun x hx => d x (e x hx)⟩
  · exact Or.inr (Or.inl ⟨a, b, LM_mono d, fun y hy => f y (e y hy)⟩)
  · exact Or.inr (Or.inr ⟨a, x, y, LM_mono b, LM_mono d, f⟩)
theorem sI_y {A : St} {p c : Nat} {t k v : Int} (h : sI A p c t k) (hv : vq A (fcd A c) ((A 12 0).toNat - 1) = 1) (he : fcd A c p = v) (hb : 0 ≤ v ∧ v ≤ 40) : sI A p (c + 1) v (if k = 1 ∧ (t = -1 ∨ t = v) then 1 else 0) := by
  obtain ⟨-, h⟩ := h
  have new : LM A p (c + 1) v := ⟨c, by omega, hv, he⟩
  refine ⟨by omega, ?_⟩
  rcases h with ⟨a, b, d⟩ | ⟨a, b, d, f⟩ | ⟨a, x, y, b, d, f⟩
  · rw [if_pos (by omega)]
    refine Or.inr (Or.inl ⟨rfl, hb.1, new, fun y hy => ?_⟩)
    rcases LM_new hy with z | z
    · exact absurd z (d y)
    · omega
  · by_cases z : t = v
    · rw [if_pos (by omega)]
      refine Or.inr (Or.inl ⟨rfl, hb.1, new, fun y hy => ?_⟩)
      rcases LM_new hy with w | w
      · rw [f y w, z]
      · omega
    · rw [if_neg (by omega)]
      exact Or.inr (Or.inr ⟨rfl, t, v, LM_mono d, new, z⟩)
  · rw [if_neg (by omega)]
    exact Or.inr (Or.inr ⟨rfl, x, y, LM_mono b, LM_mono d, f⟩)
theorem sI_e {A : St} {n : Int} (hW : WW A n) {p : Nat} (hp : (p : Int) < A 12 0) {t k : Int} (h : sI A p (nM_ A ^ (A 12 0).toNat) t k) : srV A p = if k = 0 then -1 else t := by
  have e : ∀ x, LC A p x ↔ LM A p (nM_ A ^ (A 12 0).toNat) x := fun x => LC_iff hW hp x
  refine srV_eq ?_
  obtain ⟨-, h⟩ := h
  rcases h with ⟨a, b, d⟩ | ⟨a, b, d, f⟩ | ⟨a, x, y, b, d, f⟩
  · rw [if_neg (by omega)]
    exact Or.inl ⟨b, Or.inl (fun x hx => d x ((e x).1 hx))⟩
  · rw [if_neg (by omega)]
    exact Or.inr ⟨b, (e t).2 d, fun y hy => f y ((e y).1 hy)⟩
  · rw [if_pos a]
    exact Or.inl ⟨rfl, Or.inr ⟨x, y, (e x).2 b, (e y).2 d, f⟩⟩
set_option maxRecDepth 100000 in
set_option maxHeartbeats 4000000 in
theorem lpM_sure (E : En) {A : St} {g : Mm} {n : Int} (hM : MW A g) (hW : WW A n) {p : Nat} (hp : (p : Int) < A 12 0) {X : Cx} (hX : Wk E mX8_sureNow X 4 (fun r g' => r = some (vI (srV A p)) ∧ pF g g')) : ∀ (m : Nat) (c : Nat) (t k : Int) (h : Mm), m + c = nM_ A ^ (A 12 0).toNat ∧ pF g h ∧ sI A p c t k → V E X 7 [some (vR 46), some (vI (p : Int)), some (vI t), some (vI k), some (vI (c : Int))] [] h := by
  obtain ⟨⟨hm1, hm2, hm3⟩, hmp, hml⟩ := id hM
  obtain ⟨⟨hw1, hw2, hw3, hw4, hw5, hw6, hw7, hw8⟩, hwp, hwl⟩ := id hW
  obtain ⟨hb1, hb2, hb3, hb4⟩ := nm_bd hW
  have hpw := pow_bd (S := nM_ A) (p := (A 12 0).toNat) hb3 (by omega)
  intro m
  induction m with
  | zero =>
    intro c t k h ⟨hm, hy, hs⟩
    obtain rfl : c = nM_ A ^ (A 12 0).toNat := by omega
    have he := sI_e hW hp hs
    have hk : k = 0 ∨ k = 1 := by rcases hs.2 with z | z | z <;> omega
    have htb := hs.1
    refine k_iload hX.1 dX8_sureNow_7 rfl ?_
    refine k_aload_n hX.1 dX8_sureNow_9 rfl rfl ?_
    refine k_callVf (d2 := 2) (n := 0) (as := []) hX.1 dX8_sureNow_10 lkX8_209 (fit_of hX (by omega) gmX8_waysMany) rfl rfl (by decide) rfl rfl rfl (Nat.le_of_ble_eq_true rfl) (cM_waysMany E (MW_pF hM hy) hW) ?_
    refine k_icmp_ge (tgt := 63) hX.1 dX8_sureNow_13 (by decide) (by omega) (by omega) (fun c_13 => ?_) (fun c_13 => ?_)
    · skip
      refine k_iload_n hX.1 dX8_sureNow_63 rfl rfl ?_
      refine k_if_eq (tgt := 71) hX.1 dX8_sureNow_64 (by decide) (by omega) (fun c_64 => ?_) (fun c_64 => ?_)
      · skip
        refine k_iconst hX.1 dX8_sureNow_71 ?_
        refine k_iret hX dX8_sureNow_72 rfl ?_
        refine ⟨?_, hy⟩
        rw [he]
        first | rw [if_pos (by omega)] | rw [if_neg (by omega)]
      · skip
        refine k_iload_n hX.1 dX8_sureNow_67 rfl rfl ?_
        refine k_goto (tgt := 72) hX.1 dX8_sureNow_68 (by decide) ?_
        refine k_iret hX dX8_sureNow_72 rfl ?_
        refine ⟨?_, hy⟩
        rw [he]
        first | rw [if_pos (by omega)] | rw [if_neg (by omega)]
    · skip
      exact absurd c_13 (by omega)
  | succ m ih =>
    intro c t k h ⟨hm, hy, hs⟩
    have hS : 0 < nM_ A := by
      rcases Nat.eq_zero_or_pos (nM_ A) with z | z
      · rw [z, Nat.zero_pow (by omega)] at hm; omega
      · exact z
    have v1 := vq_01 A (fcd A c) ((A 12 0).toNat - 1)
    have hk : k = 0 ∨ k = 1 := by rcases hs.2 with z | z | z <;> omega
    have htb := hs.1
    have fb : 0 ≤ fcd A c p ∧ fcd A c p ≤ 40 := tM_bd hW (dgt_lt hS c p)
    refine k_iload hX.1 dX8_sureNow_7 rfl ?_
    refine k_aload_n hX.1 dX8_sureNow_9 rfl rfl ?_
    refine k_callVf (d2 := 2) (n := 0) (as := []) hX.1 dX8_sureNow_10 lkX8_209 (fit_of hX (by omega) gmX8_waysMany) rfl rfl (by decide) rfl rfl rfl (Nat.le_of_ble_eq_true rfl) (cM_waysMany E (MW_pF hM hy) hW) ?_
    refine k_icmp_ge (tgt := 63) hX.1 dX8_sureNow_13 (by decide) (by omega) (by omega) (fun c_13 => ?_) (fun c_13 => ?_)
    · skip
      exact absurd c_13 (by omega)
    · skip
      refine k_aload_n hX.1 dX8_sureNow_16 rfl rfl ?_
      refine k_iload hX.1 dX8_sureNow_17 rfl ?_
      refine k_callV (d2 := 3) (n := 1) (as := [_]) hX.1 dX8_sureNow_19 lkX8_212 (fit_of hX (by omega) gmX8_couldBe) rfl rfl (by decide) rfl rfl rfl (Nat.le_of_ble_eq_true rfl) (cM_couldBe E (MW_pF hM hy) hW (c := c) (by omega) hS (by omega)) (fun r_19 g_19 q_19 => ?_)
      obtain ⟨rfl, hy2⟩ := q_19
      show V E X 22 _ (vI _ :: _) _
      have hy3 := pF_tr hy hy2.1
      have t1 := hy2.2 p hp
      refine k_if_eq (tgt := 57) hX.1 dX8_sureNow_22 (by decide) (by omega) (fun c_22 => ?_) (fun c_22 => ?_)
      · skip
        have hs2 := sI_n hs (by omega)
        refine k_iinc hX.1 dX8_sureNow_57 rfl (by decide) rfl rfl ?_
        try simp only [List.set_cons_zero, List.set_cons_succ]
        refine k_goto (tgt := 7) hX.1 dX8_sureNow_60 (by decide) ?_
        exact ih (c + 1) _ _ _ ⟨by omega, hy3, hs2⟩
      · skip
        have hs2 := sI_y hs (by omega) rfl fb
        refine k_iload_n hX.1 dX8_sureNow_25 rfl rfl ?_
        refine k_join1 49 (fun z => z = if k = 1 ∧ (t = -1 ∨ t = fcd A c p) then 1 else 0) (fun x1 hx1 => ?_) (fun jn_26 => ?_)
        · skip
          subst hx1
          refine k_istore_n hX.1 dX8_sureNow_49 rfl (by decide) rfl rfl ?_
          try simp only [List.set_cons_zero, List.set_cons_succ]
          refine k_aload_n hX.1 dX8_sureNow_50 rfl rfl ?_
          refine k_getr (t := 59) hX.1 dX8_sureNow_51 flX8_47 rfl (by decide) rfl rfl ?_
          refine k_iload_n hX.1 dX8_sureNow_54 rfl rfl ?_
          refine k_iald (j := p) hX.1 dX8_sureNow_55 rfl (by omega) (n := 5) rfl (by omega) (by omega) ?_
          refine k_top t1 ?_
          refine k_istore_n hX.1 dX8_sureNow_56 rfl (by decide) rfl rfl ?_
          try simp only [List.set_cons_zero, List.set_cons_succ]
          refine k_iinc hX.1 dX8_sureNow_57 rfl (by decide) rfl rfl ?_
          try simp only [List.set_cons_zero, List.set_cons_succ]
          refine k_goto (tgt := 7) hX.1 dX8_sureNow_60 (by decide) ?_
          exact ih (c + 1) _ _ _ ⟨by omega, hy3, hs2⟩
        · refine k_if_eq (tgt := 48) hX.1 dX8_sureNow_26 (by decide) (by omega) (fun c_26 => ?_) (fun c_26 => ?_)
          · skip
            refine k_iconst hX.1 dX8_sureNow_48 ?_
            exact jn_26 _ (by first | rw [if_pos (by omega)] | rw [if_neg (by omega)])
          · skip
            refine k_iload_n hX.1 dX8_sureNow_29 rfl rfl ?_
            refine k_iconst hX.1 dX8_sureNow_30 ?_
            refine k_icmp_eq (tgt := 44) hX.1 dX8_sureNow_31 (by decide) (by omega) (by omega) (fun c_31 => ?_) (fun c_31 => ?_)
            · skip
              refine k_iconst hX.1 dX8_sureNow_44 ?_
              refine k_goto (tgt := 49) hX.1 dX8_sureNow_45 (by decide) ?_
              exact jn_26 _ (by first | rw [if_pos (by omega)] | rw [if_neg (by omega)])
            · skip
              refine k_iload_n hX.1 dX8_sureNow_34 rfl rfl ?_
              refine k_aload_n hX.1 dX8_sureNow_35 rfl rfl ?_
              refine k_getr (t := 59) hX.1 dX8_sureNow_36 flX8_47 rfl (by decide) rfl rfl ?_
              refine k_iload_n hX.1 dX8_sureNow_39 rfl rfl ?_
              refine k_iald (j := p) hX.1 dX8_sureNow_40 rfl (by omega) (n := 5) rfl (by omega) (by omega) ?_
              refine k_top t1 ?_
              refine k_icmp_ne (tgt := 48) hX.1 dX8_sureNow_41 (by decide) (by omega) (by omega) (fun c_41 => ?_) (fun c_41 => ?_)
              · skip
                refine k_iconst hX.1 dX8_sureNow_48 ?_
                exact jn_26 _ (by first | rw [if_pos (by omega)] | rw [if_neg (by omega)])
              · skip
                refine k_iconst hX.1 dX8_sureNow_44 ?_
                refine k_goto (tgt := 49) hX.1 dX8_sureNow_45 (by decide) ?_
                exact jn_26 _ (by first | rw [if_pos (by omega)] | rw [if_neg (by omega)])

set_option maxRecDepth 100000 in
set_option maxHeartbeats 4000000 in
theorem cM_sureNow (E : En) {A : St} {g : Mm} {n : Int} (hM : MW A g) (hW : WW A n) {p : Nat} (hp : (p : Int) < A 12 0) : Ok E 4 mX8_sureNow [vR 46, vI (p : Int)] g (fun r g' => r = some (vI (srV A p)) ∧ pF g g') := by
  obtain ⟨⟨hm1, hm2, hm3⟩, hmp, hml⟩ := id hM
  obtain ⟨⟨hw1, hw2, hw3, hw4, hw5, hw6, hw7, hw8⟩, hwp, hwl⟩ := id hW
  obtain ⟨hb1, hb2, hb3, hb4⟩ := nm_bd hW
  refine Ok_of gmX8_sureNow (by omega) (Nat.le_of_ble_eq_true rfl) (fun X hX => ?_)
  show V E X 0 [some (vR 46), some (vI (p : Int)), none, none, none] [] g
  refine k_iconst hX.1 dX8_sureNow_0 ?_
  refine k_istore_n hX.1 dX8_sureNow_1 rfl (by decide) rfl rfl ?_
  try simp only [List.set_cons_zero, List.set_cons_succ]
  refine k_iconst hX.1 dX8_sureNow_2 ?_
  refine k_istore_n hX.1 dX8_sureNow_3 rfl (by decide) rfl rfl ?_
  try simp only [List.set_cons_zero, List.set_cons_succ]
  refine k_iconst hX.1 dX8_sureNow_4 ?_
  refine k_istore hX.1 dX8_sureNow_5 (by decide) rfl rfl ?_
  try simp only [List.set_cons_zero, List.set_cons_succ]
  exact lpM_sure E hM hW hp hX (nM_ A ^ (A 12 0).toNat) 0 (-1) 1 g ⟨by omega, pF_rf g, sI_0⟩

set_option maxRecDepth 100000 in
set_option maxHeartbeats 4000000 in
theorem c8_sure (E : En) {A : St} {g : Mm} {n : Int} (hR : RM A g) (hW : Wf A n) {q : Int} (hq : bd q) : Ok E 6 mX8_sure [vR 46, vI q] g (fun r g' => r = some (vI (rSure A q)) ∧ RM (A) g' ∧ sameC g g') := by
  have hM0 := hR.1
  have hW0 := hW.1
  obtain ⟨⟨⟨hm1, hm2, hm3⟩, hmp, hml⟩, ⟨hg1, hg2⟩, ⟨ht1, ht2, ht3, ⟨ht4, ht5⟩, ht6⟩, hmk⟩ := id hR
  obtain ⟨⟨⟨hw1, hw2, hw3, hw4, hw5, hw6, hw7, hw8⟩, hwp, hwl⟩, ⟨hq1, hq2, hq3⟩, ⟨hz1, ⟨hz2, hz3⟩, ⟨hz4, hz5⟩⟩, hwk⟩ := id hW
  refine Ok_of gmX8_sure (by omega) (Nat.le_of_ble_eq_true rfl) (fun X hX => ?_)
  show V E X 0 [some (vR 46), some (vI q)] [] g
  by_cases i1 : 0 ≤ q ∧ q < A 12 0
  · skip
    obtain ⟨p, rfl⟩ : ∃ m : Nat, q = (m : Int) := ⟨q.toNat, by omega⟩
    refine k_aload_n hX.1 dX8_sure_0 rfl rfl ?_
    refine k_iload_n hX.1 dX8_sure_1 rfl rfl ?_
    refine k_callVf (d2 := 2) (n := 1) (as := [_]) hX.1 dX8_sure_2 lkX8_148 (fit_of hX (by omega) gmX8_isPart) rfl rfl (by decide) rfl rfl rfl (Nat.le_of_ble_eq_true rfl) (cM_isPart1 E g (by omega) (by omega) (by omega)) ?_
    refine k_if_eq (tgt := 16) hX.1 dX8_sure_5 (by decide) (by omega) (fun c_5 => ?_) (fun c_5 => ?_)
    · skip
      exact absurd c_5 (by decide)
    · skip
      refine k_aload_n hX.1 dX8_sure_8 rfl rfl ?_
      refine k_iload_n hX.1 dX8_sure_9 rfl rfl ?_
      refine k_callV (d2 := 4) (n := 1) (as := [_]) hX.1 dX8_sure_10 lkX8_218 (fit_of hX (by omega) gmX8_sureNow) rfl rfl (by decide) rfl rfl rfl (Nat.le_of_ble_eq_true rfl) (cM_sureNow E hM0 hW0 (p := p) (by omega)) (fun r_10 g_10 q_10 => ?_)
      obtain ⟨rfl, hy⟩ := q_10
      show V E X 13 _ (vI _ :: _) _
      refine k_goto (tgt := 18) hX.1 dX8_sure_13 (by decide) ?_
      refine k_iret hX dX8_sure_18 rfl ?_
      refine ⟨?_, RM_pF hR hy, sameC_pF hy⟩
      rw [rSure, if_pos i1, Int.toNat_natCast]
  · skip
    refine k_aload_n hX.1 dX8_sure_0 rfl rfl ?_
    refine k_iload_n hX.1 dX8_sure_1 rfl rfl ?_
    refine k_callVf (d2 := 2) (n := 1) (as := [_]) hX.1 dX8_sure_2 lkX8_148 (fit_of hX (by omega) gmX8_isPart) rfl rfl (by decide) rfl rfl rfl (Nat.le_of_ble_eq_true rfl) (cM_isPart0 E g (by omega) (by omega) (by omega)) ?_
    refine k_if_eq (tgt := 16) hX.1 dX8_sure_5 (by decide) (by omega) (fun c_5 => ?_) (fun c_5 => ?_)
    · skip
      refine k_bipush hX.1 dX8_sure_16 (by decide) ?_
      refine k_iret hX dX8_sure_18 rfl ?_
      refine ⟨?_, hR, sameC.rf g⟩
      rw [rSure, if_neg i1]
    · skip
      exact absurd rfl c_5
