set_option maxRecDepth 100000 in
set_option maxHeartbeats 4000000 in
theorem cG_ms (E : En) (g : Mm) {x i e : Int} (hx : 0 ≤ x ∧ x < 128) (hi : 0 ≤ i ∧ i ≤ 20) (he : -1 ≤ e ∧ e ≤ 20) : Fn E 5 mX3_mayStand [vI x, vI i, vI e] g (vI (msI x i e)) := by
  have kb := kix_bd x
  refine Ok_of gmX3_mayStand (by omega) (Nat.le_of_ble_eq_true rfl) (fun X hX => ?_)
  show V E X 0 [some (vI x), some (vI i), some (vI e), none] [] g
  refine k_iload_n hX.1 dX3_mayStand_0 rfl rfl ?_
  refine k_iconst hX.1 dX3_mayStand_1 ?_
  refine k_icmp_eq (tgt := 30) hX.1 dX3_mayStand_2 (by decide) (by omega) (by omega) (fun c_2 => ?_) (fun c_2 => ?_)
  · skip
    refine k_iload_n hX.1 dX3_mayStand_30 rfl rfl ?_
    refine k_iconst hX.1 dX3_mayStand_31 ?_
    refine k_irem hX.1 dX3_mayStand_32 (by omega) (by omega) ?_
    refine k_if_ne (tgt := 52) hX.1 dX3_mayStand_33 (by decide) (by omega) (fun c_33 => ?_) (fun c_33 => ?_)
    · skip
      refine k_iload_n hX.1 dX3_mayStand_52 rfl rfl ?_
      refine k_iconst hX.1 dX3_mayStand_53 ?_
      refine k_irem hX.1 dX3_mayStand_54 (by omega) (by omega) ?_
      refine k_iconst hX.1 dX3_mayStand_55 ?_
      refine k_icmp_ne (tgt := 77) hX.1 dX3_mayStand_56 (by decide) (by omega) (by omega) (fun c_56 => ?_) (fun c_56 => ?_)
      · skip
        refine k_iload_n hX.1 dX3_mayStand_77 rfl rfl ?_
        refine k_iconst hX.1 dX3_mayStand_78 ?_
        refine k_iadd hX.1 dX3_mayStand_79 ?_
        refine k_iconst hX.1 dX3_mayStand_80 ?_
        refine k_idiv hX.1 dX3_mayStand_81 (by omega) (by omega) ?_
        refine k_istore_n hX.1 dX3_mayStand_82 rfl (by decide) rfl rfl ?_
        try simp only [List.set_cons_zero, List.set_cons_succ]
        refine k_iload_n hX.1 dX3_mayStand_83 rfl rfl ?_
        refine k_bipush hX.1 dX3_mayStand_84 (by decide) ?_
        refine k_icmp_ne (tgt := 100) hX.1 dX3_mayStand_86 (by decide) (by omega) (by omega) (fun c_86 => ?_) (fun c_86 => ?_)
        · skip
          refine k_iload_n hX.1 dX3_mayStand_100 rfl rfl ?_
          refine k_bipush hX.1 dX3_mayStand_101 (by decide) ?_
          refine k_icmp_ne (tgt := 115) hX.1 dX3_mayStand_103 (by decide) (by omega) (by omega) (fun c_103 => ?_) (fun c_103 => ?_)
          · skip
            refine k_iconst hX.1 dX3_mayStand_115 ?_
            refine k_zret hX dX3_mayStand_116 rfl (by omega) ?_
            refine ⟨?_, rfl⟩
            congr 2
            unfold msI
            (repeat first | rw [if_pos (by omega)] | rw [if_neg (by omega)])
          · skip
            refine k_iload_n hX.1 dX3_mayStand_106 rfl rfl ?_
            refine k_iconst hX.1 dX3_mayStand_107 ?_
            refine k_icmp_lt (tgt := 115) hX.1 dX3_mayStand_108 (by decide) (by omega) (by omega) (fun c_108 => ?_) (fun c_108 => ?_)
            · skip
              refine k_iconst hX.1 dX3_mayStand_115 ?_
              refine k_zret hX dX3_mayStand_116 rfl (by omega) ?_
              refine ⟨?_, rfl⟩
              congr 2
              unfold msI
              (repeat first | rw [if_pos (by omega)] | rw [if_neg (by omega)])
            · skip
              refine k_iconst hX.1 dX3_mayStand_111 ?_
              refine k_goto (tgt := 116) hX.1 dX3_mayStand_112 (by decide) ?_
              refine k_zret hX dX3_mayStand_116 rfl (by omega) ?_
              refine ⟨?_, rfl⟩
              congr 2
              unfold msI
              (repeat first | rw [if_pos (by omega)] | rw [if_neg (by omega)])
        · skip
          refine k_iload_n hX.1 dX3_mayStand_89 rfl rfl ?_
          refine k_iconst hX.1 dX3_mayStand_90 ?_
          refine k_icmp_ge (tgt := 98) hX.1 dX3_mayStand_91 (by decide) (by omega) (by omega) (fun c_91 => ?_) (fun c_91 => ?_)
          · skip
            refine k_iconst hX.1 dX3_mayStand_98 ?_
            refine k_zret hX dX3_mayStand_99 rfl (by omega) ?_
            refine ⟨?_, rfl⟩
            congr 2
            unfold msI
            (repeat first | rw [if_pos (by omega)] | rw [if_neg (by omega)])
          · skip
            refine k_iconst hX.1 dX3_mayStand_94 ?_
            refine k_goto (tgt := 99) hX.1 dX3_mayStand_95 (by decide) ?_
            refine k_zret hX dX3_mayStand_99 rfl (by omega) ?_
            refine ⟨?_, rfl⟩
            congr 2
            unfold msI
            (repeat first | rw [if_pos (by omega)] | rw [if_neg (by omega)])
      · skip
        refine k_iload_n hX.1 dX3_mayStand_59 rfl rfl ?_
        refine k_bipush hX.1 dX3_mayStand_60 (by decide) ?_
        refine k_icmp_lt (tgt := 75) hX.1 dX3_mayStand_62 (by decide) (by omega) (by omega) (fun c_62 => ?_) (fun c_62 => ?_)
        · skip
          refine k_iconst hX.1 dX3_mayStand_75 ?_
          refine k_zret hX dX3_mayStand_76 rfl (by omega) ?_
          refine ⟨?_, rfl⟩
          congr 2
          unfold msI
          (repeat first | rw [if_pos (by omega)] | rw [if_neg (by omega)])
        · skip
          refine k_iload_n hX.1 dX3_mayStand_65 rfl rfl ?_
          refine k_bipush hX.1 dX3_mayStand_66 (by decide) ?_
          refine k_icmp_gt (tgt := 75) hX.1 dX3_mayStand_68 (by decide) (by omega) (by omega) (fun c_68 => ?_) (fun c_68 => ?_)
          · skip
            refine k_iconst hX.1 dX3_mayStand_75 ?_
            refine k_zret hX dX3_mayStand_76 rfl (by omega) ?_
            refine ⟨?_, rfl⟩
            congr 2
            unfold msI
            (repeat first | rw [if_pos (by omega)] | rw [if_neg (by omega)])
          · skip
            refine k_iconst hX.1 dX3_mayStand_71 ?_
            refine k_goto (tgt := 76) hX.1 dX3_mayStand_72 (by decide) ?_
            refine k_zret hX dX3_mayStand_76 rfl (by omega) ?_
            refine ⟨?_, rfl⟩
            congr 2
            unfold msI
            (repeat first | rw [if_pos (by omega)] | rw [if_neg (by omega)])
    · skip
      refine k_ldcs hX.1 dX3_mayStand_36 (Or.inl ⟨rfl, rfl⟩) ?_
      refine k_iload_n hX.1 dX3_mayStand_38 rfl rfl ?_
      refine k_i2c hX.1 dX3_mayStand_39 (by omega) ?_
      refine k_callTf (d2 := 4) (n := 1) (as := [_]) hX.1 dX3_mayStand_40 lkX3_25 (fit_of hX (by omega) gmJ0_indexOf_0f7a4) rfl rfl rfl (Nat.le_of_ble_eq_true rfl) (cJ_ix E g (by omega)) ?_
      refine k_if_lt (tgt := 50) hX.1 dX3_mayStand_43 (by decide) (by omega) (fun c_43 => ?_) (fun c_43 => ?_)
      · skip
        refine k_iconst hX.1 dX3_mayStand_50 ?_
        refine k_zret hX dX3_mayStand_51 rfl (by omega) ?_
        refine ⟨?_, rfl⟩
        congr 2
        unfold msI
        (repeat first | rw [if_pos (by omega)] | rw [if_neg (by omega)])
      · skip
        refine k_iconst hX.1 dX3_mayStand_46 ?_
        refine k_goto (tgt := 51) hX.1 dX3_mayStand_47 (by decide) ?_
        refine k_zret hX dX3_mayStand_51 rfl (by omega) ?_
        refine ⟨?_, rfl⟩
        congr 2
        unfold msI
        (repeat first | rw [if_pos (by omega)] | rw [if_neg (by omega)])
  · skip
    refine k_iload_n hX.1 dX3_mayStand_5 rfl rfl ?_
    refine k_iload_n hX.1 dX3_mayStand_6 rfl rfl ?_
    refine k_iconst hX.1 dX3_mayStand_7 ?_
    refine k_iadd hX.1 dX3_mayStand_8 ?_
    refine k_icmp_ne (tgt := 28) hX.1 dX3_mayStand_9 (by decide) (by omega) (by omega) (fun c_9 => ?_) (fun c_9 => ?_)
    · skip
      refine k_iconst hX.1 dX3_mayStand_28 ?_
      refine k_zret hX dX3_mayStand_29 rfl (by omega) ?_
      refine ⟨?_, rfl⟩
      congr 2
      unfold msI
      (repeat first | rw [if_pos (by omega)] | rw [if_neg (by omega)])
    · skip
      refine k_iload_n hX.1 dX3_mayStand_12 rfl rfl ?_
      refine k_bipush hX.1 dX3_mayStand_13 (by decide) ?_
      refine k_icmp_lt (tgt := 28) hX.1 dX3_mayStand_15 (by decide) (by omega) (by omega) (fun c_15 => ?_) (fun c_15 => ?_)
      · skip
        refine k_iconst hX.1 dX3_mayStand_28 ?_
        refine k_zret hX dX3_mayStand_29 rfl (by omega) ?_
        refine ⟨?_, rfl⟩
        congr 2
        unfold msI
        (repeat first | rw [if_pos (by omega)] | rw [if_neg (by omega)])
      · skip
        refine k_iload_n hX.1 dX3_mayStand_18 rfl rfl ?_
        refine k_bipush hX.1 dX3_mayStand_19 (by decide) ?_
        refine k_icmp_gt (tgt := 28) hX.1 dX3_mayStand_21 (by decide) (by omega) (by omega) (fun c_21 => ?_) (fun c_21 => ?_)
        · skip
          refine k_iconst hX.1 dX3_mayStand_28 ?_
          refine k_zret hX dX3_mayStand_29 rfl (by omega) ?_
          refine ⟨?_, rfl⟩
          congr 2
          unfold msI
          (repeat first | rw [if_pos (by omega)] | rw [if_neg (by omega)])
        · skip
          refine k_iconst hX.1 dX3_mayStand_24 ?_
          refine k_goto (tgt := 29) hX.1 dX3_mayStand_25 (by decide) ?_
          refine k_zret hX dX3_mayStand_29 rfl (by omega) ?_
          refine ⟨?_, rfl⟩
          congr 2
          unfold msI
          (repeat first | rw [if_pos (by omega)] | rw [if_neg (by omega)])

theorem rF_bd (A : St) (hq : 0 ≤ A 12 3) : 0 ≤ rFault A ∧ rFault A ≤ A 12 3 := by
  have := ffr_bd (A 11) (A 12 3).toNat 0 (-1)
  unfold rFault
  omega
set_option maxRecDepth 100000 in
set_option maxHeartbeats 4000000 in
theorem lp_ff (E : En) {A : St} {g : Mm} (hP : CPg A g) (hW : WPg A) {X : Cx} (hX : Wk E mX3_firstFault X 6 (fun r g' => r = some (vI (rFault A)) ∧ g' = g)) : ∀ (m : Nat) (i : Nat) (e : Int), (m : Int) + i = A 12 3 ∧ (-1 ≤ e ∧ e < i) ∧ ffr (A 11) m i e = rFault A → V E X 4 [some (vR 1), some (vI e), some (vI (i : Int))] [] g := by
  obtain ⟨hg1, hg2⟩ := hP
  obtain ⟨hq1, hq2, hq3⟩ := hW
  intro m
  induction m with
  | zero =>
    intro i e hm
    refine k_iload_n hX.1 dX3_firstFault_4 rfl rfl ?_
    refine k_aload_n hX.1 dX3_firstFault_5 rfl rfl ?_
    refine k_geti hX.1 dX3_firstFault_6 flX3_15 rfl (by decide) rfl ?_
    refine k_icmp_ge (tgt := 47) hX.1 dX3_firstFault_9 (by decide) (by omega) (by omega) (fun c_9 => ?_) (fun c_9 => ?_)
    · skip
      refine k_aload_n hX.1 dX3_firstFault_47 rfl rfl ?_
      refine k_geti hX.1 dX3_firstFault_48 flX3_15 rfl (by decide) rfl ?_
      refine k_iret hX dX3_firstFault_51 rfl ?_
      refine ⟨?_, rfl⟩
      rw [← hm.2.2]
      unfold ffr
      congr 2
      omega
    · skip
      exact absurd c_9 (by omega)
  | succ m ih =>
    intro i e hm
    have c0 := hg2 i (by omega)
    have c1 := hq3 i (by omega)
    have c2 := msI_01 (g.1 2 i) (i : Int) e
    have c3 := msI_01 (A 11 i) (i : Int) e
    refine k_iload_n hX.1 dX3_firstFault_4 rfl rfl ?_
    refine k_aload_n hX.1 dX3_firstFault_5 rfl rfl ?_
    refine k_geti hX.1 dX3_firstFault_6 flX3_15 rfl (by decide) rfl ?_
    refine k_icmp_ge (tgt := 47) hX.1 dX3_firstFault_9 (by decide) (by omega) (by omega) (fun c_9 => ?_) (fun c_9 => ?_)
    · skip
      exact absurd c_9 (by omega)
    · skip
      refine k_aload_n hX.1 dX3_firstFault_12 rfl rfl ?_
      refine k_getr (t := 2) hX.1 dX3_firstFault_13 flX3_9 rfl (by decide) rfl rfl ?_
      refine k_iload_n hX.1 dX3_firstFault_16 rfl rfl ?_
      refine k_iald (j := i) hX.1 dX3_firstFault_17 rfl (by omega) (n := 18) rfl (by omega) (by omega) ?_
      refine k_iload_n hX.1 dX3_firstFault_18 rfl rfl ?_
      refine k_iload_n hX.1 dX3_firstFault_19 rfl rfl ?_
      refine k_callSf (d2 := 5) (n := 3) (as := [_, _, _]) hX.1 dX3_firstFault_20 lkX3_19 (fit_of hX (by omega) gmX3_mayStand) rfl rfl (Nat.le_of_ble_eq_true rfl) (cG_ms E g (by omega) (by omega) (by omega)) ?_
      refine k_if_ne (tgt := 28) hX.1 dX3_firstFault_23 (by decide) (by omega) (fun c_23 => ?_) (fun c_23 => ?_)
      · skip
        have hs : msI (A 11 i) (i : Int) e = 1 := by rw [c0] at c_23 ; omega
        obtain ⟨h1, h2, h3⟩ := hm
        rw [ffr_s hs] at h3
        refine k_aload_n hX.1 dX3_firstFault_28 rfl rfl ?_
        refine k_getr (t := 2) hX.1 dX3_firstFault_29 flX3_9 rfl (by decide) rfl rfl ?_
        refine k_iload_n hX.1 dX3_firstFault_32 rfl rfl ?_
        refine k_iald (j := i) hX.1 dX3_firstFault_33 rfl (by omega) (n := 18) rfl (by omega) (by omega) ?_
        refine k_bipush hX.1 dX3_firstFault_34 (by decide) ?_
        refine k_icmp_ne (tgt := 41) hX.1 dX3_firstFault_36 (by decide) (by omega) (by omega) (fun c_36 => ?_) (fun c_36 => ?_)
        · skip
          rw [if_neg (by omega)] at h3
          refine k_iinc hX.1 dX3_firstFault_41 rfl (by decide) rfl rfl ?_
          try simp only [List.set_cons_zero, List.set_cons_succ]
          refine k_goto (tgt := 4) hX.1 dX3_firstFault_44 (by decide) ?_
          exact ih (i + 1) _ ⟨by omega, by omega, h3⟩
        · skip
          rw [if_pos (by omega)] at h3
          refine k_iload_n hX.1 dX3_firstFault_39 rfl rfl ?_
          refine k_istore_n hX.1 dX3_firstFault_40 rfl (by decide) rfl rfl ?_
          try simp only [List.set_cons_zero, List.set_cons_succ]
          refine k_iinc hX.1 dX3_firstFault_41 rfl (by decide) rfl rfl ?_
          try simp only [List.set_cons_zero, List.set_cons_succ]
          refine k_goto (tgt := 4) hX.1 dX3_firstFault_44 (by decide) ?_
          exact ih (i + 1) _ ⟨by omega, by omega, h3⟩
      · skip
        have hs : ¬ msI (A 11 i) (i : Int) e = 1 := by rw [c0] at c_23 ; omega
        obtain ⟨h1, h2, h3⟩ := hm
        rw [ffr_n hs] at h3
        refine k_iload_n hX.1 dX3_firstFault_26 rfl rfl ?_
        refine k_iret hX dX3_firstFault_27 rfl ?_
        refine ⟨?_, rfl⟩
        rw [← h3]

set_option maxRecDepth 100000 in
set_option maxHeartbeats 4000000 in
theorem cG_ff (E : En) {A : St} {g : Mm} (hP : CPg A g) (hW : WPg A) : Fn E 6 mX3_firstFault [vR 1] g (vI (rFault A)) := by
  refine Ok_of gmX3_firstFault (by omega) (Nat.le_of_ble_eq_true rfl) (fun X hX => ?_)
  show V E X 0 [some (vR 1), none, none] [] g
  refine k_iconst hX.1 dX3_firstFault_0 ?_
  refine k_istore_n hX.1 dX3_firstFault_1 rfl (by decide) rfl rfl ?_
  try simp only [List.set_cons_zero, List.set_cons_succ]
  refine k_iconst hX.1 dX3_firstFault_2 ?_
  refine k_istore_n hX.1 dX3_firstFault_3 rfl (by decide) rfl rfl ?_
  try simp only [List.set_cons_zero, List.set_cons_succ]
  exact lp_ff E hP hW hX (A 12 3).toNat 0 (-1) ⟨by have := hW.1; omega, by omega, rfl⟩

set_option maxRecDepth 100000 in
set_option maxHeartbeats 4000000 in
theorem cG_wh (E : En) {A : St} {g : Mm} (hP : CPg A g) (hW : WPg A) : Ok E 7 mX3_isWhole [vR 1] g (fun r g' => (∃ z : Int, r = some (vI z) ∧ (z = 0 ∨ z = 1) ∧ (z = 1 ↔ wh A)) ∧ g' = g) := by
  have hP0 := hP
  have hW0 := hW
  obtain ⟨hg1, hg2⟩ := hP
  obtain ⟨hq1, hq2, hq3⟩ := hW
  have fb := rF_bd A hq1
  obtain ⟨k, hk⟩ : ∃ m : Nat, (A 12 3) = (m : Int) := ⟨(A 12 3).toNat, by omega⟩
  refine Ok_of gmX3_isWhole (by omega) (Nat.le_of_ble_eq_true rfl) (fun X hX => ?_)
  show V E X 0 [some (vR 1)] [] g
  by_cases h2 : 2 ≤ A 12 3
  · skip
    have c0 := hg2 (k - 2) (by omega)
    have c1 := hq3 (k - 2) (by omega)
    have e2 : (A 12 3 - 2).toNat = k - 2 := by omega
    refine k_aload_n hX.1 dX3_isWhole_0 rfl rfl ?_
    refine k_geti hX.1 dX3_isWhole_1 flX3_15 rfl (by decide) rfl ?_
    refine k_iconst hX.1 dX3_isWhole_4 ?_
    refine k_icmp_lt (tgt := 39) hX.1 dX3_isWhole_5 (by decide) (by omega) (by omega) (fun c_5 => ?_) (fun c_5 => ?_)
    · skip
      exact absurd c_5 (by omega)
    · skip
      refine k_aload_n hX.1 dX3_isWhole_8 rfl rfl ?_
      refine k_getr (t := 2) hX.1 dX3_isWhole_9 flX3_9 rfl (by decide) rfl rfl ?_
      refine k_aload_n hX.1 dX3_isWhole_12 rfl rfl ?_
      refine k_geti hX.1 dX3_isWhole_13 flX3_15 rfl (by decide) rfl ?_
      refine k_iconst hX.1 dX3_isWhole_16 ?_
      refine k_isub hX.1 dX3_isWhole_17 ?_
      refine k_iald (j := (k - 2)) hX.1 dX3_isWhole_18 rfl (by omega) (n := 18) rfl (by omega) (by omega) ?_
      refine k_bipush hX.1 dX3_isWhole_19 (by decide) ?_
      refine k_icmp_ne (tgt := 39) hX.1 dX3_isWhole_21 (by decide) (by omega) (by omega) (fun c_21 => ?_) (fun c_21 => ?_)
      · skip
        refine k_iconst hX.1 dX3_isWhole_39 ?_
        refine k_zret hX dX3_isWhole_40 rfl (by omega) ?_
        refine ⟨⟨_, rfl, by omega, ?_⟩, rfl⟩
        unfold wh
        rw [e2]
        constructor
        · intro z
          first | (exact ⟨h2, by omega, by omega⟩) | (exact absurd z (by decide))
        · intro z
          first | rfl | (exfalso; obtain ⟨z1, z2, z3⟩ := z; omega)
      · skip
        refine k_aload_n hX.1 dX3_isWhole_24 rfl rfl ?_
        refine k_callVf (d2 := 6) (n := 0) (as := []) hX.1 dX3_isWhole_25 lkX3_31 (fit_of hX (by omega) gmX3_firstFault) rfl rfl (by decide) rfl rfl rfl (Nat.le_of_ble_eq_true rfl) (cG_ff E hP0 hW0) ?_
        refine k_aload_n hX.1 dX3_isWhole_28 rfl rfl ?_
        refine k_geti hX.1 dX3_isWhole_29 flX3_15 rfl (by decide) rfl ?_
        refine k_icmp_ne (tgt := 39) hX.1 dX3_isWhole_32 (by decide) (by omega) (by omega) (fun c_32 => ?_) (fun c_32 => ?_)
        · skip
          refine k_iconst hX.1 dX3_isWhole_39 ?_
          refine k_zret hX dX3_isWhole_40 rfl (by omega) ?_
          refine ⟨⟨_, rfl, by omega, ?_⟩, rfl⟩
          unfold wh
          rw [e2]
          constructor
          · intro z
            first | (exact ⟨h2, by omega, by omega⟩) | (exact absurd z (by decide))
          · intro z
            first | rfl | (exfalso; obtain ⟨z1, z2, z3⟩ := z; omega)
        · skip
          refine k_iconst hX.1 dX3_isWhole_35 ?_
          refine k_goto (tgt := 40) hX.1 dX3_isWhole_36 (by decide) ?_
          refine k_zret hX dX3_isWhole_40 rfl (by omega) ?_
          refine ⟨⟨_, rfl, by omega, ?_⟩, rfl⟩
          unfold wh
          rw [e2]
          constructor
          · intro z
            first | (exact ⟨h2, by omega, by omega⟩) | (exact absurd z (by decide))
          · intro z
            first | rfl | (exfalso; obtain ⟨z1, z2, z3⟩ := z; omega)
  · skip
    refine k_aload_n hX.1 dX3_isWhole_0 rfl rfl ?_
    refine k_geti hX.1 dX3_isWhole_1 flX3_15 rfl (by decide) rfl ?_
    refine k_iconst hX.1 dX3_isWhole_4 ?_
    refine k_icmp_lt (tgt := 39) hX.1 dX3_isWhole_5 (by decide) (by omega) (by omega) (fun c_5 => ?_) (fun c_5 => ?_)
    · skip
      refine k_iconst hX.1 dX3_isWhole_39 ?_
      refine k_zret hX dX3_isWhole_40 rfl (by omega) ?_
      refine ⟨⟨_, rfl, by omega, ?_⟩, rfl⟩
      constructor
      · intro z; exact absurd z (by decide)
      · intro z; exact absurd z.1 h2
    · skip
      exact absurd c_5 (by omega)

/-- the garment that the page is -/
def gmA (A : St) : St := fun i j => if i = 0 then kix (A 11 (3 * j)) else if i = 1 then A 11 (3 * j + 1) - 48 else if i = 2 ∨ i = 3 ∨ i = 6 ∨ i = 7 then -1 else if i = 4 ∨ i = 5 then 0 else if i = 12 ∧ j = 0 then (A 12 3 - 1) / 3 else if i = 12 ∧ j = 1 then A 11 (3 * ((A 12 3 - 1) / 3).toNat) - 48 else if i = 12 ∧ (j = 2 ∨ j = 3 ∨ j = 6) then 0 else if i = 12 ∧ j = 4 then A 12 4 + 1 else A i j
def bInv (A : St) (g : Mm) (m p : Nat) (h : Mm) : Prop := h.1 3 2 = (m : Int) ∧ h.1 3 3 = 0 ∧ (∀ q, q < p → h.1 (6 + q) 0 = kix (A 11 (3 * q)) ∧ h.1 (6 + q) 1 = A 11 (3 * q + 1) - 48 ∧ h.1 (6 + q) 2 = -1 ∧ h.1 (6 + q) 3 = -1 ∧ h.1 (6 + q) 4 = 0 ∧ h.1 (6 + q) 5 = 0 ∧ h.1 (6 + q) 6 = 0 ∧ h.1 (6 + q) 7 = -1) ∧ (∀ a, a ≠ 3 → (a < 6 ∨ 6 + p ≤ a) → h.1 a = g.1 a) ∧ h.2 = g.2
theorem clM_off {g : Mm} {k a : Nat} (h : a ≠ k) : (clM g k).1 a = g.1 a := by unfold clM; rw [wr_off h, wr_off h, wr_off h, wr_off h, wr_off h]
theorem bInv_s {A : St} {g h : Mm} {m p : Nat} (hi : bInv A g m p h) : bInv A g m (p + 1) (clM (wr (wr (wr h (6 + p) 0 (kix (A 11 (3 * p)))) (6 + p) 1 (A 11 (3 * p + 1) - 48)) (6 + p) 7 (-1)) (6 + p)) := by
  obtain ⟨h1, h2, h3, h4, h5⟩ := hi
  refine ⟨?_, ?_, fun q hq => ?_, fun a h6 h7 => ?_, h5⟩
  · rw [clM_off (by omega), wr_off (by omega), wr_off (by omega), wr_off (by omega)]; exact h1
  · rw [clM_off (by omega), wr_off (by omega), wr_off (by omega), wr_off (by omega)]; exact h2
  · by_cases e : q = p
    · subst e
      simp [clM, wr_1]
    · rw [clM_off (by omega), wr_off (by omega), wr_off (by omega), wr_off (by omega)]
      exact h3 q (by omega)
  · rw [clM_off (by omega), wr_off (by omega), wr_off (by omega), wr_off (by omega)]
    exact h4 a h6 (by omega)
set_option maxRecDepth 100000 in
set_option maxHeartbeats 4000000 in
theorem lp_begin (E : En) {A : St} {g : Mm} {m0 : Nat} (hP : CPg A g) (hW : WPg A) (hm0 : 2 ≤ m0 ∧ m0 ≤ 5) (hn : A 12 3 = 3 * (m0 : Int) + 1) {X : Cx} (hX : Wk E mX6_begin X 5 (fun r g' => r = none ∧ ∃ h, bInv A g m0 m0 h ∧ g' = wr h 3 4 (A 11 (3 * m0) - 48))) : ∀ (m : Nat) (p : Nat) (h : Mm), m + p = m0 ∧ bInv A g m0 p h → V E X 23 [some (vR 3), some (vR 1), some (vI (p : Int)), none] [] h := by
  obtain ⟨hg1, hg2⟩ := hP
  obtain ⟨hq1, hq2, hq3⟩ := hW
  intro m
  induction m with
  | zero =>
    intro p h ⟨hm, hi⟩
    obtain rfl : p = m0 := by omega
    refine k_iload_n hX.1 dX6_begin_23 rfl rfl ?_
    refine k_aload_n hX.1 dX6_begin_24 rfl rfl ?_
    refine k_geti hX.1 dX6_begin_25 flX6_37 rfl (by decide) rfl ?_
    refine k_top (b := (p : Int)) hi.1 ?_
    refine k_icmp_ge (tgt := 75) hX.1 dX6_begin_28 (by decide) (by omega) (by omega) (fun c_28 => ?_) (fun c_28 => ?_)
    · skip
      refine k_aload_n hX.1 dX6_begin_75 rfl rfl ?_
      refine k_aload_n hX.1 dX6_begin_76 rfl rfl ?_
      refine k_getr (t := 2) hX.1 dX6_begin_77 flX6_45 rfl (by decide) rfl rfl ?_
      refine k_iconst hX.1 dX6_begin_80 ?_
      refine k_aload_n hX.1 dX6_begin_81 rfl rfl ?_
      refine k_geti hX.1 dX6_begin_82 flX6_37 rfl (by decide) rfl ?_
      refine k_top (b := (p : Int)) hi.1 ?_
      refine k_imul hX.1 dX6_begin_85 ?_
      refine k_iald (j := 3 * p) hX.1 dX6_begin_86 rfl (by omega) (n := 18) rfl (by omega) (by omega) ?_
      refine k_top (b := A 11 (3 * p)) (by rw [hi.2.2.2.1 2 (by omega) (by omega)]; exact hg2 (3 * p) (by omega)) ?_
      refine k_bipush hX.1 dX6_begin_87 (by decide) ?_
      refine k_isub hX.1 dX6_begin_89 ?_
      refine k_puti hX.1 dX6_begin_90 flX6_59 rfl (by decide) rfl ?_
      refine k_vret hX dX6_begin_93 rfl ?_
      exact ⟨rfl, h, hi, rfl⟩
    · skip
      exact absurd c_28 (by omega)
  | succ m ih =>
    intro p h ⟨hm, hi⟩
    have b1 := hq3 (3 * p) (by omega)
    have b2 := hq3 (3 * p + 1) (by omega)
    refine k_iload_n hX.1 dX6_begin_23 rfl rfl ?_
    refine k_aload_n hX.1 dX6_begin_24 rfl rfl ?_
    refine k_geti hX.1 dX6_begin_25 flX6_37 rfl (by decide) rfl ?_
    refine k_top (b := (m0 : Int)) hi.1 ?_
    refine k_icmp_ge (tgt := 75) hX.1 dX6_begin_28 (by decide) (by omega) (by omega) (fun c_28 => ?_) (fun c_28 => ?_)
    · skip
      exact absurd c_28 (by omega)
    · skip
      refine k_ldcs hX.1 dX6_begin_31 (Or.inr ⟨rfl, rfl⟩) ?_
      refine k_aload_n hX.1 dX6_begin_33 rfl rfl ?_
      refine k_getr (t := 2) hX.1 dX6_begin_34 flX6_45 rfl (by decide) rfl rfl ?_
      refine k_iconst hX.1 dX6_begin_37 ?_
      refine k_iload_n hX.1 dX6_begin_38 rfl rfl ?_
      refine k_imul hX.1 dX6_begin_39 ?_
      refine k_iald (j := 3 * p) hX.1 dX6_begin_40 rfl (by omega) (n := 18) rfl (by omega) (by omega) ?_
      refine k_top (b := A 11 (3 * p)) (by rw [hi.2.2.2.1 2 (by omega) (by omega)]; exact hg2 (3 * p) (by omega)) ?_
      refine k_i2c hX.1 dX6_begin_41 (by omega) ?_
      refine k_callTf (d2 := 4) (n := 1) (as := [_]) hX.1 dX6_begin_42 lkX6_49 (fit_of hX (by omega) gmJ0_indexOf_0f7a4) rfl rfl rfl (Nat.le_of_ble_eq_true rfl) (cJ_ix E h (by omega)) ?_
      refine k_istore_n hX.1 dX6_begin_45 rfl (by decide) rfl rfl ?_
      try simp only [List.set_cons_zero, List.set_cons_succ]
      refine k_aload_n hX.1 dX6_begin_46 rfl rfl ?_
      refine k_getr (t := 4) hX.1 dX6_begin_47 flX6_11 rfl (by decide) rfl rfl ?_
      refine k_iload_n hX.1 dX6_begin_50 rfl rfl ?_
      refine k_aaldP (j := p) (q := 6 + p) hX.1 dX6_begin_51 rfl (by omega) (n := 5) rfl (by omega) (by omega) rfl ?_
      refine k_iload_n hX.1 dX6_begin_52 rfl rfl ?_
      refine k_aload_n hX.1 dX6_begin_53 rfl rfl ?_
      refine k_getr (t := 2) hX.1 dX6_begin_54 flX6_45 rfl (by decide) rfl rfl ?_
      refine k_iconst hX.1 dX6_begin_57 ?_
      refine k_iload_n hX.1 dX6_begin_58 rfl rfl ?_
      refine k_imul hX.1 dX6_begin_59 ?_
      refine k_iconst hX.1 dX6_begin_60 ?_
      refine k_iadd hX.1 dX6_begin_61 ?_
      refine k_iald (j := 3 * p + 1) hX.1 dX6_begin_62 rfl (by omega) (n := 18) rfl (by omega) (by omega) ?_
      refine k_top (b := A 11 (3 * p + 1)) (by rw [hi.2.2.2.1 2 (by omega) (by omega)]; exact hg2 (3 * p + 1) (by omega)) ?_
      refine k_bipush hX.1 dX6_begin_63 (by decide) ?_
      refine k_isub hX.1 dX6_begin_65 ?_
      refine k_callVp (d2 := 2) (n := 2) (as := [_, _]) hX.1 dX6_begin_66 lkX6_55 (fit_of hX (by omega) gmX4_begin) rfl (sk_P6 (by omega)) (by decide) rfl rfl rfl (Nat.le_of_ble_eq_true rfl) (cP_begin E h (p := p) (by omega)) ?_
      refine k_iinc hX.1 dX6_begin_69 rfl (by decide) rfl rfl ?_
      try simp only [List.set_cons_zero, List.set_cons_succ]
      refine k_goto (tgt := 23) hX.1 dX6_begin_72 (by decide) ?_
      exact k_sub (by repeat first | exact trivial | refine And.intro rfl ?_) (ih (p + 1) _ ⟨by omega, bInv_s hi⟩)

set_option maxRecDepth 100000 in
set_option maxHeartbeats 4000000 in
theorem cW_begin (E : En) {A : St} {g : Mm} {m0 : Nat} (hP : CPg A g) (hW : WPg A) (hm0 : 2 ≤ m0 ∧ m0 ≤ 5) (hn : A 12 3 = 3 * (m0 : Int) + 1) : Ok E 5 mX6_begin [vR 3, vR 1] g (fun r g' => r = none ∧ ∃ h, bInv A g m0 m0 h ∧ g' = wr h 3 4 (A 11 (3 * m0) - 48)) := by
  have hP0 := hP
  have hW0 := hW
  obtain ⟨hg1, hg2⟩ := hP
  obtain ⟨hq1, hq2, hq3⟩ := hW
  refine Ok_of gmX6_begin (by omega) (Nat.le_of_ble_eq_true rfl) (fun X hX => ?_)
  show V E X 0 [some (vR 3), some (vR 1), none, none] [] g
  refine k_aload_n hX.1 dX6_begin_0 rfl rfl ?_
  refine k_iconst hX.1 dX6_begin_1 ?_
  refine k_aload_n hX.1 dX6_begin_2 rfl rfl ?_
  refine k_geti hX.1 dX6_begin_3 flX6_25 rfl (by decide) rfl ?_
  refine k_iconst hX.1 dX6_begin_6 ?_
  refine k_isub hX.1 dX6_begin_7 ?_
  refine k_iconst hX.1 dX6_begin_8 ?_
  refine k_idiv hX.1 dX6_begin_9 (by omega) (by omega) ?_
  refine k_min hX.1 dX6_begin_10 lkX6_31 (by omega) (by omega) (Nat.le_of_ble_eq_true rfl) ?_
  refine k_puti hX.1 dX6_begin_13 flX6_37 rfl (by decide) rfl ?_
  refine k_aload_n hX.1 dX6_begin_16 rfl rfl ?_
  refine k_iconst hX.1 dX6_begin_17 ?_
  refine k_puti hX.1 dX6_begin_18 flX6_40 rfl (by decide) rfl ?_
  refine k_iconst hX.1 dX6_begin_21 ?_
  refine k_istore_n hX.1 dX6_begin_22 rfl (by decide) rfl rfl ?_
  try simp only [List.set_cons_zero, List.set_cons_succ]
  exact lp_begin E hP0 hW0 hm0 hn hX m0 0 _ ⟨by omega, by rw [wr_1, if_neg (by omega), wr_at]; omega, by rw [wr_at], fun q hq => absurd hq (Nat.not_lt_zero q), fun a h1 h2 => by rw [wr_off (by omega), wr_off (by omega)], rfl⟩

theorem gm_12 (A : St) : gmA A 12 0 = (A 12 3 - 1) / 3 ∧ gmA A 12 2 = 0 ∧ gmA A 12 3 = 0 ∧ gmA A 12 6 = 0 ∧ gmA A 12 4 = A 12 4 + 1 ∧ gmA A 12 5 = A 12 5 ∧ gmA A 12 1 = A 11 (3 * ((A 12 3 - 1) / 3).toNat) - 48 := ⟨rfl, rfl, rfl, rfl, rfl, rfl, rfl⟩
theorem RC_gm {A : St} {g h : Mm} {m : Nat} (hR : RC A g) (hm : 2 ≤ m ∧ m ≤ 5) (hn : A 12 3 = 3 * (m : Int) + 1) (hi : bInv A g m m h) : RC (gmA A) (wr (wr (wr (wr h 3 4 (A 11 (3 * m) - 48)) 1 1 0) 0 6 0) 0 7 (A 12 4 + 1)) := by
  obtain ⟨-, -, ht, -, hb⟩ := hR
  obtain ⟨h1, h2, h3, h4, h5⟩ := hi
  have e : (A 12 3 - 1) / 3 = (m : Int) := by omega
  have e2 : ((A 12 3 - 1) / 3).toNat = m := by omega
  obtain ⟨m0, m2, m3, m6, m4, m5, m1⟩ := gm_12 A
  rw [e] at m0
  rw [e2] at m1
  refine ⟨⟨?_, fun p hp => ?_, fun t ht => ?_⟩, ⟨?_, fun k hk => ?_⟩, ⟨?_, ?_, ?_⟩, fun hk => ?_, fun p hp => ?_⟩
  · rw [m0, m2, m1, wr_off (by omega), wr_off (by omega), wr_off (by omega), wr_at, wr_1, wr_1, if_neg (by omega), if_neg (by omega)]
    exact ⟨h1, h2, rfl⟩
  · rw [m0] at hp
    have q := h3 p (by omega)
    simp only [cPt0]
    rw [wr_off (by omega), wr_off (by omega), wr_off (by omega), wr_off (by omega)]
    obtain ⟨q0, q1, q2, q3, q4, q5, q6, q7⟩ := q
    exact ⟨q0, q1, q2, q3, q4, q5, q6, q7⟩
  · rw [m2] at ht; omega
  · rw [m3, wr_off (by omega), wr_off (by omega), wr_at]
  · rw [m3] at hk; omega
  · rw [m6, wr_1, if_neg (by omega), wr_at]
  · rw [m4, wr_at]
  · rw [m5, wr_1, if_neg (by omega), wr_1, if_neg (by omega), wr_off (by omega), wr_off (by omega), h4 0 (by omega) (by omega)]
    exact ht.2.2
  · rw [m6] at hk; omega
  · rw [wr_off (by omega), wr_off (by omega), wr_off (by omega), wr_off (by omega), wr_off (by omega), wr_off (by omega), wr_off (by omega), wr_off (by omega)]
    rw [h4 (17 + p) (by omega) (by omega)]
    refine ⟨?_, (hb p hp).2⟩
    by_cases z : p < m
    · exact Or.inl (h3 p z).2.2.2.2.2.2.1
    · rw [h4 (6 + p) (by omega) (by omega)]; exact (hb p hp).1
theorem sameM_gm {A : St} {g h : Mm} {m : Nat} (hm : m ≤ 5) (hi : bInv A g m m h) {u v w x : Int} : sameM g (wr (wr (wr (wr h 3 4 u) 1 1 v) 0 6 w) 0 7 x) := by
  obtain ⟨-, -, -, h4, h5⟩ := hi
  have h0 : sameM g h := fun a ha => ⟨h4 a (by omega) (by omega), by rw [h5]⟩
  exact (((h0.wr (by omega)).wr (by omega)).wr (by omega)).wr (by omega)
set_option maxRecDepth 100000 in
set_option maxHeartbeats 4000000 in
theorem c7_fault (E : En) {A : St} {g : Mm} {n : Int} (hR : RC A g) (hW : Wf A n) : Ok E 8 mX7_fault [vR 0] g (fun r g' => r = some (vI (rFault A)) ∧ RC (A) g' ∧ sameM g g') := by
  refine Ok_of gmX7_fault (by omega) (Nat.le_of_ble_eq_true rfl) (fun X hX => ?_)
  show V E X 0 [some (vR 0)] [] g
  refine k_aload_n hX.1 dX7_fault_0 rfl rfl ?_
  refine k_getr (t := 1) hX.1 dX7_fault_1 flX7_10 rfl (by decide) rfl rfl ?_
  refine k_callVf (d2 := 6) (n := 0) (as := []) hX.1 dX7_fault_4 lkX7_55 (fit_of hX (by omega) gmX3_firstFault) rfl rfl (by decide) rfl rfl rfl (Nat.le_of_ble_eq_true rfl) (cG_ff E hR.2.1 hW.2.1) ?_
  refine k_iret hX dX7_fault_7 rfl ?_
  exact ⟨rfl, hR, sameM.rf g⟩

set_option maxRecDepth 100000 in
set_option maxHeartbeats 4000000 in
theorem c7_garment (E : En) {A : St} {g : Mm} {n : Int} (hR : RC A g) (hW : Wf A n) : Ok E 8 mX7_garment [vR 0] g (fun r g' => (wh A → r = some (vI ((A 12 3 - 1) / 3)) ∧ RC (gmA A) g') ∧ (¬ wh A → r = some (vI (-103)) ∧ RC A g') ∧ sameM g g') := by
  have hC0 := hR.1
  have hW0 := hW.1
  obtain ⟨⟨⟨hc1, hc2, hc3⟩, hcp, hcl⟩, ⟨hg1, hg2⟩, ⟨ht1, ht2, ht3⟩, hck, hcb⟩ := id hR
  obtain ⟨⟨⟨hw1, hw2, hw3, hw4, hw5, hw6, hw7, hw8⟩, hwp, hwl⟩, ⟨hq1, hq2, hq3⟩, ⟨hz1, ⟨hz2, hz3⟩, ⟨hz4, hz5⟩⟩, hwk⟩ := id hW
  refine Ok_of gmX7_garment (by omega) (Nat.le_of_ble_eq_true rfl) (fun X hX => ?_)
  show V E X 0 [some (vR 0)] [] g
  refine k_aload_n hX.1 dX7_garment_0 rfl rfl ?_
  refine k_getr (t := 1) hX.1 dX7_garment_1 flX7_10 rfl (by decide) rfl rfl ?_
  refine k_callV (d2 := 7) (n := 0) (as := []) hX.1 dX7_garment_4 lkX7_59 (fit_of hX (by omega) gmX3_isWhole) rfl rfl (by decide) rfl rfl rfl (Nat.le_of_ble_eq_true rfl) (cG_wh E hR.2.1 hW.2.1) (fun r_4 g_4 q_4 => ?_)
  obtain ⟨⟨z, rfl, z01, hz⟩, rfl⟩ := q_4
  show V E X 7 _ (vI z :: _) _
  refine k_if_ne (tgt := 13) hX.1 dX7_garment_7 (by decide) (by omega) (fun c_7 => ?_) (fun c_7 => ?_)
  · skip
    have hwh : wh A := hz.mp (by omega)
    obtain ⟨m, hm2, hm5, hn, -, -⟩ := wh_shape hq1 hwh
    refine k_aload_n hX.1 dX7_garment_13 rfl rfl ?_
    refine k_getr (t := 3) hX.1 dX7_garment_14 flX7_19 rfl (by decide) rfl rfl ?_
    refine k_aload_n hX.1 dX7_garment_17 rfl rfl ?_
    refine k_getr (t := 1) hX.1 dX7_garment_18 flX7_10 rfl (by decide) rfl rfl ?_
    refine k_callV (d2 := 5) (n := 1) (as := [_]) hX.1 dX7_garment_21 lkX7_63 (fit_of hX (by omega) gmX6_begin) rfl rfl (by decide) rfl rfl rfl (Nat.le_of_ble_eq_true rfl) (cW_begin E hR.2.1 hW.2.1 (m0 := m) ⟨hm2, hm5⟩ hn) (fun r_21 g_21 q_21 => ?_)
    obtain ⟨rfl, h, hi, rfl⟩ := q_21
    show V E X 24 _ [] _
    refine k_aload_n hX.1 dX7_garment_24 rfl rfl ?_
    refine k_getr (t := 1) hX.1 dX7_garment_25 flX7_10 rfl (by decide) rfl rfl ?_
    refine k_iconst hX.1 dX7_garment_28 ?_
    refine k_puti hX.1 dX7_garment_29 flX7_47 rfl (by decide) rfl ?_
    refine k_aload_n hX.1 dX7_garment_32 rfl rfl ?_
    refine k_iconst hX.1 dX7_garment_33 ?_
    refine k_putz hX.1 dX7_garment_34 flX7_67 rfl (by decide) rfl (by omega) ?_
    refine k_aload_n hX.1 dX7_garment_37 rfl rfl ?_
    refine k_dupR hX.1 dX7_garment_38 ?_
    refine k_geti hX.1 dX7_garment_39 flX7_71 rfl (by decide) rfl ?_
    refine k_top (b := A 12 4) (by rw [wr_1, if_neg (by omega), wr_off (by omega), wr_off (by omega), hi.2.2.2.1 0 (by omega) (by omega)]; exact ht2) ?_
    refine k_iconst hX.1 dX7_garment_42 ?_
    refine k_iadd hX.1 dX7_garment_43 ?_
    refine k_puti hX.1 dX7_garment_44 flX7_71 rfl (by decide) rfl ?_
    refine k_aload_n hX.1 dX7_garment_47 rfl rfl ?_
    refine k_getr (t := 3) hX.1 dX7_garment_48 flX7_19 rfl (by decide) rfl rfl ?_
    refine k_geti hX.1 dX7_garment_51 flX7_74 rfl (by decide) rfl ?_
    refine k_top (b := (m : Int)) (by rw [wr_off (by omega), wr_off (by omega), wr_off (by omega), wr_1, if_neg (by omega)]; exact hi.1) ?_
    refine k_iret hX dX7_garment_54 rfl ?_
    refine ⟨fun _ => ⟨?_, RC_gm hR ⟨hm2, hm5⟩ hn hi⟩, fun q => absurd hwh q, sameM_gm hm5 hi⟩
    congr 2
    omega
  · skip
    have hwh : ¬ wh A := fun q => by have := hz.mpr q; omega
    refine k_bipush hX.1 dX7_garment_10 (by decide) ?_
    refine k_iret hX dX7_garment_12 rfl ?_
    exact ⟨fun q => absurd q hwh, fun _ => ⟨rfl, hR⟩, sameM.rf _⟩
