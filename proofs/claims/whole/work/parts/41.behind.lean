set_option maxRecDepth 100000 in
set_option maxHeartbeats 4000000 in
theorem lp_cbL (E : En) {A : St} {g h : Mm} {n : Int} (hC : CW A g) (hW : WW A n) (hu : uI A g h) {p r0 : Nat} (hr0 : r0 = 0) (hp : (p : Int) + 1 = A 12 0) {X : Cx} (hX : Wk E mX1_countBehind X 4 (fun r g' => r = none ∧ g'.2 = h.2 ∧ (∀ a, a ≠ 39 + p → g'.1 a = h.1 a) ∧ ∀ i : Nat, (i : Int) < nmT (A 12 2) → g'.1 (39 + p) i = bhd A (tC A) (nM_ A) r0 p (tC A i))) : ∀ (m : Nat) (i : Nat) (k : Mm), m + i = nM_ A ∧ uI A g k ∧ k.2 = h.2 ∧ (∀ a, a ≠ 39 + p → k.1 a = h.1 a) ∧ (∀ j : Nat, j < i → k.1 (39 + p) j = bhd A (tC A) (nM_ A) r0 p (tC A j)) → V E X 19 [some (vR 30), some (vR 3), some (vI (p : Int)), some (vI 1), some (vI (i : Int)), none, none] [] k := by
  obtain ⟨⟨hw1, hw2, hw3, hw4, hw5, hw6, hw7, hw8⟩, hwp, hwl⟩ := id hW
  have nb := nm_bd hW
  intro m
  induction m with
  | zero =>
    intro i k ⟨hm, hk, h2, hf, hd⟩
    obtain rfl : i = nM_ A := by omega
    refine k_iload hX.1 dX1_countBehind_19 rfl ?_
    refine k_aload_n hX.1 dX1_countBehind_21 rfl rfl ?_
    refine k_geti hX.1 dX1_countBehind_22 flX1_41 rfl (by decide) rfl ?_
    refine k_top (b := nmT (A 12 2)) hk.1 ?_
    refine k_icmp_ge (tgt := 107) hX.1 dX1_countBehind_25 (by decide) (by omega) (by omega) (fun c_25 => ?_) (fun c_25 => ?_)
    · skip
      refine k_vret hX dX1_countBehind_107 rfl ?_
      exact ⟨rfl, h2, hf, fun j hj => hd j (by omega)⟩
    · skip
      exact absurd c_25 (by omega)
  | succ m ih =>
    intro i k ⟨hm, hk, h2, hf, hd⟩
    refine k_iload hX.1 dX1_countBehind_19 rfl ?_
    refine k_aload_n hX.1 dX1_countBehind_21 rfl rfl ?_
    refine k_geti hX.1 dX1_countBehind_22 flX1_41 rfl (by decide) rfl ?_
    refine k_top (b := nmT (A 12 2)) hk.1 ?_
    refine k_icmp_ge (tgt := 107) hX.1 dX1_countBehind_25 (by decide) (by omega) (by omega) (fun c_25 => ?_) (fun c_25 => ?_)
    · skip
      exact absurd c_25 (by omega)
    · skip
      refine k_iload_n hX.1 dX1_countBehind_28 rfl rfl ?_
      refine k_if_eq (tgt := 36) hX.1 dX1_countBehind_29 (by decide) (by omega) (fun c_29 => ?_) (fun c_29 => ?_)
      · skip
        exact absurd c_29 (by omega)
      · skip
        refine k_iconst hX.1 dX1_countBehind_32 ?_
        refine k_goto (tgt := 37) hX.1 dX1_countBehind_33 (by decide) ?_
        refine k_istore hX.1 dX1_countBehind_37 (by decide) rfl rfl ?_
        try simp only [List.set_cons_zero, List.set_cons_succ]
        refine k_iconst hX.1 dX1_countBehind_39 ?_
        refine k_istore hX.1 dX1_countBehind_40 (by decide) rfl rfl ?_
        try simp only [List.set_cons_zero, List.set_cons_succ]
        refine k_iload_n hX.1 dX1_countBehind_42 rfl rfl ?_
        refine k_if_ne (tgt := 90) hX.1 dX1_countBehind_43 (by decide) (by omega) (fun c_43 => ?_) (fun c_43 => ?_)
        · skip
          refine k_aload_n hX.1 dX1_countBehind_90 rfl rfl ?_
          refine k_getr (t := 38) hX.1 dX1_countBehind_91 flX1_20 rfl (by decide) rfl rfl ?_
          refine k_iload_n hX.1 dX1_countBehind_94 rfl rfl ?_
          refine k_aaldI (j := p) (q := 39 + p) hX.1 dX1_countBehind_95 rfl (by omega) (n := 5) rfl (by omega) (by omega) rfl ?_
          refine k_iload hX.1 dX1_countBehind_96 rfl ?_
          refine k_iload hX.1 dX1_countBehind_98 rfl ?_
          refine k_iast (j := i) hX.1 dX1_countBehind_100 (sk_A39 (by omega)) (by omega) (n := 6) (ln_A39 (by omega)) (by omega) (by omega) ?_
          refine k_iinc hX.1 dX1_countBehind_101 rfl (by decide) rfl rfl ?_
          try simp only [List.set_cons_zero, List.set_cons_succ]
          refine k_goto (tgt := 19) hX.1 dX1_countBehind_104 (by decide) ?_
          exact k_sub (by repeat first | exact trivial | refine And.intro rfl ?_) (ih (i + 1) _ ⟨by omega, uI_w hk (by omega), h2, fun a ha => by rw [wr_off ha]; exact hf a ha, fun j hj => by
            by_cases e : j = i
            · subst e; rw [wr_at]; rw [hr0]; rfl
            · rw [wr_1, if_neg (by omega)]; exact hd j (by omega)⟩)
        · skip
          exact absurd c_43 (by omega)

set_option maxRecDepth 100000 in
set_option maxHeartbeats 4000000 in
theorem lp_cb2 (E : En) {A : St} {g h : Mm} {n : Int} (hC : CW A g) (hW : WW A n) (hu : uI A g h) {p r1 i r0 : Nat} (hp : (p : Int) + 1 < A 12 0) (hi : (i : Int) < nmT (A 12 2)) {k : Mm} (hk : uI A g k) (hr : ∀ i : Nat, (i : Int) < nmT (A 12 2) → k.1 (39 + (p + 1)) i = bhd A (tC A) (nM_ A) r1 (p + 1) (tC A i)) {X : Cx} (hX : Wk E mX1_countBehind X 4 (fun r g' => r = none ∧ g'.2 = h.2 ∧ (∀ a, a ≠ 39 + p → g'.1 a = h.1 a) ∧ ∀ i : Nat, (i : Int) < nmT (A 12 2) → g'.1 (39 + p) i = bhd A (tC A) (nM_ A) r0 p (tC A i))) : ∀ (m : Nat) (o : Nat) (s : Int), m + o = nM_ A ∧ s = sm (fun o => if mmI A p (tC A i) (tC A o) = 1 then bhd A (tC A) (nM_ A) r1 (p + 1) (tC A o) else 0) o → V E X 90 [some (vR 30), some (vR 3), some (vI (p : Int)), some (vI 0), some (vI (i : Int)), some (vI (bhd A (tC A) (nM_ A) (r1 + 1) p (tC A i))), some (vI ((nM_ A : Nat) : Int))] [] k → V E X 42 [some (vR 30), some (vR 3), some (vI (p : Int)), some (vI 0), some (vI (i : Int)), some (vI s), some (vI (o : Int))] [] k := by
  obtain ⟨⟨hw1, hw2, hw3, hw4, hw5, hw6, hw7, hw8⟩, hwp, hwl⟩ := id hW
  have nb := nm_bd hW
  have hCk := CW_u hC hW hk
  intro m
  induction m with
  | zero =>
    intro o s ⟨hm, hs⟩ hx
    obtain rfl : o = nM_ A := by omega
    subst hs
    refine k_iload_n hX.1 dX1_countBehind_42 rfl rfl ?_
    refine k_if_ne (tgt := 90) hX.1 dX1_countBehind_43 (by decide) (by omega) (fun c_43 => ?_) (fun c_43 => ?_)
    · skip
      exact absurd c_43 (by omega)
    · skip
      refine k_iload hX.1 dX1_countBehind_46 rfl ?_
      refine k_aload_n hX.1 dX1_countBehind_48 rfl rfl ?_
      refine k_geti hX.1 dX1_countBehind_49 flX1_41 rfl (by decide) rfl ?_
      refine k_top (b := nmT (A 12 2)) hk.1 ?_
      refine k_icmp_ge (tgt := 90) hX.1 dX1_countBehind_52 (by decide) (by omega) (by omega) (fun c_52 => ?_) (fun c_52 => ?_)
      · skip
        exact hx
      · skip
        exact absurd c_52 (by omega)
  | succ m ih =>
    intro o s ⟨hm, hs⟩ hx
    refine k_iload_n hX.1 dX1_countBehind_42 rfl rfl ?_
    refine k_if_ne (tgt := 90) hX.1 dX1_countBehind_43 (by decide) (by omega) (fun c_43 => ?_) (fun c_43 => ?_)
    · skip
      exact absurd c_43 (by omega)
    · skip
      refine k_iload hX.1 dX1_countBehind_46 rfl ?_
      refine k_aload_n hX.1 dX1_countBehind_48 rfl rfl ?_
      refine k_geti hX.1 dX1_countBehind_49 flX1_41 rfl (by decide) rfl ?_
      refine k_top (b := nmT (A 12 2)) hk.1 ?_
      refine k_icmp_ge (tgt := 90) hX.1 dX1_countBehind_52 (by decide) (by omega) (by omega) (fun c_52 => ?_) (fun c_52 => ?_)
      · skip
        exact absurd c_52 (by omega)
      · skip
        refine k_aload_n hX.1 dX1_countBehind_55 rfl rfl ?_
        refine k_aload_n hX.1 dX1_countBehind_56 rfl rfl ?_
        refine k_iload_n hX.1 dX1_countBehind_57 rfl rfl ?_
        refine k_iload hX.1 dX1_countBehind_58 rfl ?_
        refine k_iload hX.1 dX1_countBehind_60 rfl ?_
        refine k_callVf (d2 := 3) (n := 4) (as := [_, _, _, _]) hX.1 dX1_countBehind_62 lkX1_56 (fit_of hX (by omega) gmX1_mayMeet) rfl rfl (by decide) rfl rfl rfl (Nat.le_of_ble_eq_true rfl) (cU_mm E hCk hW (p := p) (i := i) (j := o) (by omega) hi (by omega) (hk.2.2.1 i hi) (hk.2.2.1 o (by omega))) ?_
        refine k_if_eq (tgt := 84) hX.1 dX1_countBehind_65 (by decide) (by have := mmI_01 A p (tC A i) (tC A o); omega) (fun c_65 => ?_) (fun c_65 => ?_)
        · skip
          refine k_iinc hX.1 dX1_countBehind_84 rfl (by decide) rfl rfl ?_
          try simp only [List.set_cons_zero, List.set_cons_succ]
          refine k_goto (tgt := 42) hX.1 dX1_countBehind_87 (by decide) ?_
          exact ih (o + 1) _ ⟨by omega, by
            have z := mmI_01 A p (tC A i) (tC A o)
            rw [sm, hs]
            first | (rw [if_pos (by omega)]) | (rw [if_neg (by omega)]; omega)⟩ hx
        · skip
          refine k_iload hX.1 dX1_countBehind_68 rfl ?_
          refine k_aload_n hX.1 dX1_countBehind_70 rfl rfl ?_
          refine k_getr (t := 38) hX.1 dX1_countBehind_71 flX1_20 rfl (by decide) rfl rfl ?_
          refine k_iload_n hX.1 dX1_countBehind_74 rfl rfl ?_
          refine k_iconst hX.1 dX1_countBehind_75 ?_
          refine k_iadd hX.1 dX1_countBehind_76 ?_
          refine k_aaldI (j := (p + 1)) (q := 39 + (p + 1)) hX.1 dX1_countBehind_77 rfl (by omega) (n := 5) rfl (by omega) (by omega) rfl ?_
          refine k_iload hX.1 dX1_countBehind_78 rfl ?_
          refine k_iald (j := o) hX.1 dX1_countBehind_80 (sk_A39 (by omega)) (by omega) (n := 6) (ln_A39 (by omega)) (by omega) (by omega) ?_
          refine k_top (b := bhd A (tC A) (nM_ A) r1 (p + 1) (tC A o)) (hr o (by omega)) ?_
          refine k_iadd hX.1 dX1_countBehind_81 ?_
          refine k_istore hX.1 dX1_countBehind_82 (by decide) rfl rfl ?_
          try simp only [List.set_cons_zero, List.set_cons_succ]
          refine k_iinc hX.1 dX1_countBehind_84 rfl (by decide) rfl rfl ?_
          try simp only [List.set_cons_zero, List.set_cons_succ]
          refine k_goto (tgt := 42) hX.1 dX1_countBehind_87 (by decide) ?_
          exact ih (o + 1) _ ⟨by omega, by
            have z := mmI_01 A p (tC A i) (tC A o)
            rw [sm, hs]
            first | (rw [if_pos (by omega)]) | (rw [if_neg (by omega)]; omega)⟩ hx

set_option maxRecDepth 100000 in
set_option maxHeartbeats 4000000 in
theorem lp_cb1 (E : En) {A : St} {g h : Mm} {n : Int} (hC : CW A g) (hW : WW A n) (hu : uI A g h) {p r1 r0 : Nat} (hr0 : r0 = r1 + 1) (hp : (p : Int) + 1 < A 12 0) (hr : ∀ i : Nat, (i : Int) < nmT (A 12 2) → h.1 (39 + (p + 1)) i = bhd A (tC A) (nM_ A) r1 (p + 1) (tC A i)) {X : Cx} (hX : Wk E mX1_countBehind X 4 (fun r g' => r = none ∧ g'.2 = h.2 ∧ (∀ a, a ≠ 39 + p → g'.1 a = h.1 a) ∧ ∀ i : Nat, (i : Int) < nmT (A 12 2) → g'.1 (39 + p) i = bhd A (tC A) (nM_ A) r0 p (tC A i))) : ∀ (m : Nat) (i : Nat) (k : Mm), m + i = nM_ A ∧ uI A g k ∧ k.2 = h.2 ∧ (∀ a, a ≠ 39 + p → k.1 a = h.1 a) ∧ (∀ j : Nat, j < i → k.1 (39 + p) j = bhd A (tC A) (nM_ A) r0 p (tC A j)) → V E X 19 [some (vR 30), some (vR 3), some (vI (p : Int)), some (vI 0), some (vI (i : Int)), none, none] [] k := by
  obtain ⟨⟨hw1, hw2, hw3, hw4, hw5, hw6, hw7, hw8⟩, hwp, hwl⟩ := id hW
  have nb := nm_bd hW
  intro m
  induction m with
  | zero =>
    intro i k ⟨hm, hk, h2, hf, hd⟩
    obtain rfl : i = nM_ A := by omega
    refine k_iload hX.1 dX1_countBehind_19 rfl ?_
    refine k_aload_n hX.1 dX1_countBehind_21 rfl rfl ?_
    refine k_geti hX.1 dX1_countBehind_22 flX1_41 rfl (by decide) rfl ?_
    refine k_top (b := nmT (A 12 2)) hk.1 ?_
    refine k_icmp_ge (tgt := 107) hX.1 dX1_countBehind_25 (by decide) (by omega) (by omega) (fun c_25 => ?_) (fun c_25 => ?_)
    · skip
      refine k_vret hX dX1_countBehind_107 rfl ?_
      exact ⟨rfl, h2, hf, fun j hj => hd j (by omega)⟩
    · skip
      exact absurd c_25 (by omega)
  | succ m ih =>
    intro i k ⟨hm, hk, h2, hf, hd⟩
    refine k_iload hX.1 dX1_countBehind_19 rfl ?_
    refine k_aload_n hX.1 dX1_countBehind_21 rfl rfl ?_
    refine k_geti hX.1 dX1_countBehind_22 flX1_41 rfl (by decide) rfl ?_
    refine k_top (b := nmT (A 12 2)) hk.1 ?_
    refine k_icmp_ge (tgt := 107) hX.1 dX1_countBehind_25 (by decide) (by omega) (by omega) (fun c_25 => ?_) (fun c_25 => ?_)
    · skip
      exact absurd c_25 (by omega)
    · skip
      refine k_iload_n hX.1 dX1_countBehind_28 rfl rfl ?_
      refine k_if_eq (tgt := 36) hX.1 dX1_countBehind_29 (by decide) (by omega) (fun c_29 => ?_) (fun c_29 => ?_)
      · skip
        refine k_iconst hX.1 dX1_countBehind_36 ?_
        refine k_istore hX.1 dX1_countBehind_37 (by decide) rfl rfl ?_
        try simp only [List.set_cons_zero, List.set_cons_succ]
        refine k_iconst hX.1 dX1_countBehind_39 ?_
        refine k_istore hX.1 dX1_countBehind_40 (by decide) rfl rfl ?_
        try simp only [List.set_cons_zero, List.set_cons_succ]
        refine lp_cb2 E hC hW hu (p := p) (r1 := r1) (i := i) (r0 := r0) (by omega) (by omega) hk (fun j hj => by rw [hf (39 + (p + 1)) (by omega)]; exact hr j hj) hX (nM_ A) 0 0 ⟨by omega, rfl⟩ ?_
        refine k_aload_n hX.1 dX1_countBehind_90 rfl rfl ?_
        refine k_getr (t := 38) hX.1 dX1_countBehind_91 flX1_20 rfl (by decide) rfl rfl ?_
        refine k_iload_n hX.1 dX1_countBehind_94 rfl rfl ?_
        refine k_aaldI (j := p) (q := 39 + p) hX.1 dX1_countBehind_95 rfl (by omega) (n := 5) rfl (by omega) (by omega) rfl ?_
        refine k_iload hX.1 dX1_countBehind_96 rfl ?_
        refine k_iload hX.1 dX1_countBehind_98 rfl ?_
        refine k_iast (j := i) hX.1 dX1_countBehind_100 (sk_A39 (by omega)) (by omega) (n := 6) (ln_A39 (by omega)) (by omega) (by omega) ?_
        refine k_iinc hX.1 dX1_countBehind_101 rfl (by decide) rfl rfl ?_
        try simp only [List.set_cons_zero, List.set_cons_succ]
        refine k_goto (tgt := 19) hX.1 dX1_countBehind_104 (by decide) ?_
        exact k_sub (by repeat first | exact trivial | refine And.intro rfl ?_) (ih (i + 1) _ ⟨by omega, uI_w hk (by omega), h2, fun a ha => by rw [wr_off ha]; exact hf a ha, fun j hj => by
          by_cases e : j = i
          · subst e; rw [wr_at]; rw [hr0]
          · rw [wr_1, if_neg (by omega)]; exact hd j (by omega)⟩)
      · skip
        exact absurd c_29 (by omega)

set_option maxRecDepth 100000 in
set_option maxHeartbeats 4000000 in
theorem cU_cb (E : En) {A : St} {g h : Mm} {n : Int} (hC : CW A g) (hW : WW A n) (hu : uI A g h) {p r0 : Nat} (hr0 : (p : Int) + 1 + r0 = A 12 0) (hr : ∀ r1, r0 = r1 + 1 → ∀ i : Nat, (i : Int) < nmT (A 12 2) → h.1 (39 + (p + 1)) i = bhd A (tC A) (nM_ A) r1 (p + 1) (tC A i)) : Ok E 4 mX1_countBehind [vR 30, vR 3, vI (p : Int)] h (fun r g' => r = none ∧ g'.2 = h.2 ∧ (∀ a, a ≠ 39 + p → g'.1 a = h.1 a) ∧ ∀ i : Nat, (i : Int) < nmT (A 12 2) → g'.1 (39 + p) i = bhd A (tC A) (nM_ A) r0 p (tC A i)) := by
  obtain ⟨⟨hw1, hw2, hw3, hw4, hw5, hw6, hw7, hw8⟩, hwp, hwl⟩ := id hW
  have nb := nm_bd hW
  refine Ok_of gmX1_countBehind (by omega) (Nat.le_of_ble_eq_true rfl) (fun X hX => ?_)
  show V E X 0 [some (vR 30), some (vR 3), some (vI (p : Int)), none, none, none, none] [] h
  by_cases hz : r0 = 0
  · skip
    refine k_iload_n hX.1 dX1_countBehind_0 rfl rfl ?_
    refine k_iconst hX.1 dX1_countBehind_1 ?_
    refine k_iadd hX.1 dX1_countBehind_2 ?_
    refine k_aload_n hX.1 dX1_countBehind_3 rfl rfl ?_
    refine k_geti hX.1 dX1_countBehind_4 flX1_29 rfl (by decide) rfl ?_
    refine k_top (b := A 12 0) hu.2.1 ?_
    refine k_icmp_lt (tgt := 14) hX.1 dX1_countBehind_7 (by decide) (by omega) (by omega) (fun c_7 => ?_) (fun c_7 => ?_)
    · skip
      exact absurd c_7 (by omega)
    · skip
      refine k_iconst hX.1 dX1_countBehind_10 ?_
      refine k_goto (tgt := 15) hX.1 dX1_countBehind_11 (by decide) ?_
      refine k_istore_n hX.1 dX1_countBehind_15 rfl (by decide) rfl rfl ?_
      try simp only [List.set_cons_zero, List.set_cons_succ]
      refine k_iconst hX.1 dX1_countBehind_16 ?_
      refine k_istore hX.1 dX1_countBehind_17 (by decide) rfl rfl ?_
      try simp only [List.set_cons_zero, List.set_cons_succ]
      exact lp_cbL E hC hW hu hz (by omega) hX (nM_ A) 0 h ⟨by omega, hu, rfl, fun _ _ => rfl, fun j hj => absurd hj (Nat.not_lt_zero j)⟩
  · skip
    obtain ⟨r1, hr1⟩ : ∃ r1, r0 = r1 + 1 := ⟨r0 - 1, by omega⟩
    refine k_iload_n hX.1 dX1_countBehind_0 rfl rfl ?_
    refine k_iconst hX.1 dX1_countBehind_1 ?_
    refine k_iadd hX.1 dX1_countBehind_2 ?_
    refine k_aload_n hX.1 dX1_countBehind_3 rfl rfl ?_
    refine k_geti hX.1 dX1_countBehind_4 flX1_29 rfl (by decide) rfl ?_
    refine k_top (b := A 12 0) hu.2.1 ?_
    refine k_icmp_lt (tgt := 14) hX.1 dX1_countBehind_7 (by decide) (by omega) (by omega) (fun c_7 => ?_) (fun c_7 => ?_)
    · skip
      refine k_iconst hX.1 dX1_countBehind_14 ?_
      refine k_istore_n hX.1 dX1_countBehind_15 rfl (by decide) rfl rfl ?_
      try simp only [List.set_cons_zero, List.set_cons_succ]
      refine k_iconst hX.1 dX1_countBehind_16 ?_
      refine k_istore hX.1 dX1_countBehind_17 (by decide) rfl rfl ?_
      try simp only [List.set_cons_zero, List.set_cons_succ]
      exact lp_cb1 E hC hW hu hr1 (by omega) (hr r1 hr1) hX (nM_ A) 0 h ⟨by omega, hu, rfl, fun _ _ => rfl, fun j hj => absurd hj (Nat.not_lt_zero j)⟩
    · skip
      exact absurd c_7 (by omega)

/-- all is counted -/
def uS (A : St) (g h : Mm) : Prop := uI A g h ∧ (∀ q i : Nat, (q : Int) < A 12 0 → (i : Int) < nmT (A 12 2) → h.1 (33 + q) i = ahd A (tC A) (nM_ A) q (tC A i)) ∧ ∀ q i : Nat, (q : Int) < A 12 0 → (i : Int) < nmT (A 12 2) → h.1 (39 + q) i = bhd A (tC A) (nM_ A) ((A 12 0).toNat - 1 - q) q (tC A i)
theorem uI_of {A : St} {g h k : Mm} (hu : uI A g h) {c : Nat} (hc : 32 ≤ c ∧ c ≤ 43) (h2 : k.2 = h.2) (hf : ∀ a, a ≠ c → k.1 a = h.1 a) : uI A g k := ⟨by rw [hf 30 (by omega)]; exact hu.1, by rw [hf 30 (by omega)]; exact hu.2.1, fun i hi => by rw [hf 31 (by omega)]; exact hu.2.2.1 i hi, fun a ha => by rw [hf a (by omega)]; exact hu.2.2.2.1 a ha, h2.trans hu.2.2.2.2⟩
set_option maxRecDepth 100000 in
set_option maxHeartbeats 4000000 in
theorem lp_st2 (E : En) {A : St} {g : Mm} {n : Int} (hC : CW A g) (hW : WW A n) {X : Cx} (hX : Wk E mX1_study X 5 (fun r g' => r = none ∧ uS A g g')) : ∀ (m : Nat) (h : Mm), ((m : Int) ≤ A 12 0 ∧ uI A g h ∧ (∀ q i : Nat, (q : Int) < A 12 0 → (i : Int) < nmT (A 12 2) → h.1 (33 + q) i = ahd A (tC A) (nM_ A) q (tC A i)) ∧ (∀ q i : Nat, m ≤ q → (q : Int) < A 12 0 → (i : Int) < nmT (A 12 2) → h.1 (39 + q) i = bhd A (tC A) (nM_ A) ((A 12 0).toNat - 1 - q) q (tC A i))) → V E X 42 [some (vR 30), some (vR 3), some (vI ((m : Int) - 1))] [] h := by
  obtain ⟨⟨hw1, hw2, hw3, hw4, hw5, hw6, hw7, hw8⟩, hwp, hwl⟩ := id hW
  have nb := nm_bd hW
  intro m
  induction m with
  | zero =>
    intro h ⟨hm, hu, ha, hb⟩
    refine k_iload_n hX.1 dX1_study_42 rfl rfl ?_
    refine k_if_lt (tgt := 58) hX.1 dX1_study_43 (by decide) (by decide) (fun c_43 => ?_) (fun c_43 => ?_)
    · skip
      refine k_vret hX dX1_study_58 rfl ?_
      exact ⟨rfl, hu, ha, fun q i h1 h2 => hb q i (by omega) h1 h2⟩
    · skip
      exact absurd c_43 (by decide)
  | succ m ih =>
    intro h ⟨hm, hu, ha, hb⟩
    rw [show ((m + 1 : Nat) : Int) - 1 = (m : Int) by omega]
    refine k_iload_n hX.1 dX1_study_42 rfl rfl ?_
    refine k_if_lt (tgt := 58) hX.1 dX1_study_43 (by decide) (by omega) (fun c_43 => ?_) (fun c_43 => ?_)
    · skip
      exact absurd c_43 (by omega)
    · skip
      refine k_aload_n hX.1 dX1_study_46 rfl rfl ?_
      refine k_aload_n hX.1 dX1_study_47 rfl rfl ?_
      refine k_iload_n hX.1 dX1_study_48 rfl rfl ?_
      refine k_callV (d2 := 4) (n := 2) (as := [_, _]) hX.1 dX1_study_49 lkX1_38 (fit_of hX (by omega) gmX1_countBehind) rfl rfl (by decide) rfl rfl rfl (Nat.le_of_ble_eq_true rfl) (cU_cb E hC hW hu (p := m) (r0 := (A 12 0).toNat - 1 - m) (by omega) (fun r1 hr i hi => by rw [hb (m + 1) i (by omega) (by omega) hi, show (A 12 0).toNat - 1 - (m + 1) = r1 by omega])) (fun r_49 g_49 q_49 => ?_)
      obtain ⟨rfl, z2, zf, zr⟩ := q_49
      show V E X 52 _ [] _
      refine k_iinc hX.1 dX1_study_52 rfl (by decide) rfl rfl ?_
      try simp only [List.set_cons_zero, List.set_cons_succ]
      refine k_goto (tgt := 42) hX.1 dX1_study_55 (by decide) ?_
      exact ih _ ⟨by omega, uI_of hu (c := 39 + m) (by omega) z2 zf, fun q i h1 h2 => by rw [zf (33 + q) (by omega)]; exact ha q i h1 h2, fun q i h1 h2 h3 => by
        by_cases e : q = m
        · subst e; exact zr i h3
        · rw [zf (39 + q) (by omega)]; exact hb q i (by omega) h2 h3⟩

set_option maxRecDepth 100000 in
set_option maxHeartbeats 4000000 in
theorem lp_st1 (E : En) {A : St} {g : Mm} {n : Int} (hC : CW A g) (hW : WW A n) {X : Cx} (hX : Wk E mX1_study X 5 (fun r g' => r = none ∧ uS A g g')) : ∀ (m : Nat) (p : Nat) (h : Mm), ((m : Int) + p = A 12 0 ∧ uI A g h ∧ (∀ q i : Nat, q < p → (i : Int) < nmT (A 12 2) → h.1 (33 + q) i = ahd A (tC A) (nM_ A) q (tC A i))) → V E X 15 [some (vR 30), some (vR 3), some (vI (p : Int))] [] h := by
  obtain ⟨⟨hw1, hw2, hw3, hw4, hw5, hw6, hw7, hw8⟩, hwp, hwl⟩ := id hW
  have nb := nm_bd hW
  intro m
  induction m with
  | zero =>
    intro p h ⟨hm, hu, ha⟩
    obtain hp : (p : Int) = A 12 0 := by omega
    refine k_iload_n hX.1 dX1_study_15 rfl rfl ?_
    refine k_aload_n hX.1 dX1_study_16 rfl rfl ?_
    refine k_geti hX.1 dX1_study_17 flX1_29 rfl (by decide) rfl ?_
    refine k_top (b := A 12 0) hu.2.1 ?_
    refine k_icmp_ge (tgt := 35) hX.1 dX1_study_20 (by decide) (by omega) (by omega) (fun c_20 => ?_) (fun c_20 => ?_)
    · skip
      refine k_aload_n hX.1 dX1_study_35 rfl rfl ?_
      refine k_geti hX.1 dX1_study_36 flX1_29 rfl (by decide) rfl ?_
      refine k_top (b := A 12 0) hu.2.1 ?_
      refine k_iconst hX.1 dX1_study_39 ?_
      refine k_isub hX.1 dX1_study_40 ?_
      refine k_istore_n hX.1 dX1_study_41 rfl (by decide) rfl rfl ?_
      try simp only [List.set_cons_zero, List.set_cons_succ]
      have h0 := lp_st2 E hC hW hX (A 12 0).toNat h ⟨by omega, hu, fun q i h1 h2 => ha q i (by omega) h2, fun q i h1 h2 => by omega⟩
      rw [show (((A 12 0).toNat : Nat) : Int) = A 12 0 by omega] at h0
      exact h0
    · skip
      exact absurd c_20 (by omega)
  | succ m ih =>
    intro p h ⟨hm, hu, ha⟩
    refine k_iload_n hX.1 dX1_study_15 rfl rfl ?_
    refine k_aload_n hX.1 dX1_study_16 rfl rfl ?_
    refine k_geti hX.1 dX1_study_17 flX1_29 rfl (by decide) rfl ?_
    refine k_top (b := A 12 0) hu.2.1 ?_
    refine k_icmp_ge (tgt := 35) hX.1 dX1_study_20 (by decide) (by omega) (by omega) (fun c_20 => ?_) (fun c_20 => ?_)
    · skip
      exact absurd c_20 (by omega)
    · skip
      refine k_aload_n hX.1 dX1_study_23 rfl rfl ?_
      refine k_aload_n hX.1 dX1_study_24 rfl rfl ?_
      refine k_iload_n hX.1 dX1_study_25 rfl rfl ?_
      refine k_callV (d2 := 4) (n := 2) (as := [_, _]) hX.1 dX1_study_26 lkX1_34 (fit_of hX (by omega) gmX1_countAhead) rfl rfl (by decide) rfl rfl rfl (Nat.le_of_ble_eq_true rfl) (cU_ca E hC hW hu (p := p) (by omega) (fun q hq i hi => ha q i (by omega) hi)) (fun r_26 g_26 q_26 => ?_)
      obtain ⟨rfl, z2, zf, zr⟩ := q_26
      show V E X 29 _ [] _
      refine k_iinc hX.1 dX1_study_29 rfl (by decide) rfl rfl ?_
      try simp only [List.set_cons_zero, List.set_cons_succ]
      refine k_goto (tgt := 15) hX.1 dX1_study_32 (by decide) ?_
      exact ih (p + 1) _ ⟨by omega, uI_of hu (c := 33 + p) (by omega) z2 zf, fun q i h1 h2 => by
        by_cases e : q = p
        · subst e; exact zr i h2
        · rw [zf (33 + q) (by omega)]; exact ha q i (by omega) h2⟩

set_option maxRecDepth 100000 in
set_option maxHeartbeats 4000000 in
theorem cU_study (E : En) {A : St} {g : Mm} {n : Int} (hC : CW A g) (hW : WW A n) : Ok E 5 mX1_study [vR 30, vR 3] g (fun r g' => r = none ∧ uS A g g') := by
  obtain ⟨⟨hw1, hw2, hw3, hw4, hw5, hw6, hw7, hw8⟩, hwp, hwl⟩ := id hW
  have nb := nm_bd hW
  refine Ok_of gmX1_study (by omega) (Nat.le_of_ble_eq_true rfl) (fun X hX => ?_)
  show V E X 0 [some (vR 30), some (vR 3), none] [] g
  refine k_aload_n hX.1 dX1_study_0 rfl rfl ?_
  refine k_aload_n hX.1 dX1_study_1 rfl rfl ?_
  refine k_geti hX.1 dX1_study_2 flX1_23 rfl (by decide) rfl ?_
  refine k_top (b := A 12 0) hC.1.1 ?_
  refine k_puti hX.1 dX1_study_5 flX1_29 rfl (by decide) rfl ?_
  refine k_aload_n hX.1 dX1_study_8 rfl rfl ?_
  refine k_aload_n hX.1 dX1_study_9 rfl rfl ?_
  refine k_callV (d2 := 1) (n := 1) (as := [_]) hX.1 dX1_study_10 lkX1_30 (fit_of hX (by omega) gmX1_listMakes) rfl rfl (by decide) rfl rfl rfl (Nat.le_of_ble_eq_true rfl) (cU_lm E (CW_fr hC (g' := wr g 30 4 (A 12 0)) (fun a h1 h2 => wr_off (by omega)) ⟨rfl, rfl, rfl⟩ (fun _ _ _ _ => rfl) (fun _ _ _ _ _ => rfl) hw2 hw4) hW) (fun r_10 g_10 q_10 => ?_)
  obtain ⟨rfl, z1, z2, z3, z4, z5⟩ := q_10
  show V E X 13 _ [] _
  refine k_iconst hX.1 dX1_study_13 ?_
  refine k_istore_n hX.1 dX1_study_14 rfl (by decide) rfl rfl ?_
  try simp only [List.set_cons_zero, List.set_cons_succ]
  exact lp_st1 E hC hW hX (A 12 0).toNat 0 _ ⟨by omega, ⟨z1, by rw [z3, wr_at], z2, fun a ha => by rw [z4 a (by omega) (by omega), wr_off (by omega)], z5⟩, fun q i hq => absurd hq (Nat.not_lt_zero q)⟩
