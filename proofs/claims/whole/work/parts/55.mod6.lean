def fgI (A : St) (q : Nat) (lo hi : Int) : Int := if (q : Int) < A 12 3 ∧ lo ≤ A 11 q - 48 ∧ A 11 q - 48 ≤ hi then 1 else 0
def sgI (A : St) (q : Nat) (c : Int) : Int := if (q : Int) < A 12 3 ∧ A 11 q = c then 1 else 0
theorem fgI_01 (A : St) (q : Nat) (lo hi : Int) : fgI A q lo hi = 0 ∨ fgI A q lo hi = 1 := by unfold fgI; split <;> omega
theorem sgI_01 (A : St) (q : Nat) (c : Int) : sgI A q c = 0 ∨ sgI A q c = 1 := by unfold sgI; split <;> omega
theorem fgI_0 {A : St} {q : Nat} {lo hi : Int} (h : fgI A q lo hi = 0) : ¬ ((q : Int) < A 12 3 ∧ lo ≤ A 11 q - 48 ∧ A 11 q - 48 ≤ hi) := fun z => by rw [fgI, if_pos z] at h; omega
theorem fgI_1 {A : St} {q : Nat} {lo hi : Int} (h : ¬ fgI A q lo hi = 0) : (q : Int) < A 12 3 ∧ lo ≤ A 11 q - 48 ∧ A 11 q - 48 ≤ hi := Classical.byContradiction (fun z => h (by rw [fgI, if_neg z]))
theorem sgI_0 {A : St} {q : Nat} {c : Int} (h : sgI A q c = 0) : ¬ ((q : Int) < A 12 3 ∧ A 11 q = c) := fun z => by rw [sgI, if_pos z] at h; omega
theorem sgI_1 {A : St} {q : Nat} {c : Int} (h : ¬ sgI A q c = 0) : (q : Int) < A 12 3 ∧ A 11 q = c := Classical.byContradiction (fun z => h (by rw [sgI, if_neg z]))
set_option maxRecDepth 100000 in
set_option maxHeartbeats 4000000 in
theorem cM_isFigure (E : En) {A : St} {g : Mm} (hP : MPg A g) (hQ : WPg A) {x lo hi : Int} {q : Nat} (hx : x = (q : Int)) (hx2 : q ≤ 30) (hl : 0 ≤ lo ∧ lo ≤ 9) (hh : 0 ≤ hi ∧ hi ≤ 9) : Fn E 2 mX8_isFigure [vR 46, vI x, vI lo, vI hi] g (vI (fgI A q lo hi)) := by
  obtain ⟨hg1, hg2⟩ := id hP
  obtain ⟨hq1, hq2, hq3⟩ := id hQ
  refine Ok_of gmX8_isFigure (by omega) (Nat.le_of_ble_eq_true rfl) (fun X hX => ?_)
  show V E X 0 [some (vR 46), some (vI x), some (vI lo), some (vI hi)] [] g
  subst hx
  by_cases i1 : (q : Int) < A 12 3
  · skip
    have e := hg2 q i1
    have e2 := hq3 q i1
    by_cases i2 : lo ≤ A 11 q - 48 ∧ A 11 q - 48 ≤ hi
    · skip
      refine k_iload_n hX.1 dX8_isFigure_0 rfl rfl ?_
      refine k_aload_n hX.1 dX8_isFigure_1 rfl rfl ?_
      refine k_geti hX.1 dX8_isFigure_2 flX8_90 rfl (by decide) rfl ?_
      refine k_icmp_ge (tgt := 29) hX.1 dX8_isFigure_5 (by decide) (by omega) (by omega) (fun c_5 => ?_) (fun c_5 => ?_)
      · skip
        exact absurd c_5 (by omega)
      · skip
        refine k_aload_n hX.1 dX8_isFigure_8 rfl rfl ?_
        refine k_getr (t := 58) hX.1 dX8_isFigure_9 flX8_43 rfl (by decide) rfl rfl ?_
        refine k_iload_n hX.1 dX8_isFigure_12 rfl rfl ?_
        refine k_bald (j := q) hX.1 dX8_isFigure_13 rfl (by omega) (n := 18) rfl (by omega) (by omega) ?_
        refine k_top e ?_
        refine k_bipush hX.1 dX8_isFigure_14 (by decide) ?_
        refine k_isub hX.1 dX8_isFigure_16 ?_
        refine k_iload_n hX.1 dX8_isFigure_17 rfl rfl ?_
        refine k_iload_n hX.1 dX8_isFigure_18 rfl rfl ?_
        refine k_callSf (d2 := 1) (n := 3) (as := [_, _, _]) hX.1 dX8_isFigure_19 lkX8_86 (fit_of hX (by omega) gmX8_within) rfl rfl (Nat.le_of_ble_eq_true rfl) (cM_within1 E g (by omega) (by omega) (by omega) i2) ?_
        refine k_if_eq (tgt := 29) hX.1 dX8_isFigure_22 (by decide) (by omega) (fun c_22 => ?_) (fun c_22 => ?_)
        · skip
          exact absurd c_22 (by decide)
        · skip
          refine k_iconst hX.1 dX8_isFigure_25 ?_
          refine k_goto (tgt := 30) hX.1 dX8_isFigure_26 (by decide) ?_
          refine k_zret hX dX8_isFigure_30 rfl (by omega) ?_
          exact ⟨by rw [fgI, if_pos ⟨i1, i2⟩], rfl⟩
    · skip
      refine k_iload_n hX.1 dX8_isFigure_0 rfl rfl ?_
      refine k_aload_n hX.1 dX8_isFigure_1 rfl rfl ?_
      refine k_geti hX.1 dX8_isFigure_2 flX8_90 rfl (by decide) rfl ?_
      refine k_icmp_ge (tgt := 29) hX.1 dX8_isFigure_5 (by decide) (by omega) (by omega) (fun c_5 => ?_) (fun c_5 => ?_)
      · skip
        exact absurd c_5 (by omega)
      · skip
        refine k_aload_n hX.1 dX8_isFigure_8 rfl rfl ?_
        refine k_getr (t := 58) hX.1 dX8_isFigure_9 flX8_43 rfl (by decide) rfl rfl ?_
        refine k_iload_n hX.1 dX8_isFigure_12 rfl rfl ?_
        refine k_bald (j := q) hX.1 dX8_isFigure_13 rfl (by omega) (n := 18) rfl (by omega) (by omega) ?_
        refine k_top e ?_
        refine k_bipush hX.1 dX8_isFigure_14 (by decide) ?_
        refine k_isub hX.1 dX8_isFigure_16 ?_
        refine k_iload_n hX.1 dX8_isFigure_17 rfl rfl ?_
        refine k_iload_n hX.1 dX8_isFigure_18 rfl rfl ?_
        refine k_callSf (d2 := 1) (n := 3) (as := [_, _, _]) hX.1 dX8_isFigure_19 lkX8_86 (fit_of hX (by omega) gmX8_within) rfl rfl (Nat.le_of_ble_eq_true rfl) (cM_within0 E g (by omega) (by omega) (by omega) i2) ?_
        refine k_if_eq (tgt := 29) hX.1 dX8_isFigure_22 (by decide) (by omega) (fun c_22 => ?_) (fun c_22 => ?_)
        · skip
          refine k_iconst hX.1 dX8_isFigure_29 ?_
          refine k_zret hX dX8_isFigure_30 rfl (by omega) ?_
          exact ⟨by rw [fgI, if_neg (fun z => i2 z.2)], rfl⟩
        · skip
          exact absurd rfl c_22
  · skip
    refine k_iload_n hX.1 dX8_isFigure_0 rfl rfl ?_
    refine k_aload_n hX.1 dX8_isFigure_1 rfl rfl ?_
    refine k_geti hX.1 dX8_isFigure_2 flX8_90 rfl (by decide) rfl ?_
    refine k_icmp_ge (tgt := 29) hX.1 dX8_isFigure_5 (by decide) (by omega) (by omega) (fun c_5 => ?_) (fun c_5 => ?_)
    · skip
      refine k_iconst hX.1 dX8_isFigure_29 ?_
      refine k_zret hX dX8_isFigure_30 rfl (by omega) ?_
      exact ⟨by rw [fgI, if_neg (fun z => i1 z.1)], rfl⟩
    · skip
      exact absurd c_5 (by omega)

set_option maxRecDepth 100000 in
set_option maxHeartbeats 4000000 in
theorem cM_isSign (E : En) {A : St} {g : Mm} (hP : MPg A g) (hQ : WPg A) {x c : Int} {q : Nat} (hx : x = (q : Int)) (hx2 : q ≤ 30) (hc : 0 ≤ c ∧ c ≤ 200) : Fn E 1 mX8_isSign [vR 46, vI x, vI c] g (vI (sgI A q c)) := by
  obtain ⟨hg1, hg2⟩ := id hP
  obtain ⟨hq1, hq2, hq3⟩ := id hQ
  refine Ok_of gmX8_isSign (by omega) (Nat.le_of_ble_eq_true rfl) (fun X hX => ?_)
  show V E X 0 [some (vR 46), some (vI x), some (vI c)] [] g
  subst hx
  by_cases i1 : (q : Int) < A 12 3
  · skip
    have e := hg2 q i1
    have e2 := hq3 q i1
    by_cases i2 : A 11 q = c
    · skip
      refine k_iload_n hX.1 dX8_isSign_0 rfl rfl ?_
      refine k_aload_n hX.1 dX8_isSign_1 rfl rfl ?_
      refine k_geti hX.1 dX8_isSign_2 flX8_90 rfl (by decide) rfl ?_
      refine k_icmp_ge (tgt := 22) hX.1 dX8_isSign_5 (by decide) (by omega) (by omega) (fun c_5 => ?_) (fun c_5 => ?_)
      · skip
        exact absurd c_5 (by omega)
      · skip
        refine k_aload_n hX.1 dX8_isSign_8 rfl rfl ?_
        refine k_getr (t := 58) hX.1 dX8_isSign_9 flX8_43 rfl (by decide) rfl rfl ?_
        refine k_iload_n hX.1 dX8_isSign_12 rfl rfl ?_
        refine k_bald (j := q) hX.1 dX8_isSign_13 rfl (by omega) (n := 18) rfl (by omega) (by omega) ?_
        refine k_top e ?_
        refine k_iload_n hX.1 dX8_isSign_14 rfl rfl ?_
        refine k_icmp_ne (tgt := 22) hX.1 dX8_isSign_15 (by decide) (by omega) (by omega) (fun c_15 => ?_) (fun c_15 => ?_)
        · skip
          exact absurd c_15 (by omega)
        · skip
          refine k_iconst hX.1 dX8_isSign_18 ?_
          refine k_goto (tgt := 23) hX.1 dX8_isSign_19 (by decide) ?_
          refine k_zret hX dX8_isSign_23 rfl (by omega) ?_
          exact ⟨by rw [sgI, if_pos ⟨i1, i2⟩], rfl⟩
    · skip
      refine k_iload_n hX.1 dX8_isSign_0 rfl rfl ?_
      refine k_aload_n hX.1 dX8_isSign_1 rfl rfl ?_
      refine k_geti hX.1 dX8_isSign_2 flX8_90 rfl (by decide) rfl ?_
      refine k_icmp_ge (tgt := 22) hX.1 dX8_isSign_5 (by decide) (by omega) (by omega) (fun c_5 => ?_) (fun c_5 => ?_)
      · skip
        exact absurd c_5 (by omega)
      · skip
        refine k_aload_n hX.1 dX8_isSign_8 rfl rfl ?_
        refine k_getr (t := 58) hX.1 dX8_isSign_9 flX8_43 rfl (by decide) rfl rfl ?_
        refine k_iload_n hX.1 dX8_isSign_12 rfl rfl ?_
        refine k_bald (j := q) hX.1 dX8_isSign_13 rfl (by omega) (n := 18) rfl (by omega) (by omega) ?_
        refine k_top e ?_
        refine k_iload_n hX.1 dX8_isSign_14 rfl rfl ?_
        refine k_icmp_ne (tgt := 22) hX.1 dX8_isSign_15 (by decide) (by omega) (by omega) (fun c_15 => ?_) (fun c_15 => ?_)
        · skip
          refine k_iconst hX.1 dX8_isSign_22 ?_
          refine k_zret hX dX8_isSign_23 rfl (by omega) ?_
          exact ⟨by rw [sgI, if_neg (fun z => i2 z.2)], rfl⟩
        · skip
          exact absurd c_15 (by omega)
  · skip
    refine k_iload_n hX.1 dX8_isSign_0 rfl rfl ?_
    refine k_aload_n hX.1 dX8_isSign_1 rfl rfl ?_
    refine k_geti hX.1 dX8_isSign_2 flX8_90 rfl (by decide) rfl ?_
    refine k_icmp_ge (tgt := 22) hX.1 dX8_isSign_5 (by decide) (by omega) (by omega) (fun c_5 => ?_) (fun c_5 => ?_)
    · skip
      refine k_iconst hX.1 dX8_isSign_22 ?_
      refine k_zret hX dX8_isSign_23 rfl (by omega) ?_
      exact ⟨by rw [sgI, if_neg (fun z => i1 z.1)], rfl⟩
    · skip
      exact absurd c_5 (by omega)

/-- where the reading of the fade ends, and whether all was read -/
def fdR (A : St) (q : Nat) : Int := if fgI A q 0 3 = 0 then (q : Int) else (q : Int) + 1
def fdG (A : St) (g : Mm) (q : Nat) : Mm := if fgI A q 0 3 = 0 then g else wr g 46 19 (if (q : Int) + 1 = A 12 3 then 1 else 0)
set_option maxRecDepth 100000 in
set_option maxHeartbeats 4000000 in
theorem cM_readFade (E : En) {A : St} {g : Mm} (hP : MPg A g) (hQ : WPg A) {x : Int} {q : Nat} (hx : x = (q : Int)) (hx2 : q ≤ 25) : Ok E 3 mX8_readFade [vR 46, vI x] g (fun r g' => r = some (vI (fdR A q)) ∧ g' = fdG A g q) := by
  obtain ⟨hg1, hg2⟩ := id hP
  obtain ⟨hq1, hq2, hq3⟩ := id hQ
  refine Ok_of gmX8_readFade (by omega) (Nat.le_of_ble_eq_true rfl) (fun X hX => ?_)
  show V E X 0 [some (vR 46), some (vI x)] [] g
  subst hx
  rcases fgI_01 A q 0 3 with i1 | i1
  · skip
    refine k_aload_n hX.1 dX8_readFade_0 rfl rfl ?_
    refine k_iload_n hX.1 dX8_readFade_1 rfl rfl ?_
    refine k_iconst hX.1 dX8_readFade_2 ?_
    refine k_iconst hX.1 dX8_readFade_3 ?_
    refine k_callVf (d2 := 2) (n := 3) (as := [_, _, _]) hX.1 dX8_readFade_4 lkX8_105 (fit_of hX (by omega) gmX8_isFigure) rfl rfl (by decide) rfl rfl rfl (Nat.le_of_ble_eq_true rfl) (cM_isFigure E hP hQ (q := q) rfl (by omega) (by omega) (by omega)) ?_
    refine k_top i1 ?_
    refine k_if_ne (tgt := 12) hX.1 dX8_readFade_7 (by decide) (by omega) (fun c_7 => ?_) (fun c_7 => ?_)
    · skip
      exact absurd rfl c_7
    · skip
      refine k_iload_n hX.1 dX8_readFade_10 rfl rfl ?_
      refine k_iret hX dX8_readFade_11 rfl ?_
      exact ⟨by rw [fdR, if_pos i1], by rw [fdG, if_pos i1]⟩
  · skip
    have i2 : ¬ fgI A q 0 3 = 0 := by omega
    refine k_aload_n hX.1 dX8_readFade_0 rfl rfl ?_
    refine k_iload_n hX.1 dX8_readFade_1 rfl rfl ?_
    refine k_iconst hX.1 dX8_readFade_2 ?_
    refine k_iconst hX.1 dX8_readFade_3 ?_
    refine k_callVf (d2 := 2) (n := 3) (as := [_, _, _]) hX.1 dX8_readFade_4 lkX8_105 (fit_of hX (by omega) gmX8_isFigure) rfl rfl (by decide) rfl rfl rfl (Nat.le_of_ble_eq_true rfl) (cM_isFigure E hP hQ (q := q) rfl (by omega) (by omega) (by omega)) ?_
    refine k_top i1 ?_
    refine k_if_ne (tgt := 12) hX.1 dX8_readFade_7 (by decide) (by omega) (fun c_7 => ?_) (fun c_7 => ?_)
    · skip
      refine k_aload_n hX.1 dX8_readFade_12 rfl rfl ?_
      refine k_iload_n hX.1 dX8_readFade_13 rfl rfl ?_
      refine k_iconst hX.1 dX8_readFade_14 ?_
      refine k_iadd hX.1 dX8_readFade_15 ?_
      refine k_aload_n hX.1 dX8_readFade_16 rfl rfl ?_
      refine k_geti hX.1 dX8_readFade_17 flX8_90 rfl (by decide) rfl ?_
      refine k_join2 28 (fun z => z = if (q : Int) + 1 = A 12 3 then 1 else 0) (fun x1 hx1 => ?_) (fun jn_20 => ?_)
      · skip
        have x01 : x1 = 0 ∨ x1 = 1 := by rw [hx1]; split <;> omega
        refine k_putz hX.1 dX8_readFade_28 flX8_97 rfl (by decide) rfl (by omega) ?_
        refine k_iload_n hX.1 dX8_readFade_31 rfl rfl ?_
        refine k_iconst hX.1 dX8_readFade_32 ?_
        refine k_iadd hX.1 dX8_readFade_33 ?_
        refine k_iret hX dX8_readFade_34 rfl ?_
        exact ⟨by rw [fdR, if_neg i2], by rw [fdG, if_neg i2, hx1]⟩
      · refine k_icmp_ne (tgt := 27) hX.1 dX8_readFade_20 (by decide) (by omega) (by omega) (fun c_20 => ?_) (fun c_20 => ?_)
        · skip
          refine k_iconst hX.1 dX8_readFade_27 ?_
          exact jn_20 _ (by first | rw [if_pos (by omega)] | rw [if_neg (by omega)])
        · skip
          refine k_iconst hX.1 dX8_readFade_23 ?_
          refine k_goto (tgt := 28) hX.1 dX8_readFade_24 (by decide) ?_
          exact jn_20 _ (by first | rw [if_pos (by omega)] | rw [if_neg (by omega)])
    · skip
      exact absurd c_7 (by decide)

/-- what the reading knows at the head of its loop -/
def rdI (A : St) (j : Nat) : Prop := j ≤ 4 ∧ ((3 * j : Nat) : Int) ≤ A 12 3 ∧ ffr (A 11) ((A 12 3).toNat - 3 * j) (3 * j) (-1) = rFault A ∧ (∀ i, i < 3 * j → A 11 i ≠ 59)
theorem rd_len {A : St} {q : Nat} {e : Int} (h : (q : Int) < A 12 3) : ∃ m, (A 12 3).toNat - q = m + 1 ∧ (A 12 3).toNat - (q + 1) = m := ⟨(A 12 3).toNat - (q + 1), by omega, rfl⟩
theorem not_wh {A : St} {r : Int} (h : rFault A = r) (h2 : r < A 12 3 ∨ (r = A 12 3 ∧ (2 ≤ A 12 3 → A 11 (A 12 3 - 2).toNat ≠ 59))) : ¬ wh A := by
  rintro ⟨a, b, c⟩
  rcases h2 with h2 | ⟨h2, h3⟩
  · omega
  · exact h3 a b
theorem rd1 {A : St} {j : Nat} (h : rdI A j) (e : ((3 * j : Nat) : Int) = A 12 3) : rFault A = ((3 * j : Nat) : Int) ∧ ¬ wh A := by
  obtain ⟨h1, h2, h3, h4⟩ := h
  rw [show (A 12 3).toNat - 3 * j = 0 by omega, ffr] at h3
  exact ⟨h3.symm, not_wh h3.symm (Or.inr ⟨e, fun z => h4 _ (by omega)⟩)⟩
theorem rd2 {A : St} {j : Nat} (h : rdI A j) (e : ((3 * j : Nat) : Int) < A 12 3) (k : kix (A 11 (3 * j)) = -1) : rFault A = ((3 * j : Nat) : Int) ∧ ¬ wh A := by
  obtain ⟨h1, h2, h3, h4⟩ := h
  obtain ⟨m, hm, -⟩ := rd_len (e := 0) e
  rw [hm, ffr_kn (by omega)] at h3
  exact ⟨h3.symm, not_wh h3.symm (Or.inl e)⟩
theorem rd_r {A : St} {j : Nat} (h : rdI A j) (e : ((3 * j : Nat) : Int) < A 12 3) (k : 0 ≤ kix (A 11 (3 * j))) : ffr (A 11) ((A 12 3).toNat - (3 * j + 1)) (3 * j + 1) (-1) = rFault A ∧ A 11 (3 * j) ≠ 59 := by
  obtain ⟨h1, h2, h3, h4⟩ := h
  obtain ⟨m, hm, hm2⟩ := rd_len (e := 0) e
  rw [hm, ffr_k k] at h3
  rw [hm2]
  refine ⟨h3, fun z => ?_⟩
  have := kix_ne k
  omega
theorem rd3 {A : St} {j : Nat} (h : rdI A j) (e : ((3 * j : Nat) : Int) < A 12 3) (k : 0 ≤ kix (A 11 (3 * j))) (f : fgI A (3 * j + 1) 1 9 = 0) : rFault A = ((3 * j + 1 : Nat) : Int) ∧ ¬ wh A := by
  obtain ⟨r1, r2⟩ := rd_r h e k
  obtain ⟨h1, h2, h3, h4⟩ := h
  have f := fgI_0 f
  by_cases z : ((3 * j + 1 : Nat) : Int) < A 12 3
  · obtain ⟨m, hm, hm2⟩ := rd_len (e := 0) z
    rw [hm, ffr_rn (by omega)] at r1
    exact ⟨r1.symm, not_wh r1.symm (Or.inl z)⟩
  · rw [show (A 12 3).toNat - (3 * j + 1) = 0 by omega, ffr] at r1
    exact ⟨r1.symm, not_wh r1.symm (Or.inr ⟨by omega, fun z => h4 _ (by omega)⟩)⟩
theorem rd_s {A : St} {j : Nat} (h : rdI A j) (e : ((3 * j : Nat) : Int) < A 12 3) (k : 0 ≤ kix (A 11 (3 * j))) (f : ¬ fgI A (3 * j + 1) 1 9 = 0) : ffr (A 11) ((A 12 3).toNat - (3 * j + 2)) (3 * j + 2) (-1) = rFault A ∧ A 11 (3 * j + 1) ≠ 59 ∧ A 11 (3 * j) ≠ 59 ∧ ((3 * j + 1 : Nat) : Int) < A 12 3 := by
  obtain ⟨r1, r2⟩ := rd_r h e k
  have f := fgI_1 f
  obtain ⟨m, hm, hm2⟩ := rd_len (e := 0) f.1
  rw [hm, ffr_r (by omega)] at r1
  rw [show (A 12 3).toNat - (3 * j + 2) = m by omega]
  exact ⟨r1, by omega, r2, f.1⟩
theorem rd5 {A : St} {j : Nat} (h : rdI A j) (e : ((3 * j : Nat) : Int) < A 12 3) (k : 0 ≤ kix (A 11 (3 * j))) (f : ¬ fgI A (3 * j + 1) 1 9 = 0) (s1 : j = 0 ∨ sgI A (3 * j + 2) 59 = 0) (s2 : j = 4 ∨ sgI A (3 * j + 2) 44 = 0) : rFault A = ((3 * j + 2 : Nat) : Int) ∧ ¬ wh A := by
  obtain ⟨r1, r2, r3, r4⟩ := rd_s h e k f
  obtain ⟨h1, h2, h3, h4⟩ := h
  by_cases z : ((3 * j + 2 : Nat) : Int) < A 12 3
  · obtain ⟨m, hm, hm2⟩ := rd_len (e := 0) z
    rw [hm, ffr_sn (by rcases s2 with s2 | s2; (· omega); (· have := sgI_0 s2; omega)) (by rcases s1 with s1 | s1; (· omega); (· have := sgI_0 s1; omega))] at r1
    exact ⟨r1.symm, not_wh r1.symm (Or.inl z)⟩
  · rw [show (A 12 3).toNat - (3 * j + 2) = 0 by omega, ffr] at r1
    refine ⟨r1.symm, not_wh r1.symm (Or.inr ⟨by omega, fun z => ?_⟩)⟩
    rw [show (A 12 3 - 2).toNat = 3 * j by omega]
    exact r3
theorem rd_n {A : St} {j : Nat} (h : rdI A j) (e : ((3 * j : Nat) : Int) < A 12 3) (k : 0 ≤ kix (A 11 (3 * j))) (f : ¬ fgI A (3 * j + 1) 1 9 = 0) (hj : j < 4) (s2 : ¬ sgI A (3 * j + 2) 44 = 0) : rdI A (j + 1) := by
  obtain ⟨r1, r2, r3, r4⟩ := rd_s h e k f
  obtain ⟨h1, h2, h3, h4⟩ := h
  have s := sgI_1 s2
  obtain ⟨m, hm, hm2⟩ := rd_len (e := 0) s.1
  rw [hm, ffr_c s.2 hj] at r1
  refine ⟨by omega, by omega, ?_, fun i hi => ?_⟩
  · rw [show (A 12 3).toNat - 3 * (j + 1) = m by omega]; exact r1
  · rcases (show i < 3 * j ∨ i = 3 * j ∨ i = 3 * j + 1 ∨ i = 3 * j + 2 by omega) with z | rfl | rfl | rfl
    · exact h4 i z
    · exact r3
    · exact r2
    · omega
theorem rd4 {A : St} {j : Nat} (h : rdI A j) (e : ((3 * j : Nat) : Int) < A 12 3) (k : 0 ≤ kix (A 11 (3 * j))) (f : ¬ fgI A (3 * j + 1) 1 9 = 0) (hj : 1 ≤ j) (s2 : ¬ sgI A (3 * j + 2) 59 = 0) : rFault A = fdR A (3 * j + 3) ∧ (wh A ↔ ¬ fgI A (3 * j + 3) 0 3 = 0 ∧ ((3 * j + 3 : Nat) : Int) + 1 = A 12 3) := by
  obtain ⟨r1, r2, r3, r4⟩ := rd_s h e k f
  obtain ⟨h1, h2, h3, h4⟩ := h
  have s := sgI_1 s2
  obtain ⟨m, hm, hm2⟩ := rd_len (e := 0) s.1
  rw [hm, ffr_f s.2 hj] at r1
  by_cases z : fgI A (3 * j + 3) 0 3 = 0
  · have z2 := fgI_0 z
    have hr : rFault A = ((3 * j + 3 : Nat) : Int) := by
      rw [← r1]
      cases m with
      | zero => rw [ffr]
      | succ m => exact ffr_dn (c := A 11) (i := 3 * j + 2) (by show ¬ (48 ≤ A 11 (3 * j + 3) ∧ A 11 (3 * j + 3) ≤ 51); omega)
    refine ⟨by rw [fdR, if_pos z]; exact hr, ⟨fun w => ?_, fun w => absurd z w.1⟩⟩
    obtain ⟨w1, w2, w3⟩ := w
    rw [show (A 12 3 - 2).toNat = 3 * j + 1 by omega] at w2
    exact absurd w2 r2
  · have z2 := fgI_1 z
    have hr : rFault A = ((3 * j + 3 : Nat) : Int) + 1 := by
      rw [← r1]
      cases m with
      | zero => omega
      | succ m =>
        rw [show ffr (A 11) (m + 1) (3 * j + 3) ((3 * j + 2 : Nat) : Int) = ffr (A 11) m (3 * j + 4) ((3 * j + 2 : Nat) : Int) from ffr_d (c := A 11) (i := 3 * j + 2) (by show 48 ≤ A 11 (3 * j + 3) ∧ A 11 (3 * j + 3) ≤ 51; omega)]
        cases m with
        | zero => rw [ffr]; omega
        | succ m =>
          rw [show ffr (A 11) (m + 1) (3 * j + 4) ((3 * j + 2 : Nat) : Int) = ((3 * j + 4 : Nat) : Int) from ffr_e (c := A 11) (i := 3 * j + 2)]; omega
    refine ⟨by rw [fdR, if_neg z]; exact hr, ⟨fun w => ⟨z, ?_⟩, fun w => ?_⟩⟩
    · obtain ⟨w1, w2, w3⟩ := w
      omega
    · refine ⟨by omega, ?_, by omega⟩
      rw [show (A 12 3 - 2).toNat = 3 * j + 2 by omega]
      exact s.2
def rdG (g : Mm) (j z : Int) : Mm := wr (wr g 46 18 j) 46 19 z
theorem rdG_j (g : Mm) (j z k : Int) : wr (rdG g j z) 46 18 k = rdG g k z := by
  refine Prod.ext ?_ rfl
  funext a b
  unfold rdG
  simp only [wr_1]
  by_cases h1 : a = 46 ∧ b = 18
  · rw [if_pos h1, if_neg (by omega), if_pos h1]
  · rw [if_neg h1, if_neg h1, if_neg h1]
theorem rdG_z (g : Mm) (j z k : Int) : wr (rdG g j z) 46 19 k = rdG g j k := by
  refine Prod.ext ?_ rfl
  funext a b
  unfold rdG
  simp only [wr_1]
  by_cases h1 : a = 46 ∧ b = 19
  · rw [if_pos h1, if_pos h1]
  · rw [if_neg h1, if_neg h1, if_neg h1]
theorem rdG_off (g : Mm) {j z : Int} {a b : Nat} (h : ¬ (a = 46 ∧ (b = 18 ∨ b = 19))) : (rdG g j z).1 a b = g.1 a b := by
  unfold rdG; rw [wr_1, if_neg (by omega), wr_1, if_neg (by omega)]
theorem rdG_18 (g : Mm) {j z : Int} : (rdG g j z).1 46 18 = j := by
  unfold rdG; rw [wr_1, if_neg (by omega), wr_at]
theorem rdG_19 (g : Mm) {j z : Int} : (rdG g j z).1 46 19 = z := by
  unfold rdG; rw [wr_at]
theorem MPg_rd {A : St} {g : Mm} (h : MPg A g) (j z : Int) : MPg A (rdG g j z) := by
  unfold MPg
  rw [rdG_off g (by omega)]
  exact ⟨h.1, fun k hk => by rw [rdG_off g (by omega)]; exact h.2 k hk⟩
def rdE (A : St) (g g' : Mm) : Prop := ∃ j z : Int, (z = 0 ∨ z = 1) ∧ (z = 1 ↔ wh A) ∧ (wh A → j = (A 12 3 - 1) / 3) ∧ g' = rdG g j z
theorem rdE_n {A : St} {g : Mm} (j : Int) (h : ¬ wh A) : rdE A g (rdG g j 0) := ⟨j, 0, Or.inl rfl, ⟨fun z => by omega, fun z => absurd z h⟩, fun z => absurd z h, rfl⟩
theorem rdE_f {A : St} {g : Mm} {j : Nat} (h : wh A ↔ ¬ fgI A (3 * j + 3) 0 3 = 0 ∧ ((3 * j + 3 : Nat) : Int) + 1 = A 12 3) : rdE A g (fdG A (rdG g ((j : Int) + 1) 0) (3 * j + 3)) := by
  unfold fdG
  by_cases z : fgI A (3 * j + 3) 0 3 = 0
  · rw [if_pos z]
    exact rdE_n _ (fun w => (h.1 w).1 z)
  · rw [if_neg z, rdG_z]
    by_cases y : ((3 * j + 3 : Nat) : Int) + 1 = A 12 3
    · rw [if_pos y]
      have w := h.2 ⟨z, y⟩
      exact ⟨_, 1, Or.inr rfl, ⟨fun _ => w, fun _ => rfl⟩, fun _ => by omega, rfl⟩
    · rw [if_neg y]
      exact rdE_n _ (fun w => y (h.1 w).2)
set_option maxRecDepth 100000 in
set_option maxHeartbeats 4000000 in
theorem lpM_read (E : En) {A : St} {g : Mm} (hP : MPg A g) (hQ : WPg A) {X : Cx} (hX : Wk E mX8_read X 4 (fun r g' => r = some (vI (rFault A)) ∧ rdE A g g')) : ∀ (m : Nat) (j : Nat), m + j = 4 ∧ rdI A j → V E X 12 [some (vR 46), some (vI ((3 * j : Nat) : Int))] [] (rdG g (j : Int) 0) := by
  obtain ⟨hg1, hg2⟩ := id hP
  obtain ⟨hq1, hq2, hq3⟩ := id hQ
  intro m
  induction m with
  | zero =>
    intro j ⟨hm, hi⟩
    have hi2 := hi.2.1
    refine k_aload_n hX.1 dX8_read_12 rfl rfl ?_
    refine k_geti hX.1 dX8_read_13 flX8_94 rfl (by decide) rfl ?_
    refine k_top (b := (j : Int)) (rdG_18 g) ?_
    refine k_iconst hX.1 dX8_read_16 ?_
    refine k_icmp_ge (tgt := 125) hX.1 dX8_read_17 (by decide) (by omega) (by omega) (fun c_17 => ?_) (fun c_17 => ?_)
    · skip
      exact absurd c_17 (by omega)
    · skip
      refine k_iload_n hX.1 dX8_read_20 rfl rfl ?_
      refine k_aload_n hX.1 dX8_read_21 rfl rfl ?_
      refine k_geti hX.1 dX8_read_22 flX8_90 rfl (by decide) rfl ?_
      refine k_top (b := A 12 3) (MPg_rd hP _ _).1 ?_
      refine k_icmp_eq (tgt := 41) hX.1 dX8_read_25 (by decide) (by omega) (by omega) (fun c_25 => ?_) (fun c_25 => ?_)
      · skip
        have q1 := rd1 hi (by omega)
        refine k_iload_n hX.1 dX8_read_41 rfl rfl ?_
        refine k_iret hX dX8_read_42 rfl ?_
        exact ⟨by rw [q1.1], rdE_n _ q1.2⟩
      · skip
        have k1 : ((3 * j : Nat) : Int) < A 12 3 := by omega
        have e := (MPg_rd hP (j : Int) 0).2 (3 * j) k1
        have e2 := hq3 (3 * j) k1
        have kb := kix_bd (A 11 (3 * j))
        refine k_aload_n hX.1 dX8_read_28 rfl rfl ?_
        refine k_getr (t := 58) hX.1 dX8_read_29 flX8_43 rfl (by decide) rfl rfl ?_
        refine k_iload_n hX.1 dX8_read_32 rfl rfl ?_
        refine k_bald (j := 3 * j) hX.1 dX8_read_33 rfl (by omega) (n := 18) rfl (by omega) (by omega) ?_
        refine k_top e ?_
        refine k_callSf (d2 := 1) (n := 1) (as := [_]) hX.1 dX8_read_34 lkX8_101 (fit_of hX (by omega) gmX8_kindBy) rfl rfl (Nat.le_of_ble_eq_true rfl) (cM_kindBy E _ (by omega)) ?_
        refine k_iconst hX.1 dX8_read_37 ?_
        refine k_icmp_ne (tgt := 43) hX.1 dX8_read_38 (by decide) (by omega) (by omega) (fun c_38 => ?_) (fun c_38 => ?_)
        · skip
          have k2 : 0 ≤ kix (A 11 (3 * j)) := by omega
          refine k_aload_n hX.1 dX8_read_43 rfl rfl ?_
          refine k_iload_n hX.1 dX8_read_44 rfl rfl ?_
          refine k_iconst hX.1 dX8_read_45 ?_
          refine k_iadd hX.1 dX8_read_46 ?_
          refine k_iconst hX.1 dX8_read_47 ?_
          refine k_bipush hX.1 dX8_read_48 (by decide) ?_
          refine k_callVf (d2 := 2) (n := 3) (as := [_, _, _]) hX.1 dX8_read_50 lkX8_105 (fit_of hX (by omega) gmX8_isFigure) rfl rfl (by decide) rfl rfl rfl (Nat.le_of_ble_eq_true rfl) (cM_isFigure E (MPg_rd hP _ _) hQ (q := 3 * j + 1) (by omega) (by omega) (by omega) (by omega)) ?_
          have f01 := fgI_01 A (3 * j + 1) 1 9
          refine k_if_ne (tgt := 60) hX.1 dX8_read_53 (by decide) (by omega) (fun c_53 => ?_) (fun c_53 => ?_)
          · skip
            refine k_aload_n hX.1 dX8_read_60 rfl rfl ?_
            refine k_dupR hX.1 dX8_read_61 ?_
            refine k_geti hX.1 dX8_read_62 flX8_94 rfl (by decide) rfl ?_
            refine k_top (b := (j : Int)) (rdG_18 g) ?_
            refine k_iconst hX.1 dX8_read_65 ?_
            refine k_iadd hX.1 dX8_read_66 ?_
            refine k_puti hX.1 dX8_read_67 flX8_94 rfl (by decide) rfl ?_
            refine k_mem (rdG_j g _ _ _) ?_
            refine k_iinc hX.1 dX8_read_70 rfl (by decide) rfl rfl ?_
            try simp only [List.set_cons_zero, List.set_cons_succ]
            refine k_aload_n hX.1 dX8_read_73 rfl rfl ?_
            refine k_geti hX.1 dX8_read_74 flX8_94 rfl (by decide) rfl ?_
            refine k_top (b := (j : Int) + 1) (rdG_18 g) ?_
            refine k_iconst hX.1 dX8_read_77 ?_
            refine k_icmp_le (tgt := 99) hX.1 dX8_read_78 (by decide) (by omega) (by omega) (fun c_78 => ?_) (fun c_78 => ?_)
            · skip
              have j0 : j = 0 ∨ sgI A (3 * j + 2) 59 = 0 := Or.inl (by omega)
              refine k_aload_n hX.1 dX8_read_99 rfl rfl ?_
              refine k_geti hX.1 dX8_read_100 flX8_94 rfl (by decide) rfl ?_
              refine k_top (b := (j : Int) + 1) (rdG_18 g) ?_
              refine k_iconst hX.1 dX8_read_103 ?_
              refine k_icmp_eq (tgt := 117) hX.1 dX8_read_104 (by decide) (by omega) (by omega) (fun c_104 => ?_) (fun c_104 => ?_)
              · skip
                refine k_iload_n hX.1 dX8_read_117 rfl rfl ?_
                refine k_iret hX dX8_read_118 rfl ?_
                have q5 := rd5 hi k1 k2 (by omega) j0 (Or.inl (by omega))
                exact ⟨by rw [q5.1]; congr 2, rdE_n _ q5.2⟩
              · skip
                exact absurd c_104 (by omega)
            · skip
              refine k_aload_n hX.1 dX8_read_81 rfl rfl ?_
              refine k_iload_n hX.1 dX8_read_82 rfl rfl ?_
              refine k_bipush hX.1 dX8_read_83 (by decide) ?_
              refine k_callVf (d2 := 1) (n := 2) (as := [_, _]) hX.1 dX8_read_85 lkX8_108 (fit_of hX (by omega) gmX8_isSign) rfl rfl (by decide) rfl rfl rfl (Nat.le_of_ble_eq_true rfl) (cM_isSign E (MPg_rd hP _ _) hQ (q := 3 * j + 2) (by omega) (by omega) (by omega)) ?_
              have f02 := sgI_01 A (3 * j + 2) 59
              refine k_if_eq (tgt := 99) hX.1 dX8_read_88 (by decide) (by omega) (fun c_88 => ?_) (fun c_88 => ?_)
              · skip
                have j0 : j = 0 ∨ sgI A (3 * j + 2) 59 = 0 := Or.inr (by omega)
                refine k_aload_n hX.1 dX8_read_99 rfl rfl ?_
                refine k_geti hX.1 dX8_read_100 flX8_94 rfl (by decide) rfl ?_
                refine k_top (b := (j : Int) + 1) (rdG_18 g) ?_
                refine k_iconst hX.1 dX8_read_103 ?_
                refine k_icmp_eq (tgt := 117) hX.1 dX8_read_104 (by decide) (by omega) (by omega) (fun c_104 => ?_) (fun c_104 => ?_)
                · skip
                  refine k_iload_n hX.1 dX8_read_117 rfl rfl ?_
                  refine k_iret hX dX8_read_118 rfl ?_
                  have q5 := rd5 hi k1 k2 (by omega) j0 (Or.inl (by omega))
                  exact ⟨by rw [q5.1]; congr 2, rdE_n _ q5.2⟩
                · skip
                  exact absurd c_104 (by omega)
              · skip
                have q4 := rd4 hi k1 k2 (by omega) (by omega) (by omega)
                refine k_aload_n hX.1 dX8_read_91 rfl rfl ?_
                refine k_iload_n hX.1 dX8_read_92 rfl rfl ?_
                refine k_iconst hX.1 dX8_read_93 ?_
                refine k_iadd hX.1 dX8_read_94 ?_
                refine k_callV (d2 := 3) (n := 1) (as := [_]) hX.1 dX8_read_95 lkX8_112 (fit_of hX (by omega) gmX8_readFade) rfl rfl (by decide) rfl rfl rfl (Nat.le_of_ble_eq_true rfl) (cM_readFade E (MPg_rd hP _ _) hQ (q := 3 * j + 3) (by omega) (by omega)) (fun r_95 g_95 q_95 => ?_)
                obtain ⟨rfl, rfl⟩ := q_95
                refine k_iret hX dX8_read_98 rfl ?_
                exact ⟨by rw [q4.1], rdE_f q4.2⟩
          · skip
            have q1 := rd3 hi k1 k2 (by omega)
            refine k_iload_n hX.1 dX8_read_56 rfl rfl ?_
            refine k_iconst hX.1 dX8_read_57 ?_
            refine k_iadd hX.1 dX8_read_58 ?_
            refine k_iret hX dX8_read_59 rfl ?_
            exact ⟨by rw [q1.1]; congr 2, rdE_n _ q1.2⟩
        · skip
          have q1 := rd2 hi k1 (by omega)
          refine k_iload_n hX.1 dX8_read_41 rfl rfl ?_
          refine k_iret hX dX8_read_42 rfl ?_
          exact ⟨by rw [q1.1], rdE_n _ q1.2⟩
  | succ m ih =>
    intro j ⟨hm, hi⟩
    have hi2 := hi.2.1
    refine k_aload_n hX.1 dX8_read_12 rfl rfl ?_
    refine k_geti hX.1 dX8_read_13 flX8_94 rfl (by decide) rfl ?_
    refine k_top (b := (j : Int)) (rdG_18 g) ?_
    refine k_iconst hX.1 dX8_read_16 ?_
    refine k_icmp_ge (tgt := 125) hX.1 dX8_read_17 (by decide) (by omega) (by omega) (fun c_17 => ?_) (fun c_17 => ?_)
    · skip
      exact absurd c_17 (by omega)
    · skip
      refine k_iload_n hX.1 dX8_read_20 rfl rfl ?_
      refine k_aload_n hX.1 dX8_read_21 rfl rfl ?_
      refine k_geti hX.1 dX8_read_22 flX8_90 rfl (by decide) rfl ?_
      refine k_top (b := A 12 3) (MPg_rd hP _ _).1 ?_
      refine k_icmp_eq (tgt := 41) hX.1 dX8_read_25 (by decide) (by omega) (by omega) (fun c_25 => ?_) (fun c_25 => ?_)
      · skip
        have q1 := rd1 hi (by omega)
        refine k_iload_n hX.1 dX8_read_41 rfl rfl ?_
        refine k_iret hX dX8_read_42 rfl ?_
        exact ⟨by rw [q1.1], rdE_n _ q1.2⟩
      · skip
        have k1 : ((3 * j : Nat) : Int) < A 12 3 := by omega
        have e := (MPg_rd hP (j : Int) 0).2 (3 * j) k1
        have e2 := hq3 (3 * j) k1
        have kb := kix_bd (A 11 (3 * j))
        refine k_aload_n hX.1 dX8_read_28 rfl rfl ?_
        refine k_getr (t := 58) hX.1 dX8_read_29 flX8_43 rfl (by decide) rfl rfl ?_
        refine k_iload_n hX.1 dX8_read_32 rfl rfl ?_
        refine k_bald (j := 3 * j) hX.1 dX8_read_33 rfl (by omega) (n := 18) rfl (by omega) (by omega) ?_
        refine k_top e ?_
        refine k_callSf (d2 := 1) (n := 1) (as := [_]) hX.1 dX8_read_34 lkX8_101 (fit_of hX (by omega) gmX8_kindBy) rfl rfl (Nat.le_of_ble_eq_true rfl) (cM_kindBy E _ (by omega)) ?_
        refine k_iconst hX.1 dX8_read_37 ?_
        refine k_icmp_ne (tgt := 43) hX.1 dX8_read_38 (by decide) (by omega) (by omega) (fun c_38 => ?_) (fun c_38 => ?_)
        · skip
          have k2 : 0 ≤ kix (A 11 (3 * j)) := by omega
          refine k_aload_n hX.1 dX8_read_43 rfl rfl ?_
          refine k_iload_n hX.1 dX8_read_44 rfl rfl ?_
          refine k_iconst hX.1 dX8_read_45 ?_
          refine k_iadd hX.1 dX8_read_46 ?_
          refine k_iconst hX.1 dX8_read_47 ?_
          refine k_bipush hX.1 dX8_read_48 (by decide) ?_
          refine k_callVf (d2 := 2) (n := 3) (as := [_, _, _]) hX.1 dX8_read_50 lkX8_105 (fit_of hX (by omega) gmX8_isFigure) rfl rfl (by decide) rfl rfl rfl (Nat.le_of_ble_eq_true rfl) (cM_isFigure E (MPg_rd hP _ _) hQ (q := 3 * j + 1) (by omega) (by omega) (by omega) (by omega)) ?_
          have f01 := fgI_01 A (3 * j + 1) 1 9
          refine k_if_ne (tgt := 60) hX.1 dX8_read_53 (by decide) (by omega) (fun c_53 => ?_) (fun c_53 => ?_)
          · skip
            refine k_aload_n hX.1 dX8_read_60 rfl rfl ?_
            refine k_dupR hX.1 dX8_read_61 ?_
            refine k_geti hX.1 dX8_read_62 flX8_94 rfl (by decide) rfl ?_
            refine k_top (b := (j : Int)) (rdG_18 g) ?_
            refine k_iconst hX.1 dX8_read_65 ?_
            refine k_iadd hX.1 dX8_read_66 ?_
            refine k_puti hX.1 dX8_read_67 flX8_94 rfl (by decide) rfl ?_
            refine k_mem (rdG_j g _ _ _) ?_
            refine k_iinc hX.1 dX8_read_70 rfl (by decide) rfl rfl ?_
            try simp only [List.set_cons_zero, List.set_cons_succ]
            refine k_aload_n hX.1 dX8_read_73 rfl rfl ?_
            refine k_geti hX.1 dX8_read_74 flX8_94 rfl (by decide) rfl ?_
            refine k_top (b := (j : Int) + 1) (rdG_18 g) ?_
            refine k_iconst hX.1 dX8_read_77 ?_
            refine k_icmp_le (tgt := 99) hX.1 dX8_read_78 (by decide) (by omega) (by omega) (fun c_78 => ?_) (fun c_78 => ?_)
            · skip
              have j0 : j = 0 ∨ sgI A (3 * j + 2) 59 = 0 := Or.inl (by omega)
              refine k_aload_n hX.1 dX8_read_99 rfl rfl ?_
              refine k_geti hX.1 dX8_read_100 flX8_94 rfl (by decide) rfl ?_
              refine k_top (b := (j : Int) + 1) (rdG_18 g) ?_
              refine k_iconst hX.1 dX8_read_103 ?_
              refine k_icmp_eq (tgt := 117) hX.1 dX8_read_104 (by decide) (by omega) (by omega) (fun c_104 => ?_) (fun c_104 => ?_)
              · skip
                exact absurd c_104 (by omega)
              · skip
                refine k_aload_n hX.1 dX8_read_107 rfl rfl ?_
                refine k_iload_n hX.1 dX8_read_108 rfl rfl ?_
                refine k_bipush hX.1 dX8_read_109 (by decide) ?_
                refine k_callVf (d2 := 1) (n := 2) (as := [_, _]) hX.1 dX8_read_111 lkX8_108 (fit_of hX (by omega) gmX8_isSign) rfl rfl (by decide) rfl rfl rfl (Nat.le_of_ble_eq_true rfl) (cM_isSign E (MPg_rd hP _ _) hQ (q := 3 * j + 2) (by omega) (by omega) (by omega)) ?_
                have f03 := sgI_01 A (3 * j + 2) 44
                refine k_if_ne (tgt := 119) hX.1 dX8_read_114 (by decide) (by omega) (fun c_114 => ?_) (fun c_114 => ?_)
                · skip
                  refine k_iinc hX.1 dX8_read_119 rfl (by decide) rfl rfl ?_
                  try simp only [List.set_cons_zero, List.set_cons_succ]
                  refine k_goto (tgt := 12) hX.1 dX8_read_122 (by decide) ?_
                  have hn := rd_n hi k1 k2 (by omega) (by omega) (by omega)
                  have e3 : ((3 * j : Nat) : Int) + 2 + 1 = ((3 * (j + 1) : Nat) : Int) := by omega
                  rw [e3]
                  exact ih (j + 1) ⟨by omega, hn⟩
                · skip
                  refine k_iload_n hX.1 dX8_read_117 rfl rfl ?_
                  refine k_iret hX dX8_read_118 rfl ?_
                  have q5 := rd5 hi k1 k2 (by omega) j0 (Or.inr (by omega))
                  exact ⟨by rw [q5.1]; congr 2, rdE_n _ q5.2⟩
            · skip
              refine k_aload_n hX.1 dX8_read_81 rfl rfl ?_
              refine k_iload_n hX.1 dX8_read_82 rfl rfl ?_
              refine k_bipush hX.1 dX8_read_83 (by decide) ?_
              refine k_callVf (d2 := 1) (n := 2) (as := [_, _]) hX.1 dX8_read_85 lkX8_108 (fit_of hX (by omega) gmX8_isSign) rfl rfl (by decide) rfl rfl rfl (Nat.le_of_ble_eq_true rfl) (cM_isSign E (MPg_rd hP _ _) hQ (q := 3 * j + 2) (by omega) (by omega) (by omega)) ?_
              have f02 := sgI_01 A (3 * j + 2) 59
              refine k_if_eq (tgt := 99) hX.1 dX8_read_88 (by decide) (by omega) (fun c_88 => ?_) (fun c_88 => ?_)
              · skip
                have j0 : j = 0 ∨ sgI A (3 * j + 2) 59 = 0 := Or.inr (by omega)
                refine k_aload_n hX.1 dX8_read_99 rfl rfl ?_
                refine k_geti hX.1 dX8_read_100 flX8_94 rfl (by decide) rfl ?_
                refine k_top (b := (j : Int) + 1) (rdG_18 g) ?_
                refine k_iconst hX.1 dX8_read_103 ?_
                refine k_icmp_eq (tgt := 117) hX.1 dX8_read_104 (by decide) (by omega) (by omega) (fun c_104 => ?_) (fun c_104 => ?_)
                · skip
                  exact absurd c_104 (by omega)
                · skip
                  refine k_aload_n hX.1 dX8_read_107 rfl rfl ?_
                  refine k_iload_n hX.1 dX8_read_108 rfl rfl ?_
                  refine k_bipush hX.1 dX8_read_109 (by decide) ?_
                  refine k_callVf (d2 := 1) (n := 2) (as := [_, _]) hX.1 dX8_read_111 lkX8_108 (fit_of hX (by omega) gmX8_isSign) rfl rfl (by decide) rfl rfl rfl (Nat.le_of_ble_eq_true rfl) (cM_isSign E (MPg_rd hP _ _) hQ (q := 3 * j + 2) (by omega) (by omega) (by omega)) ?_
                  have f03 := sgI_01 A (3 * j + 2) 44
                  refine k_if_ne (tgt := 119) hX.1 dX8_read_114 (by decide) (by omega) (fun c_114 => ?_) (fun c_114 => ?_)
                  · skip
                    refine k_iinc hX.1 dX8_read_119 rfl (by decide) rfl rfl ?_
                    try simp only [List.set_cons_zero, List.set_cons_succ]
                    refine k_goto (tgt := 12) hX.1 dX8_read_122 (by decide) ?_
                    have hn := rd_n hi k1 k2 (by omega) (by omega) (by omega)
                    have e3 : ((3 * j : Nat) : Int) + 2 + 1 = ((3 * (j + 1) : Nat) : Int) := by omega
                    rw [e3]
                    exact ih (j + 1) ⟨by omega, hn⟩
                  · skip
                    refine k_iload_n hX.1 dX8_read_117 rfl rfl ?_
                    refine k_iret hX dX8_read_118 rfl ?_
                    have q5 := rd5 hi k1 k2 (by omega) j0 (Or.inr (by omega))
                    exact ⟨by rw [q5.1]; congr 2, rdE_n _ q5.2⟩
              · skip
                have q4 := rd4 hi k1 k2 (by omega) (by omega) (by omega)
                refine k_aload_n hX.1 dX8_read_91 rfl rfl ?_
                refine k_iload_n hX.1 dX8_read_92 rfl rfl ?_
                refine k_iconst hX.1 dX8_read_93 ?_
                refine k_iadd hX.1 dX8_read_94 ?_
                refine k_callV (d2 := 3) (n := 1) (as := [_]) hX.1 dX8_read_95 lkX8_112 (fit_of hX (by omega) gmX8_readFade) rfl rfl (by decide) rfl rfl rfl (Nat.le_of_ble_eq_true rfl) (cM_readFade E (MPg_rd hP _ _) hQ (q := 3 * j + 3) (by omega) (by omega)) (fun r_95 g_95 q_95 => ?_)
                obtain ⟨rfl, rfl⟩ := q_95
                refine k_iret hX dX8_read_98 rfl ?_
                exact ⟨by rw [q4.1], rdE_f q4.2⟩
          · skip
            have q1 := rd3 hi k1 k2 (by omega)
            refine k_iload_n hX.1 dX8_read_56 rfl rfl ?_
            refine k_iconst hX.1 dX8_read_57 ?_
            refine k_iadd hX.1 dX8_read_58 ?_
            refine k_iret hX dX8_read_59 rfl ?_
            exact ⟨by rw [q1.1]; congr 2, rdE_n _ q1.2⟩
        · skip
          have q1 := rd2 hi k1 (by omega)
          refine k_iload_n hX.1 dX8_read_41 rfl rfl ?_
          refine k_iret hX dX8_read_42 rfl ?_
          exact ⟨by rw [q1.1], rdE_n _ q1.2⟩

set_option maxRecDepth 100000 in
set_option maxHeartbeats 4000000 in
theorem cM_read (E : En) {A : St} {g : Mm} (hP : MPg A g) (hQ : WPg A) : Ok E 4 mX8_read [vR 46] g (fun r g' => r = some (vI (rFault A)) ∧ rdE A g g') := by
  obtain ⟨hg1, hg2⟩ := id hP
  obtain ⟨hq1, hq2, hq3⟩ := id hQ
  refine Ok_of gmX8_read (by omega) (Nat.le_of_ble_eq_true rfl) (fun X hX => ?_)
  show V E X 0 [some (vR 46), none] [] g
  refine k_aload_n hX.1 dX8_read_0 rfl rfl ?_
  refine k_iconst hX.1 dX8_read_1 ?_
  refine k_puti hX.1 dX8_read_2 flX8_94 rfl (by decide) rfl ?_
  refine k_aload_n hX.1 dX8_read_5 rfl rfl ?_
  refine k_iconst hX.1 dX8_read_6 ?_
  refine k_putz hX.1 dX8_read_7 flX8_97 rfl (by decide) rfl (by omega) ?_
  refine k_iconst hX.1 dX8_read_10 ?_
  refine k_istore_n hX.1 dX8_read_11 rfl (by decide) rfl rfl ?_
  try simp only [List.set_cons_zero, List.set_cons_succ]
  exact lpM_read E hP hQ hX 4 0 ⟨by omega, by omega, by omega, rfl, fun i hi => by omega⟩

set_option maxRecDepth 100000 in
set_option maxHeartbeats 4000000 in
theorem c8_fault (E : En) {A : St} {g : Mm} {n : Int} (hR : RM A g) (hW : Wf A n) : Ok E 8 mX8_fault [vR 46] g (fun r g' => r = some (vI (rFault A)) ∧ RM (A) g' ∧ sameC g g') := by
  have hM0 := hR.1
  have hW0 := hW.1
  obtain ⟨⟨⟨hm1, hm2, hm3⟩, hmp, hml⟩, ⟨hg1, hg2⟩, ⟨ht1, ht2, ht3, ⟨ht4, ht5⟩, ht6⟩, hmk⟩ := id hR
  obtain ⟨⟨⟨hw1, hw2, hw3, hw4, hw5, hw6, hw7, hw8⟩, hwp, hwl⟩, ⟨hq1, hq2, hq3⟩, ⟨hz1, ⟨hz2, hz3⟩, ⟨hz4, hz5⟩⟩, hwk⟩ := id hW
  refine Ok_of gmX8_fault (by omega) (Nat.le_of_ble_eq_true rfl) (fun X hX => ?_)
  show V E X 0 [some (vR 46)] [] g
  refine k_aload_n hX.1 dX8_fault_0 rfl rfl ?_
  refine k_callV (d2 := 4) (n := 0) (as := []) hX.1 dX8_fault_1 lkX8_115 (fit_of hX (by omega) gmX8_read) rfl rfl (by decide) rfl rfl rfl (Nat.le_of_ble_eq_true rfl) (cM_read E hR.2.1 hW.2.1) (fun r_1 g_1 q_1 => ?_)
  obtain ⟨rfl, j, z, -, -, -, rfl⟩ := q_1
  refine k_iret hX dX8_fault_4 rfl ?_
  refine ⟨rfl, RM_scr hR (fun a h1 h2 h3 => by funext b; exact rdG_off g (by omega)) (fun j h1 h2 => rdG_off g (by omega)), fun a ha => ⟨by funext b; exact rdG_off g (by omega), rfl⟩⟩

/-- the model's rows after p parts of a new garment -/
def bN (A : St) (g : Mm) (p : Nat) (h : Mm) : Prop := (∀ a, a < 47 ∨ 54 < a → h.1 a = g.1 a) ∧ h.2 = g.2 ∧ ∀ q, q < p → h.1 47 q = kix (A 11 (3 * q)) ∧ h.1 48 q = A 11 (3 * q + 1) - 48 ∧ h.1 49 q = -1 ∧ h.1 50 q = -1 ∧ h.1 51 q = 0 ∧ h.1 52 q = 0 ∧ h.1 53 q = -1 ∧ h.1 54 q = -1
theorem bN_s {A : St} {g h : Mm} {p : Nat} (hi : bN A g p h) : bN A g (p + 1) (clG (wr (wr (wr h 47 p (kix (A 11 (3 * p)))) 48 p (A 11 (3 * p + 1) - 48)) 54 p (-1)) p) := by
  obtain ⟨h1, h2, h3⟩ := hi
  unfold clG
  refine ⟨fun a ha => ?_, h2, fun q hq => ?_⟩
  · rw [wr_off (by omega), wr_off (by omega), wr_off (by omega), wr_off (by omega), wr_off (by omega), wr_off (by omega), wr_off (by omega), wr_off (by omega)]
    exact h1 a ha
  · simp only [wr_1]
    by_cases z : q = p
    · subst z; simp
    · have e := h3 q (by omega)
      simp [z]
      exact e
theorem gm_rows (A : St) (j : Nat) : gmA A 0 j = kix (A 11 (3 * j)) ∧ gmA A 1 j = A 11 (3 * j + 1) - 48 ∧ gmA A 2 j = -1 ∧ gmA A 3 j = -1 ∧ gmA A 4 j = 0 ∧ gmA A 5 j = 0 ∧ gmA A 6 j = -1 ∧ gmA A 7 j = -1 := ⟨rfl, rfl, rfl, rfl, rfl, rfl, rfl, rfl⟩
def gmG (h : Mm) (v : Int) : Mm := wr (wr (wr h 46 0 v) 46 11 0) 46 16 0
theorem gmG_off (h : Mm) {v : Int} {a b : Nat} (q : ¬ (a = 46 ∧ (b = 0 ∨ b = 11 ∨ b = 16))) : (gmG h v).1 a b = h.1 a b := by
  unfold gmG; rw [wr_1, if_neg (by omega), wr_1, if_neg (by omega), wr_1, if_neg (by omega)]
theorem RM_gm {A : St} {g g1 h : Mm} {m : Nat} (hR : RM A g) (hm : 2 ≤ m ∧ m ≤ 5) (hn : A 12 3 = 3 * (m : Int) + 1) (hg : ∀ b, b ≠ 1 → b ≠ 2 → b ≠ 18 → b ≠ 19 → g1.1 46 b = g.1 46 b) (hg1 : g1.1 46 1 = (m : Int)) (hg2 : g1.1 46 2 = A 11 (3 * m) - 48) (hi : bN A g1 m h) : RM (gmA A) (gmG h (A 12 4 + 1)) := by
  obtain ⟨-, -, ⟨a1, a2, a3, a4, a5⟩, -⟩ := hR
  obtain ⟨h1, h2, h3⟩ := hi
  obtain ⟨e0, e2, e3, e6, e4, e5, e1⟩ := gm_12 A
  have em : (A 12 3 - 1) / 3 = (m : Int) := by omega
  have h46 : ∀ b, h.1 46 b = g1.1 46 b := fun b => by rw [h1 46 (by omega)]
  refine ⟨⟨?_, fun p hp => ?_, fun t ht => ?_⟩, ⟨?_, fun k hk => ?_⟩, ?_, fun k => ?_⟩
  · rw [gmG_off h (b := 1) (by omega), gmG_off h (b := 2) (by omega), e0, e2, e1, em, h46, h46, Int.toNat_natCast]
    refine ⟨hg1, ?_, hg2⟩
    unfold gmG; rw [wr_1, if_neg (by omega), wr_at]
  · rw [e0, em] at hp
    have e := h3 p (by omega)
    have r := gm_rows A p
    rw [gmG_off h (by omega), gmG_off h (by omega), gmG_off h (by omega), gmG_off h (by omega), gmG_off h (by omega), gmG_off h (by omega), gmG_off h (by omega), gmG_off h (by omega), r.1, r.2.1, r.2.2.1, r.2.2.2.1, r.2.2.2.2.1, r.2.2.2.2.2.1, r.2.2.2.2.2.2.1, r.2.2.2.2.2.2.2]
    exact e
  · rw [e2] at ht; omega
  · rw [e3]; unfold gmG; rw [wr_at]
  · rw [e3] at hk; omega
  · unfold MT_
    rw [e4, e5, e6, gmG_off h (b := 15) (by omega), gmG_off h (b := 25) (by omega), gmG_off h (b := 26) (by omega), h46, h46, h46, hg 15 (by omega) (by omega) (by omega) (by omega), hg 25 (by omega) (by omega) (by omega) (by omega), hg 26 (by omega) (by omega) (by omega) (by omega)]
    refine ⟨?_, a2, a3, by omega, by omega⟩
    unfold gmG; rw [wr_1, if_neg (by omega), wr_1, if_neg (by omega), wr_at]
  · rw [e6] at k; omega
set_option maxRecDepth 100000 in
set_option maxHeartbeats 4000000 in
theorem lpM_gm (E : En) {A : St} {g : Mm} {n : Int} (hR : RM A g) (hW : Wf A n) {g1 : Mm} {m0 : Nat} (hw : wh A) (hm0 : 2 ≤ m0 ∧ m0 ≤ 5) (hn0 : A 12 3 = 3 * (m0 : Int) + 1) (hc : sameC g g1) (hg : ∀ b, b ≠ 1 → b ≠ 2 → b ≠ 18 → b ≠ 19 → g1.1 46 b = g.1 46 b) (hp1 : g1.1 46 1 = (m0 : Int)) (hp2 : g1.1 46 2 = A 11 (3 * m0) - 48) (hp3 : g1.1 58 = g.1 58) {X : Cx} (hX : Wk E mX8_garment X 8 (fun r g' => (wh A → r = some (vI ((A 12 3 - 1) / 3)) ∧ RM (gmA A) g') ∧ (¬ wh A → r = some (vI (-103)) ∧ RM A g') ∧ sameC g g')) : ∀ (m : Nat) (p : Nat) (x : Int) (h : Mm), m + p = m0 ∧ bN A g1 p h → V E X 40 [some (vR 46), some (vI x), some (vI (p : Int))] [] h := by
  have hM0 := hR.1
  have hW0 := hW.1
  obtain ⟨⟨⟨hm1, hm2, hm3⟩, hmp, hml⟩, ⟨hg1, hg2⟩, ⟨ht1, ht2, ht3, ⟨ht4, ht5⟩, ht6⟩, hmk⟩ := id hR
  obtain ⟨⟨⟨hw1, hw2, hw3, hw4, hw5, hw6, hw7, hw8⟩, hwp, hwl⟩, ⟨hq1, hq2, hq3⟩, ⟨hz1, ⟨hz2, hz3⟩, ⟨hz4, hz5⟩⟩, hwk⟩ := id hW
  intro m
  induction m with
  | zero =>
    intro p x h ⟨hm, hi⟩
    obtain rfl : p = m0 := by omega
    have hR2 := RM_gm hR hm0 hn0 hg hp1 hp2 hi
    have e46 : ∀ b, h.1 46 b = g1.1 46 b := fun b => by rw [hi.1 46 (by omega)]
    have ea := e46 1
    have eb := e46 0
    have ec := hg 0 (by omega) (by omega) (by omega) (by omega)
    refine k_iload_n hX.1 dX8_garment_40 rfl rfl ?_
    refine k_aload_n hX.1 dX8_garment_41 rfl rfl ?_
    refine k_geti hX.1 dX8_garment_42 flX8_119 rfl (by decide) rfl ?_
    refine k_icmp_ge (tgt := 102) hX.1 dX8_garment_45 (by decide) (by omega) (by omega) (fun c_45 => ?_) (fun c_45 => ?_)
    · skip
      refine k_aload_n hX.1 dX8_garment_102 rfl rfl ?_
      refine k_dupR hX.1 dX8_garment_103 ?_
      refine k_geti hX.1 dX8_garment_104 flX8_129 rfl (by decide) rfl ?_
      refine k_top (b := A 12 4) (by omega) ?_
      refine k_iconst hX.1 dX8_garment_107 ?_
      refine k_iadd hX.1 dX8_garment_108 ?_
      refine k_puti hX.1 dX8_garment_109 flX8_129 rfl (by decide) rfl ?_
      refine k_aload_n hX.1 dX8_garment_112 rfl rfl ?_
      refine k_iconst hX.1 dX8_garment_113 ?_
      refine k_puti hX.1 dX8_garment_114 flX8_132 rfl (by decide) rfl ?_
      refine k_aload_n hX.1 dX8_garment_117 rfl rfl ?_
      refine k_iconst hX.1 dX8_garment_118 ?_
      refine k_puti hX.1 dX8_garment_119 flX8_90 rfl (by decide) rfl ?_
      refine k_aload_n hX.1 dX8_garment_122 rfl rfl ?_
      refine k_geti hX.1 dX8_garment_123 flX8_119 rfl (by decide) rfl ?_
      refine k_top (b := (p : Int)) (by show (gmG h (A 12 4 + 1)).1 46 1 = _; rw [gmG_off h (by omega)]; omega) ?_
      refine k_iret hX dX8_garment_126 rfl ?_
      refine ⟨fun _ => ⟨?_, hR2⟩, fun z => absurd hw z, fun a ha => ⟨?_, ?_⟩⟩
      · congr 2; omega
      · funext b
        show (gmG h (A 12 4 + 1)).1 a b = _
        rw [gmG_off h (by omega), hi.1 a (by omega), (hc a ha).1]
      · show h.2 a = _
        rw [hi.2.1]; exact (hc a ha).2
    · skip
      exact absurd c_45 (by omega)
  | succ m ih =>
    intro p x h ⟨hm, hi⟩
    have ea : h.1 46 1 = g1.1 46 1 := by rw [hi.1 46 (by omega)]
    have u1 : ((3 * p : Nat) : Int) < A 12 3 := by omega
    have u2 : ((3 * p + 1 : Nat) : Int) < A 12 3 := by omega
    have v1 := hq3 _ u1
    have v2 := hq3 _ u2
    have e1 : h.1 58 (3 * p) = A 11 (3 * p) := by rw [hi.1 58 (by omega), hp3]; exact hg2 _ u1
    have e2 : h.1 58 (3 * p + 1) = A 11 (3 * p + 1) := by rw [hi.1 58 (by omega), hp3]; exact hg2 _ u2
    refine k_iload_n hX.1 dX8_garment_40 rfl rfl ?_
    refine k_aload_n hX.1 dX8_garment_41 rfl rfl ?_
    refine k_geti hX.1 dX8_garment_42 flX8_119 rfl (by decide) rfl ?_
    refine k_icmp_ge (tgt := 102) hX.1 dX8_garment_45 (by decide) (by omega) (by omega) (fun c_45 => ?_) (fun c_45 => ?_)
    · skip
      exact absurd c_45 (by omega)
    · skip
      refine k_aload_n hX.1 dX8_garment_48 rfl rfl ?_
      refine k_getr (t := 47) hX.1 dX8_garment_49 flX8_7 rfl (by decide) rfl rfl ?_
      refine k_iload_n hX.1 dX8_garment_52 rfl rfl ?_
      refine k_aload_n hX.1 dX8_garment_53 rfl rfl ?_
      refine k_getr (t := 58) hX.1 dX8_garment_54 flX8_43 rfl (by decide) rfl rfl ?_
      refine k_iconst hX.1 dX8_garment_57 ?_
      refine k_iload_n hX.1 dX8_garment_58 rfl rfl ?_
      refine k_imul hX.1 dX8_garment_59 ?_
      refine k_bald (j := 3 * p) hX.1 dX8_garment_60 rfl (by omega) (n := 18) rfl (by omega) (by omega) ?_
      refine k_top e1 ?_
      refine k_callSf (d2 := 1) (n := 1) (as := [_]) hX.1 dX8_garment_61 lkX8_101 (fit_of hX (by omega) gmX8_kindBy) rfl rfl (Nat.le_of_ble_eq_true rfl) (cM_kindBy E _ (by omega)) ?_
      refine k_iast (j := p) hX.1 dX8_garment_64 rfl (by omega) (n := 5) rfl (by omega) (by omega) ?_
      refine k_aload_n hX.1 dX8_garment_65 rfl rfl ?_
      refine k_getr (t := 48) hX.1 dX8_garment_66 flX8_13 rfl (by decide) rfl rfl ?_
      refine k_iload_n hX.1 dX8_garment_69 rfl rfl ?_
      refine k_aload_n hX.1 dX8_garment_70 rfl rfl ?_
      refine k_getr (t := 58) hX.1 dX8_garment_71 flX8_43 rfl (by decide) rfl rfl ?_
      refine k_iconst hX.1 dX8_garment_74 ?_
      refine k_iload_n hX.1 dX8_garment_75 rfl rfl ?_
      refine k_imul hX.1 dX8_garment_76 ?_
      refine k_iconst hX.1 dX8_garment_77 ?_
      refine k_iadd hX.1 dX8_garment_78 ?_
      refine k_bald (j := 3 * p + 1) hX.1 dX8_garment_79 rfl (by omega) (n := 18) rfl (by omega) (by omega) ?_
      refine k_top (b := A 11 (3 * p + 1)) (by rw [wr_off (by omega)]; exact e2) ?_
      refine k_bipush hX.1 dX8_garment_80 (by decide) ?_
      refine k_isub hX.1 dX8_garment_82 ?_
      refine k_iast (j := p) hX.1 dX8_garment_83 rfl (by omega) (n := 5) rfl (by omega) (by omega) ?_
      refine k_aload_n hX.1 dX8_garment_84 rfl rfl ?_
      refine k_getr (t := 54) hX.1 dX8_garment_85 flX8_31 rfl (by decide) rfl rfl ?_
      refine k_iload_n hX.1 dX8_garment_88 rfl rfl ?_
      refine k_iconst hX.1 dX8_garment_89 ?_
      refine k_iast (j := p) hX.1 dX8_garment_90 rfl (by omega) (n := 5) rfl (by omega) (by omega) ?_
      refine k_aload_n hX.1 dX8_garment_91 rfl rfl ?_
      refine k_iload_n hX.1 dX8_garment_92 rfl rfl ?_
      refine k_callVp (d2 := 1) (n := 1) (as := [_]) hX.1 dX8_garment_93 lkX8_125 (fit_of hX (by omega) gmX8_clear) rfl rfl (by decide) rfl rfl rfl (Nat.le_of_ble_eq_true rfl) (cM_clear E _ (p := p) (by omega)) ?_
      refine k_iinc hX.1 dX8_garment_96 rfl (by decide) rfl rfl ?_
      try simp only [List.set_cons_zero, List.set_cons_succ]
      refine k_goto (tgt := 40) hX.1 dX8_garment_99 (by decide) ?_
      exact ih (p + 1) x _ ⟨by omega, bN_s hi⟩

set_option maxRecDepth 100000 in
set_option maxHeartbeats 4000000 in
theorem c8_garment (E : En) {A : St} {g : Mm} {n : Int} (hR : RM A g) (hW : Wf A n) : Ok E 8 mX8_garment [vR 46] g (fun r g' => (wh A → r = some (vI ((A 12 3 - 1) / 3)) ∧ RM (gmA A) g') ∧ (¬ wh A → r = some (vI (-103)) ∧ RM A g') ∧ sameC g g') := by
  have hM0 := hR.1
  have hW0 := hW.1
  obtain ⟨⟨⟨hm1, hm2, hm3⟩, hmp, hml⟩, ⟨hg1, hg2⟩, ⟨ht1, ht2, ht3, ⟨ht4, ht5⟩, ht6⟩, hmk⟩ := id hR
  obtain ⟨⟨⟨hw1, hw2, hw3, hw4, hw5, hw6, hw7, hw8⟩, hwp, hwl⟩, ⟨hq1, hq2, hq3⟩, ⟨hz1, ⟨hz2, hz3⟩, ⟨hz4, hz5⟩⟩, hwk⟩ := id hW
  refine Ok_of gmX8_garment (by omega) (Nat.le_of_ble_eq_true rfl) (fun X hX => ?_)
  show V E X 0 [some (vR 46), none, none] [] g
  by_cases hw : wh A
  · skip
    obtain ⟨m0, s1, s2, s3, s4, s5, s6⟩ := wh_shape (by omega) hw
    have hrf : rFault A = A 12 3 := hw.2.2
    refine k_aload_n hX.1 dX8_garment_0 rfl rfl ?_
    refine k_callV (d2 := 4) (n := 0) (as := []) hX.1 dX8_garment_1 lkX8_115 (fit_of hX (by omega) gmX8_read) rfl rfl (by decide) rfl rfl rfl (Nat.le_of_ble_eq_true rfl) (cM_read E hR.2.1 hW.2.1) (fun r_1 g_1 q_1 => ?_)
    obtain ⟨rfl, j, z, z1, z2, z3, rfl⟩ := q_1
    obtain rfl := z2.2 hw
    have hj := z3 hw
    refine k_top hrf ?_
    refine k_istore_n hX.1 dX8_garment_4 rfl (by decide) rfl rfl ?_
    try simp only [List.set_cons_zero, List.set_cons_succ]
    refine k_aload_n hX.1 dX8_garment_5 rfl rfl ?_
    refine k_getz hX.1 dX8_garment_6 flX8_97 rfl (by decide) rfl ?_
    refine k_top (b := 1) (rdG_19 g) ?_
    refine k_if_ne (tgt := 15) hX.1 dX8_garment_9 (by decide) (by omega) (fun c_9 => ?_) (fun c_9 => ?_)
    · skip
      refine k_aload_n hX.1 dX8_garment_15 rfl rfl ?_
      refine k_aload_n hX.1 dX8_garment_16 rfl rfl ?_
      refine k_geti hX.1 dX8_garment_17 flX8_94 rfl (by decide) rfl ?_
      refine k_top (b := (m0 : Int)) (by rw [rdG_18 g]; omega) ?_
      refine k_puti hX.1 dX8_garment_20 flX8_119 rfl (by decide) rfl ?_
      refine k_aload_n hX.1 dX8_garment_23 rfl rfl ?_
      refine k_aload_n hX.1 dX8_garment_24 rfl rfl ?_
      refine k_getr (t := 58) hX.1 dX8_garment_25 flX8_43 rfl (by decide) rfl rfl ?_
      refine k_iload_n hX.1 dX8_garment_28 rfl rfl ?_
      refine k_iconst hX.1 dX8_garment_29 ?_
      refine k_isub hX.1 dX8_garment_30 ?_
      refine k_bald (j := 3 * m0) hX.1 dX8_garment_31 rfl (by omega) (n := 18) rfl (by omega) (by omega) ?_
      refine k_top (b := A 11 (3 * m0)) (by rw [wr_off (by omega), rdG_off g (by omega)]; exact hg2 _ (by omega)) ?_
      refine k_bipush hX.1 dX8_garment_32 (by decide) ?_
      refine k_isub hX.1 dX8_garment_34 ?_
      refine k_puti hX.1 dX8_garment_35 flX8_122 rfl (by decide) rfl ?_
      refine k_iconst hX.1 dX8_garment_38 ?_
      refine k_istore_n hX.1 dX8_garment_39 rfl (by decide) rfl rfl ?_
      try simp only [List.set_cons_zero, List.set_cons_succ]
      refine lpM_gm E (g1 := wr (wr (rdG g j 1) 46 1 (m0 : Int)) 46 2 (A 11 (3 * m0) - 48)) hR hW hw ⟨s1, s2⟩ s3 (fun a ha => ⟨?_, rfl⟩) (fun b b1 b2 b3 b4 => ?_) ?_ ?_ ?_ hX m0 0 _ _ ⟨by omega, fun a ha => rfl, rfl, fun q hq => by omega⟩
      · rw [wr_off (by omega), wr_off (by omega)]; funext b; exact rdG_off g (by omega)
      · rw [wr_1, if_neg (by omega), wr_1, if_neg (by omega), rdG_off g (by omega)]
      · rw [wr_1, if_neg (by omega), wr_at]
      · rw [wr_at]
      · rw [wr_off (by omega), wr_off (by omega)]; funext b; exact rdG_off g (by omega)
    · skip
      exact absurd c_9 (by decide)
  · skip
    refine k_aload_n hX.1 dX8_garment_0 rfl rfl ?_
    refine k_callV (d2 := 4) (n := 0) (as := []) hX.1 dX8_garment_1 lkX8_115 (fit_of hX (by omega) gmX8_read) rfl rfl (by decide) rfl rfl rfl (Nat.le_of_ble_eq_true rfl) (cM_read E hR.2.1 hW.2.1) (fun r_1 g_1 q_1 => ?_)
    obtain ⟨rfl, j, z, z1, z2, z3, rfl⟩ := q_1
    obtain rfl : z = 0 := by rcases z1 with z1 | z1; (· exact z1); (· exact absurd (z2.1 z1) hw)
    refine k_istore_n hX.1 dX8_garment_4 rfl (by decide) rfl rfl ?_
    try simp only [List.set_cons_zero, List.set_cons_succ]
    refine k_aload_n hX.1 dX8_garment_5 rfl rfl ?_
    refine k_getz hX.1 dX8_garment_6 flX8_97 rfl (by decide) rfl ?_
    refine k_top (b := 0) (rdG_19 g) ?_
    refine k_if_ne (tgt := 15) hX.1 dX8_garment_9 (by decide) (by omega) (fun c_9 => ?_) (fun c_9 => ?_)
    · skip
      exact absurd rfl c_9
    · skip
      refine k_bipush hX.1 dX8_garment_12 (by decide) ?_
      refine k_iret hX dX8_garment_14 rfl ?_
      refine ⟨fun z => absurd z hw, fun _ => ⟨rfl, RM_scr hR (fun a h1 h2 h3 => by funext b; exact rdG_off g (by omega)) (fun j h1 h2 => rdG_off g (by omega))⟩, fun a ha => ⟨by funext b; exact rdG_off g (by omega), rfl⟩⟩
