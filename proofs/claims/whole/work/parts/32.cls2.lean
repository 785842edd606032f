theorem RC_tk {A : St} {g : Mm} (hR : RC A g) (hW : Wb A) {t : Nat} (ht : (t : Int) < A 12 2) (x : Int) : RC (tkA A t x) (tkM g (11 + t) x) := by
  have h3 : t < 3 := by have := hW.2.1.2; omega
  obtain ⟨-, e1, e2⟩ := hR.1.2.2 t ht
  unfold tkA tkM
  rw [e1, e2]
  have h1 := RC_lot (j := 1) hR hW (by omega) (A 9 t - bgn (A 10 t) x) h3
  exact RC_lot (j := 2) h1 (Wb_up hW (by omega)) (by omega) _ h3
theorem tkA_12 (A : St) (t : Nat) (x : Int) (q : Nat) : tkA A t x 12 q = A 12 q := by unfold tkA; rw [up_off (by omega), up_off (by omega)]
theorem Wb_tk {A : St} (h : Wb A) (t : Nat) (x : Int) : Wb (tkA A t x) := Wb_up (Wb_up h (by omega)) (by omega)
theorem RC_ls {A : St} {g : Mm} (hR : RC A g) (hW : Wb A) {t : Nat} (ht : (t : Int) < A 12 2) (x : Int) : RC (lsA A t x) (if x = 0 then g else wr g (11 + t) 2 (g.1 (11 + t) 2 + (x - 1))) := by
  have h3 : t < 3 := by have := hW.2.1.2; omega
  obtain ⟨-, e1, e2⟩ := hR.1.2.2 t ht
  unfold lsA
  split
  · exact hR
  · rw [e2]
    exact RC_lot (j := 2) hR hW (by omega) _ h3
theorem lsA_12 (A : St) (t : Nat) (x : Int) (q : Nat) : lsA A t x 12 q = A 12 q := by
  unfold lsA
  split
  · rfl
  · rw [up_off (by omega)]
theorem Wb_ls {A : St} (h : Wb A) (t : Nat) (x : Int) : Wb (lsA A t x) := by
  unfold lsA
  split
  · exact h
  · exact Wb_up h (by omega)
theorem RC_cl {A : St} {g : Mm} (hR : RC A g) (hW : Wb A) {p : Nat} (hp : p < 5) : RC (clA A p) (clM g (6 + p)) := by
  have h1 := RC_part (j := 2) hR hW (by omega) (-1) hp
  have w1 := Wb_up (i := 2) (j := p) (v := -1) hW (by omega)
  have h2 := RC_part (j := 3) h1 w1 (by omega) (-1) hp
  have w2 := Wb_up (i := 3) (j := p) (v := -1) w1 (by omega)
  have h3 := RC_part (j := 4) h2 w2 (by omega) 0 hp
  have w3 := Wb_up (i := 4) (j := p) (v := 0) w2 (by omega)
  have h4 := RC_part (j := 5) h3 w3 (by omega) 0 hp
  have w4 := Wb_up (i := 5) (j := p) (v := 0) w3 (by omega)
  exact RC_told h4 w4 (-1) 0 hp rfl
theorem sameM_tk {g h : Mm} (h1 : sameM g h) {k : Nat} (hk : k < 46) (x : Int) : sameM g (tkM h k x) := (h1.wr hk).wr hk
theorem sameM_cl {g h : Mm} (h1 : sameM g h) {k : Nat} (hk : k < 46) : sameM g (clM h k) := ((((h1.wr hk).wr hk).wr hk).wr hk).wr hk
def mkM (g : Mm) (p a b : Nat) (s f1 f2 : Int) : Mm := tkM (tkM (wr (wr (wr (wr g (6 + p) 2 (a : Int)) (6 + p) 3 s) (6 + p) 4 f1) (6 + p) 5 f2) (11 + a) f1) (11 + b) f2
theorem RC_mk {A : St} {g : Mm} (hR : RC A g) (hW : Wb A) {p a b : Nat} (hp : p < 5) (ha : (a : Int) < A 12 2) (hb : (b : Int) < A 12 2) : RC (mkA A p a b) (mkM g p a b (if (a : Int) = (b : Int) then -1 else (b : Int)) (hf A p a b) (A 1 p - hf A p a b)) := by
  have h1 := RC_part (j := 2) hR hW (by omega) (a : Int) hp
  have w1 := Wb_up (i := 2) (j := p) (v := (a : Int)) hW (by omega)
  have h2 := RC_part (j := 3) h1 w1 (by omega) (if (a : Int) = (b : Int) then -1 else (b : Int)) hp
  have w2 := Wb_up (i := 3) (j := p) (v := (if (a : Int) = (b : Int) then -1 else (b : Int))) w1 (by omega)
  have h3 := RC_part (j := 4) h2 w2 (by omega) (hf A p a b) hp
  have w3 := Wb_up (i := 4) (j := p) (v := hf A p a b) w2 (by omega)
  have h4 := RC_part (j := 5) h3 w3 (by omega) (A 1 p - hf A p a b) hp
  have w4 := Wb_up (i := 5) (j := p) (v := A 1 p - hf A p a b) w3 (by omega)
  have h5 := RC_tk h4 w4 (t := a) (by rw [up_off (by omega), up_off (by omega), up_off (by omega), up_off (by omega)]; exact ha) (hf A p a b)
  exact RC_tk h5 (Wb_tk w4 _ _) (t := b) (by rw [tkA_12, up_off (by omega), up_off (by omega), up_off (by omega), up_off (by omega)]; exact hb) (A 1 p - hf A p a b)
theorem sameM_mk (g : Mm) {p a b : Nat} (hp : p < 5) (ha : a < 3) (hb : b < 3) (s f1 f2 : Int) : sameM g (mkM g p a b s f1 f2) := by
  unfold mkM
  exact sameM_tk (sameM_tk (((((sameM.rf g).wr (by omega)).wr (by omega)).wr (by omega)).wr (by omega)) (by omega) _) (by omega) _
theorem tkM_off {g : Mm} {k a : Nat} (h : a ≠ k) (x : Int) : (tkM g k x).1 a = g.1 a := by unfold tkM; rw [wr_off h, wr_off h]
theorem tkM_2 (g : Mm) (k : Nat) (x : Int) : (tkM g k x).1 k 2 = g.1 k 2 + (4 * bgn (g.1 k 2) x - x) := by simp [tkM, wr_1]
theorem bgn_bd {lo x : Int} (h1 : 0 ≤ lo) (h2 : x ≤ 100) : 0 ≤ bgn lo x ∧ bgn lo x ≤ 30 ∧ x ≤ lo + 4 * bgn lo x ∧ (bgn lo x = 0 ∨ lo + 4 * bgn lo x ≤ x + 3) := by unfold bgn; omega
set_option maxRecDepth 100000 in
set_option maxHeartbeats 4000000 in
theorem cW_make (E : En) {A : St} {g : Mm} {n : Int} (hR : RC A g) (hW : Wf A n) {p a b : Nat} (hp : (p : Int) < A 12 0) (ha : (a : Int) < A 12 2) (hb : (b : Int) < A 12 2) : Pr E 3 mX6_make [vR 3, vI (p : Int), vI (a : Int), vI (b : Int)] g (mkM g p a b (if (a : Int) = (b : Int) then -1 else (b : Int)) (hf A p a b) (A 1 p - hf A p a b)) := by
  have hC0 := hR.1
  have hW0 := hW.1
  obtain ⟨⟨⟨hc1, hc2, hc3⟩, hcp, hcl⟩, ⟨hg1, hg2⟩, ⟨ht1, ht2, ht3⟩, hck, hcb⟩ := id hR
  obtain ⟨⟨⟨hw1, hw2, hw3, hw4, hw5, hw6, hw7, hw8⟩, hwp, hwl⟩, ⟨hq1, hq2, hq3⟩, ⟨hz1, ⟨hz2, hz3⟩, ⟨hz4, hz5⟩⟩, hwk⟩ := id hW
  obtain ⟨e0, e1, e2, e3, e4, e5, e6, e7⟩ := hcp (p) (by omega)
  obtain ⟨⟨ek1, ek2⟩, ⟨er1, er2⟩, ew2, ew3, ew4, ew5, ew6, ew7⟩ := hwp (p) (by omega)
  obtain ⟨k0, k1, k2⟩ := hcl (a) (by omega)
  obtain ⟨⟨ka, kb⟩, ⟨kc, kd⟩, ⟨ke, kf⟩⟩ := hwl (a) (by omega)
  obtain ⟨l0, l1, l2⟩ := hcl (b) (by omega)
  obtain ⟨⟨la, lb⟩, ⟨lc, ld⟩, ⟨le, lf⟩⟩ := hwl (b) (by omega)
  have hh : 0 ≤ hf A p a b ∧ hf A p a b ≤ A 1 p := by unfold hf; split <;> omega
  have he : (if (a : Int) = (b : Int) then A 1 p else (A 1 p + 1) / 2) = hf A p a b := rfl
  refine Ok_of gmX6_make (by omega) (Nat.le_of_ble_eq_true rfl) (fun X hX => ?_)
  show V E X 0 [some (vR 3), some (vI (p : Int)), some (vI (a : Int)), some (vI (b : Int)), none] [] g
  refine k_aload_n hX.1 dX6_make_0 rfl rfl ?_
  refine k_getr (t := 4) hX.1 dX6_make_1 flX6_11 rfl (by decide) rfl rfl ?_
  refine k_iload_n hX.1 dX6_make_4 rfl rfl ?_
  refine k_aaldP (j := p) (q := 6 + p) hX.1 dX6_make_5 rfl (by omega) (n := 5) rfl (by omega) (by omega) rfl ?_
  refine k_astore hX.1 dX6_make_6 (by decide) rfl rfl ?_
  try simp only [List.set_cons_zero, List.set_cons_succ]
  refine k_aload hX.1 dX6_make_8 rfl ?_
  refine k_iload_n hX.1 dX6_make_10 rfl rfl ?_
  refine k_puti hX.1 dX6_make_11 flX6_79 (sk_P6 (by omega)) (by decide) rfl ?_
  refine k_aload hX.1 dX6_make_14 rfl ?_
  refine k_iload_n hX.1 dX6_make_16 rfl rfl ?_
  refine k_iload_n hX.1 dX6_make_17 rfl rfl ?_
  refine k_join2 26 (fun z => z = if (a : Int) = (b : Int) then -1 else (b : Int)) (fun z hz => ?_) (fun jn_18 => ?_)
  · skip
    rw [hz]
    refine k_puti hX.1 dX6_make_26 flX6_82 (sk_P6 (by omega)) (by decide) rfl ?_
    refine k_aload hX.1 dX6_make_29 rfl ?_
    refine k_aload hX.1 dX6_make_31 rfl ?_
    refine k_geti hX.1 dX6_make_33 flX6_69 (sk_P6 (by omega)) (by decide) rfl ?_
    refine k_top (b := A 1 p) (by simp [wr_1]; omega) ?_
    refine k_iload_n hX.1 dX6_make_36 rfl rfl ?_
    refine k_iload_n hX.1 dX6_make_37 rfl rfl ?_
    refine k_callNf (d2 := 1) (n := 3) (as := [_, _, _]) hX.1 dX6_make_38 lkX6_72 (fit_of hX (by omega) gmX7_rowsOfFirst) rfl rfl (Nat.le_of_ble_eq_true rfl) (cX_rof E _ (r := A 1 p) (by omega) (by omega) (by omega)) ?_
    rw [he]
    refine k_puti hX.1 dX6_make_41 flX6_85 (sk_P6 (by omega)) (by decide) rfl ?_
    refine k_aload hX.1 dX6_make_44 rfl ?_
    refine k_aload hX.1 dX6_make_46 rfl ?_
    refine k_geti hX.1 dX6_make_48 flX6_69 (sk_P6 (by omega)) (by decide) rfl ?_
    refine k_top (b := A 1 p) (by simp [wr_1]; omega) ?_
    refine k_aload hX.1 dX6_make_51 rfl ?_
    refine k_geti hX.1 dX6_make_53 flX6_85 (sk_P6 (by omega)) (by decide) rfl ?_
    refine k_top (b := hf A p a b) (by simp [wr_1]) ?_
    refine k_isub hX.1 dX6_make_56 ?_
    refine k_puti hX.1 dX6_make_57 flX6_88 (sk_P6 (by omega)) (by decide) rfl ?_
    refine k_aload_n hX.1 dX6_make_60 rfl rfl ?_
    refine k_getr (t := 5) hX.1 dX6_make_61 flX6_19 rfl (by decide) rfl rfl ?_
    refine k_iload_n hX.1 dX6_make_64 rfl rfl ?_
    refine k_aaldL (j := a) (q := 11 + a) hX.1 dX6_make_65 rfl (by omega) (n := 3) rfl (by omega) (by omega) rfl ?_
    refine k_aload hX.1 dX6_make_66 rfl ?_
    refine k_geti hX.1 dX6_make_68 flX6_85 (sk_P6 (by omega)) (by decide) rfl ?_
    refine k_top (b := hf A p a b) (by simp [wr_1]) ?_
    refine k_callVp (d2 := 2) (n := 1) (as := [_]) hX.1 dX6_make_71 lkX6_91 (fit_of hX (by omega) gmX2_take) rfl (sk_L11 (by omega)) (by decide) rfl rfl rfl (Nat.le_of_ble_eq_true rfl) (cL_take E _ (t := a) (by omega) (by omega) (by rw [wr_off (by omega), wr_off (by omega), wr_off (by omega), wr_off (by omega)]; omega)) ?_
    refine k_aload_n hX.1 dX6_make_74 rfl rfl ?_
    refine k_getr (t := 5) hX.1 dX6_make_75 flX6_19 rfl (by decide) rfl rfl ?_
    refine k_iload_n hX.1 dX6_make_78 rfl rfl ?_
    refine k_aaldL (j := b) (q := 11 + b) hX.1 dX6_make_79 rfl (by omega) (n := 3) rfl (by omega) (by omega) rfl ?_
    refine k_aload hX.1 dX6_make_80 rfl ?_
    refine k_geti hX.1 dX6_make_82 flX6_88 (sk_P6 (by omega)) (by decide) rfl ?_
    refine k_top (b := A 1 p - hf A p a b) (by rw [tkM_off (by omega)]; simp [wr_1]) ?_
    refine k_callVp (d2 := 2) (n := 1) (as := [_]) hX.1 dX6_make_85 lkX6_91 (fit_of hX (by omega) gmX2_take) rfl (sk_L11 (by omega)) (by decide) rfl rfl rfl (Nat.le_of_ble_eq_true rfl) (cL_take E _ (t := b) (by omega) (by omega) ?_) ?_
    · by_cases hab : a = b
      · subst hab
        rw [tkM_2, wr_off (by omega), wr_off (by omega), wr_off (by omega), wr_off (by omega)]
        have := bgn_bd (lo := g.1 (11 + a) 2) (x := hf A p a a) (by omega) (by omega)
        omega
      · rw [tkM_off (by omega), wr_off (by omega), wr_off (by omega), wr_off (by omega), wr_off (by omega)]
        omega
    refine k_vret hX dX6_make_88 rfl ?_
    exact ⟨rfl, rfl⟩
  · refine k_icmp_ne (tgt := 25) hX.1 dX6_make_18 (by decide) (by omega) (by omega) (fun c_18 => ?_) (fun c_18 => ?_)
    · skip
      refine k_iload_n hX.1 dX6_make_25 rfl rfl ?_
      exact jn_18 _ (by first | rw [if_pos (by omega)] | rw [if_neg (by omega)])
    · skip
      refine k_iconst hX.1 dX6_make_21 ?_
      refine k_goto (tgt := 26) hX.1 dX6_make_22 (by decide) ?_
      exact jn_18 _ (by first | rw [if_pos (by omega)] | rw [if_neg (by omega)])

theorem sameM_ls {g h : Mm} (h1 : sameM g h) {t : Nat} (ht : t < 3) (x : Int) : sameM g (if x = 0 then h else wr h (11 + t) 2 (h.1 (11 + t) 2 + (x - 1))) := by
  split
  · exact h1
  · exact h1.wr (by omega)
theorem ls_off {h : Mm} {t a : Nat} (ha : a ≠ 11 + t) (x : Int) : (if x = 0 then h else wr h (11 + t) 2 (h.1 (11 + t) 2 + (x - 1))).1 a = h.1 a := by
  split
  · rfl
  · exact wr_off ha
set_option maxRecDepth 100000 in
set_option maxHeartbeats 4000000 in
theorem cW_unravel (E : En) {A : St} {g : Mm} {n : Int} (hR : RC A g) (hW : Wf A n) {p : Nat} (hp : (p : Int) < A 12 0) (ho : A 2 p ≠ -1) : Ok E 2 mX6_unravel [vR 3, vI (p : Int)] g (fun r g' => r = some (vI (lost A p)) ∧ RC (unA A p) g' ∧ sameM g g') := by
  have hC0 := hR.1
  have hW0 := hW.1
  obtain ⟨⟨⟨hc1, hc2, hc3⟩, hcp, hcl⟩, ⟨hg1, hg2⟩, ⟨ht1, ht2, ht3⟩, hck, hcb⟩ := id hR
  obtain ⟨⟨⟨hw1, hw2, hw3, hw4, hw5, hw6, hw7, hw8⟩, hwp, hwl⟩, ⟨hq1, hq2, hq3⟩, ⟨hz1, ⟨hz2, hz3⟩, ⟨hz4, hz5⟩⟩, hwk⟩ := id hW
  obtain ⟨e0, e1, e2, e3, e4, e5, e6, e7⟩ := hcp (p) (by omega)
  obtain ⟨⟨ek1, ek2⟩, ⟨er1, er2⟩, ew2, ew3, ew4, ew5, ew6, ew7⟩ := hwp (p) (by omega)
  obtain ⟨a, ha⟩ : ∃ m : Nat, A 2 p = (m : Int) := ⟨(A 2 p).toNat, by omega⟩
  obtain ⟨k0, k1, k2⟩ := hcl (a) (by omega)
  obtain ⟨⟨ka, kb⟩, ⟨kc, kd⟩, ⟨ke, kf⟩⟩ := hwl (a) (by omega)
  refine Ok_of gmX6_unravel (by omega) (Nat.le_of_ble_eq_true rfl) (fun X hX => ?_)
  show V E X 0 [some (vR 3), some (vI (p : Int)), none, none] [] g
  by_cases h2 : A 3 p = -1
  · skip
    refine k_aload_n hX.1 dX6_unravel_0 rfl rfl ?_
    refine k_getr (t := 4) hX.1 dX6_unravel_1 flX6_11 rfl (by decide) rfl rfl ?_
    refine k_iload_n hX.1 dX6_unravel_4 rfl rfl ?_
    refine k_aaldP (j := p) (q := 6 + p) hX.1 dX6_unravel_5 rfl (by omega) (n := 5) rfl (by omega) (by omega) rfl ?_
    refine k_astore_n hX.1 dX6_unravel_6 rfl (by decide) rfl rfl ?_
    try simp only [List.set_cons_zero, List.set_cons_succ]
    refine k_iconst hX.1 dX6_unravel_7 ?_
    refine k_istore_n hX.1 dX6_unravel_8 rfl (by decide) rfl rfl ?_
    try simp only [List.set_cons_zero, List.set_cons_succ]
    refine k_aload_n hX.1 dX6_unravel_9 rfl rfl ?_
    refine k_aload_n hX.1 dX6_unravel_10 rfl rfl ?_
    refine k_geti hX.1 dX6_unravel_11 flX6_79 (sk_P6 (by omega)) (by decide) rfl ?_
    refine k_callVf (d2 := 1) (n := 1) (as := [_]) hX.1 dX6_unravel_14 lkX6_95 (fit_of hX (by omega) gmX6_hasLot) rfl rfl (by decide) rfl rfl rfl (Nat.le_of_ble_eq_true rfl) (cW_hasLot1 E g (by omega) (by omega) (by omega)) ?_
    refine k_if_eq (tgt := 39) hX.1 dX6_unravel_17 (by decide) (by omega) (fun c_17 => ?_) (fun c_17 => ?_)
    · skip
      exact absurd c_17 (by decide)
    · skip
      refine k_iload_n hX.1 dX6_unravel_20 rfl rfl ?_
      refine k_aload_n hX.1 dX6_unravel_21 rfl rfl ?_
      refine k_getr (t := 5) hX.1 dX6_unravel_22 flX6_19 rfl (by decide) rfl rfl ?_
      refine k_aload_n hX.1 dX6_unravel_25 rfl rfl ?_
      refine k_geti hX.1 dX6_unravel_26 flX6_79 (sk_P6 (by omega)) (by decide) rfl ?_
      refine k_aaldL (j := a) (q := 11 + a) hX.1 dX6_unravel_29 rfl (by omega) (n := 3) rfl (by omega) (by omega) rfl ?_
      refine k_aload_n hX.1 dX6_unravel_30 rfl rfl ?_
      refine k_geti hX.1 dX6_unravel_31 flX6_85 (sk_P6 (by omega)) (by decide) rfl ?_
      refine k_callV (d2 := 1) (n := 1) (as := [_]) hX.1 dX6_unravel_34 lkX6_99 (fit_of hX (by omega) gmX2_loosen) rfl (sk_L11 (by omega)) (by decide) rfl rfl rfl (Nat.le_of_ble_eq_true rfl) (cL_loosen E g (t := a) (by omega) (by omega)) (fun r_34 g_34 q_34 => ?_)
      obtain ⟨rfl, rfl⟩ := q_34
      show V E X 37 _ (vI _ :: _) _
      refine k_iadd hX.1 dX6_unravel_37 ?_
      refine k_istore_n hX.1 dX6_unravel_38 rfl (by decide) rfl rfl ?_
      try simp only [List.set_cons_zero, List.set_cons_succ]
      refine k_aload_n hX.1 dX6_unravel_39 rfl rfl ?_
      refine k_aload_n hX.1 dX6_unravel_40 rfl rfl ?_
      refine k_geti hX.1 dX6_unravel_41 flX6_82 (sk_P6 (by omega)) (by decide) rfl ?_
      refine k_top (b := -1) (by rw [ls_off (by omega)]; omega) ?_
      refine k_callVf (d2 := 1) (n := 1) (as := [_]) hX.1 dX6_unravel_44 lkX6_95 (fit_of hX (by omega) gmX6_hasLot) rfl rfl (by decide) rfl rfl rfl (Nat.le_of_ble_eq_true rfl) (cW_hasLot0 E _ (by omega) (by omega) (by rw [ls_off (by omega)]; omega)) ?_
      refine k_if_eq (tgt := 69) hX.1 dX6_unravel_47 (by decide) (by omega) (fun c_47 => ?_) (fun c_47 => ?_)
      · skip
        refine k_aload_n hX.1 dX6_unravel_69 rfl rfl ?_
        refine k_callVp (d2 := 1) (n := 0) (as := []) hX.1 dX6_unravel_70 lkX6_102 (fit_of hX (by omega) gmX4_clear) rfl (sk_P6 (by omega)) (by decide) rfl rfl rfl (Nat.le_of_ble_eq_true rfl) (cP_clear E _ (p := p) (by omega)) ?_
        refine k_iload_n hX.1 dX6_unravel_73 rfl rfl ?_
        refine k_iret hX dX6_unravel_74 rfl ?_
        refine ⟨?_, ?_, ?_⟩
        · congr 2
          unfold lost
          rw [if_pos h2, e4]
          omega
        · unfold unA
          rw [if_pos h2, ha, Int.toNat_natCast, e4]
          exact RC_cl (RC_ls hR hW.b (by omega) _) (Wb_ls hW.b _ _) (by omega)
        · exact sameM_cl (sameM_ls (sameM.rf g) (by omega) _) (by omega)
      · skip
        exact absurd rfl c_47
  · skip
    obtain ⟨b, hb⟩ : ∃ m : Nat, A 3 p = (m : Int) := ⟨(A 3 p).toNat, by omega⟩
    obtain ⟨l0, l1, l2⟩ := hcl (b) (by omega)
    obtain ⟨⟨la, lb⟩, ⟨lc, ld⟩, ⟨le, lf⟩⟩ := hwl (b) (by omega)
    refine k_aload_n hX.1 dX6_unravel_0 rfl rfl ?_
    refine k_getr (t := 4) hX.1 dX6_unravel_1 flX6_11 rfl (by decide) rfl rfl ?_
    refine k_iload_n hX.1 dX6_unravel_4 rfl rfl ?_
    refine k_aaldP (j := p) (q := 6 + p) hX.1 dX6_unravel_5 rfl (by omega) (n := 5) rfl (by omega) (by omega) rfl ?_
    refine k_astore_n hX.1 dX6_unravel_6 rfl (by decide) rfl rfl ?_
    try simp only [List.set_cons_zero, List.set_cons_succ]
    refine k_iconst hX.1 dX6_unravel_7 ?_
    refine k_istore_n hX.1 dX6_unravel_8 rfl (by decide) rfl rfl ?_
    try simp only [List.set_cons_zero, List.set_cons_succ]
    refine k_aload_n hX.1 dX6_unravel_9 rfl rfl ?_
    refine k_aload_n hX.1 dX6_unravel_10 rfl rfl ?_
    refine k_geti hX.1 dX6_unravel_11 flX6_79 (sk_P6 (by omega)) (by decide) rfl ?_
    refine k_callVf (d2 := 1) (n := 1) (as := [_]) hX.1 dX6_unravel_14 lkX6_95 (fit_of hX (by omega) gmX6_hasLot) rfl rfl (by decide) rfl rfl rfl (Nat.le_of_ble_eq_true rfl) (cW_hasLot1 E g (by omega) (by omega) (by omega)) ?_
    refine k_if_eq (tgt := 39) hX.1 dX6_unravel_17 (by decide) (by omega) (fun c_17 => ?_) (fun c_17 => ?_)
    · skip
      exact absurd c_17 (by decide)
    · skip
      refine k_iload_n hX.1 dX6_unravel_20 rfl rfl ?_
      refine k_aload_n hX.1 dX6_unravel_21 rfl rfl ?_
      refine k_getr (t := 5) hX.1 dX6_unravel_22 flX6_19 rfl (by decide) rfl rfl ?_
      refine k_aload_n hX.1 dX6_unravel_25 rfl rfl ?_
      refine k_geti hX.1 dX6_unravel_26 flX6_79 (sk_P6 (by omega)) (by decide) rfl ?_
      refine k_aaldL (j := a) (q := 11 + a) hX.1 dX6_unravel_29 rfl (by omega) (n := 3) rfl (by omega) (by omega) rfl ?_
      refine k_aload_n hX.1 dX6_unravel_30 rfl rfl ?_
      refine k_geti hX.1 dX6_unravel_31 flX6_85 (sk_P6 (by omega)) (by decide) rfl ?_
      refine k_callV (d2 := 1) (n := 1) (as := [_]) hX.1 dX6_unravel_34 lkX6_99 (fit_of hX (by omega) gmX2_loosen) rfl (sk_L11 (by omega)) (by decide) rfl rfl rfl (Nat.le_of_ble_eq_true rfl) (cL_loosen E g (t := a) (by omega) (by omega)) (fun r_34 g_34 q_34 => ?_)
      obtain ⟨rfl, rfl⟩ := q_34
      show V E X 37 _ (vI _ :: _) _
      refine k_iadd hX.1 dX6_unravel_37 ?_
      refine k_istore_n hX.1 dX6_unravel_38 rfl (by decide) rfl rfl ?_
      try simp only [List.set_cons_zero, List.set_cons_succ]
      refine k_aload_n hX.1 dX6_unravel_39 rfl rfl ?_
      refine k_aload_n hX.1 dX6_unravel_40 rfl rfl ?_
      refine k_geti hX.1 dX6_unravel_41 flX6_82 (sk_P6 (by omega)) (by decide) rfl ?_
      refine k_top (b := (b : Int)) (by rw [ls_off (by omega)]; omega) ?_
      refine k_callVf (d2 := 1) (n := 1) (as := [_]) hX.1 dX6_unravel_44 lkX6_95 (fit_of hX (by omega) gmX6_hasLot) rfl rfl (by decide) rfl rfl rfl (Nat.le_of_ble_eq_true rfl) (cW_hasLot1 E _ (by omega) (by rw [ls_off (by omega)]; omega) (by rw [ls_off (by omega)]; omega)) ?_
      refine k_if_eq (tgt := 69) hX.1 dX6_unravel_47 (by decide) (by omega) (fun c_47 => ?_) (fun c_47 => ?_)
      · skip
        exact absurd c_47 (by decide)
      · skip
        refine k_iload_n hX.1 dX6_unravel_50 rfl rfl ?_
        refine k_aload_n hX.1 dX6_unravel_51 rfl rfl ?_
        refine k_getr (t := 5) hX.1 dX6_unravel_52 flX6_19 rfl (by decide) rfl rfl ?_
        refine k_aload_n hX.1 dX6_unravel_55 rfl rfl ?_
        refine k_geti hX.1 dX6_unravel_56 flX6_82 (sk_P6 (by omega)) (by decide) rfl ?_
        refine k_top (b := (b : Int)) (by rw [ls_off (by omega)]; omega) ?_
        refine k_aaldL (j := b) (q := 11 + b) hX.1 dX6_unravel_59 rfl (by omega) (n := 3) rfl (by omega) (by omega) rfl ?_
        refine k_aload_n hX.1 dX6_unravel_60 rfl rfl ?_
        refine k_geti hX.1 dX6_unravel_61 flX6_88 (sk_P6 (by omega)) (by decide) rfl ?_
        refine k_top (b := A 5 p) (by rw [ls_off (by omega)]; omega) ?_
        refine k_callV (d2 := 1) (n := 1) (as := [_]) hX.1 dX6_unravel_64 lkX6_99 (fit_of hX (by omega) gmX2_loosen) rfl (sk_L11 (by omega)) (by decide) rfl rfl rfl (Nat.le_of_ble_eq_true rfl) (cL_loosen E _ (t := b) (by omega) (by omega)) (fun r_64 g_64 q_64 => ?_)
        obtain ⟨rfl, rfl⟩ := q_64
        show V E X 67 _ (vI _ :: _) _
        refine k_iadd hX.1 dX6_unravel_67 ?_
        refine k_istore_n hX.1 dX6_unravel_68 rfl (by decide) rfl rfl ?_
        try simp only [List.set_cons_zero, List.set_cons_succ]
        refine k_aload_n hX.1 dX6_unravel_69 rfl rfl ?_
        refine k_callVp (d2 := 1) (n := 0) (as := []) hX.1 dX6_unravel_70 lkX6_102 (fit_of hX (by omega) gmX4_clear) rfl (sk_P6 (by omega)) (by decide) rfl rfl rfl (Nat.le_of_ble_eq_true rfl) (cP_clear E _ (p := p) (by omega)) ?_
        refine k_iload_n hX.1 dX6_unravel_73 rfl rfl ?_
        refine k_iret hX dX6_unravel_74 rfl ?_
        refine ⟨?_, ?_, ?_⟩
        · congr 2
          unfold lost
          rw [if_neg h2, e4]
          omega
        · unfold unA
          rw [if_neg h2, ha, hb, Int.toNat_natCast, Int.toNat_natCast, e4]
          exact RC_cl (RC_ls (RC_ls hR hW.b (by omega) _) (Wb_ls hW.b _ _) (by rw [lsA_12]; omega) _) (Wb_ls (Wb_ls hW.b _ _) _ _) (by omega)
        · exact sameM_cl (sameM_ls (sameM_ls (sameM.rf g) (by omega) _) (by omega) _) (by omega)

theorem nKnit_W0 : True := trivial
set_option maxRecDepth 100000 in
set_option maxHeartbeats 4000000 in
theorem c7_knit (E : En) {A : St} {g : Mm} {n : Int} (hR : RC A g) (hW : Wf A n) {q x y : Int} (hq : bd q) (hx : bd x) (hy : bd y) (hWn : Wf (nKnit A q x y) (n + 1)) : Ok E 5 mX7_knit [vR 0, vI q, vI x, vI y] g (fun r g' => r = some (vI (rKnit A q x y)) ∧ RC (nKnit A q x y) g' ∧ sameM g g') := by
  have hC0 := hR.1
  have hW0 := hW.1
  obtain ⟨⟨⟨hc1, hc2, hc3⟩, hcp, hcl⟩, ⟨hg1, hg2⟩, ⟨ht1, ht2, ht3⟩, hck, hcb⟩ := id hR
  obtain ⟨⟨⟨hw1, hw2, hw3, hw4, hw5, hw6, hw7, hw8⟩, hwp, hwl⟩, ⟨hq1, hq2, hq3⟩, ⟨hz1, ⟨hz2, hz3⟩, ⟨hz4, hz5⟩⟩, hwk⟩ := id hW
  refine Ok_of gmX7_knit (by omega) (Nat.le_of_ble_eq_true rfl) (fun X hX => ?_)
  show V E X 0 [some (vR 0), some (vI q), some (vI x), some (vI y)] [] g
  by_cases i1 : 0 ≤ q ∧ q < A 12 0
  · skip
    by_cases i2 : 0 ≤ x ∧ x < A 12 2
    · skip
      by_cases i3 : 0 ≤ y ∧ y < A 12 2
      · skip
        obtain ⟨p, rfl⟩ : ∃ m : Nat, q = (m : Int) := ⟨q.toNat, by omega⟩
        obtain ⟨a, rfl⟩ : ∃ m : Nat, x = (m : Int) := ⟨x.toNat, by omega⟩
        obtain ⟨b, rfl⟩ : ∃ m : Nat, y = (m : Int) := ⟨y.toNat, by omega⟩
        obtain ⟨e0, e1, e2, e3, e4, e5, e6, e7⟩ := hcp (p) (by omega)
        obtain ⟨⟨ek1, ek2⟩, ⟨er1, er2⟩, ew2, ew3, ew4, ew5, ew6, ew7⟩ := hwp (p) (by omega)
        obtain ⟨k0, k1, k2⟩ := hcl (a) (by omega)
        obtain ⟨⟨ka, kb⟩, ⟨kc, kd⟩, ⟨ke, kf⟩⟩ := hwl (a) (by omega)
        obtain ⟨l0, l1, l2⟩ := hcl (b) (by omega)
        obtain ⟨⟨la, lb⟩, ⟨lc, ld⟩, ⟨le, lf⟩⟩ := hwl (b) (by omega)
        by_cases h1 : A 2 p = -1
        · skip
          by_cases h2 : hf A p a b ≤ rws A a ∧ A 1 p - hf A p a b ≤ rws A b
          · skip
            have hn : nKnit A p a b = mkA A p a b := by
              unfold nKnit
              rw [Int.toNat_natCast, Int.toNat_natCast, Int.toNat_natCast, if_pos (by omega), if_pos ⟨h1, h2⟩]
            rw [hn] at hWn
            refine k_aload_n hX.1 dX7_knit_0 rfl rfl ?_
            refine k_getr (t := 3) hX.1 dX7_knit_1 flX7_19 rfl (by decide) rfl rfl ?_
            refine k_iload_n hX.1 dX7_knit_4 rfl rfl ?_
            refine k_callVf (d2 := 1) (n := 1) (as := [_]) hX.1 dX7_knit_5 lkX7_77 (fit_of hX (by omega) gmX6_hasPart) rfl rfl (by decide) rfl rfl rfl (Nat.le_of_ble_eq_true rfl) (cW_hasPart1 E g (by omega) (by omega) (by omega)) ?_
            refine k_if_eq (tgt := 33) hX.1 dX7_knit_8 (by decide) (by omega) (fun c_8 => ?_) (fun c_8 => ?_)
            · skip
              exact absurd c_8 (by decide)
            · skip
              refine k_aload_n hX.1 dX7_knit_11 rfl rfl ?_
              refine k_getr (t := 3) hX.1 dX7_knit_12 flX7_19 rfl (by decide) rfl rfl ?_
              refine k_iload_n hX.1 dX7_knit_15 rfl rfl ?_
              refine k_callVf (d2 := 1) (n := 1) (as := [_]) hX.1 dX7_knit_16 lkX7_109 (fit_of hX (by omega) gmX6_hasLot) rfl rfl (by decide) rfl rfl rfl (Nat.le_of_ble_eq_true rfl) (cW_hasLot1 E g (by omega) (by omega) (by omega)) ?_
              refine k_if_eq (tgt := 33) hX.1 dX7_knit_19 (by decide) (by omega) (fun c_19 => ?_) (fun c_19 => ?_)
              · skip
                exact absurd c_19 (by decide)
              · skip
                refine k_aload_n hX.1 dX7_knit_22 rfl rfl ?_
                refine k_getr (t := 3) hX.1 dX7_knit_23 flX7_19 rfl (by decide) rfl rfl ?_
                refine k_iload_n hX.1 dX7_knit_26 rfl rfl ?_
                refine k_callVf (d2 := 1) (n := 1) (as := [_]) hX.1 dX7_knit_27 lkX7_109 (fit_of hX (by omega) gmX6_hasLot) rfl rfl (by decide) rfl rfl rfl (Nat.le_of_ble_eq_true rfl) (cW_hasLot1 E g (by omega) (by omega) (by omega)) ?_
                refine k_if_ne (tgt := 36) hX.1 dX7_knit_30 (by decide) (by omega) (fun c_30 => ?_) (fun c_30 => ?_)
                · skip
                  refine k_aload_n hX.1 dX7_knit_36 rfl rfl ?_
                  refine k_getr (t := 3) hX.1 dX7_knit_37 flX7_19 rfl (by decide) rfl rfl ?_
                  refine k_getr (t := 4) hX.1 dX7_knit_40 flX7_89 rfl (by decide) rfl rfl ?_
                  refine k_iload_n hX.1 dX7_knit_43 rfl rfl ?_
                  refine k_aaldP (j := p) (q := 6 + p) hX.1 dX7_knit_44 rfl (by omega) (n := 5) rfl (by omega) (by omega) rfl ?_
                  refine k_callVf (d2 := 1) (n := 0) (as := []) hX.1 dX7_knit_45 lkX7_119 (fit_of hX (by omega) gmX4_isKnitted) rfl (sk_P6 (by omega)) (by decide) rfl rfl rfl (Nat.le_of_ble_eq_true rfl) (cP_isKnitted E g (p := p) (by omega) (by omega)) ?_
                  refine k_if_ne (tgt := 64) hX.1 dX7_knit_48 (by decide) (by split <;> omega) (fun c_48 => ?_) (fun c_48 => ?_)
                  · skip
                    exact absurd (if_pos (by omega)) c_48
                  · skip
                    refine k_aload_n hX.1 dX7_knit_51 rfl rfl ?_
                    refine k_getr (t := 3) hX.1 dX7_knit_52 flX7_19 rfl (by decide) rfl rfl ?_
                    refine k_iload_n hX.1 dX7_knit_55 rfl rfl ?_
                    refine k_iload_n hX.1 dX7_knit_56 rfl rfl ?_
                    refine k_iload_n hX.1 dX7_knit_57 rfl rfl ?_
                    refine k_callVf (d2 := 2) (n := 3) (as := [_, _, _]) hX.1 dX7_knit_58 lkX7_122 (fit_of hX (by omega) gmX6_canMake) rfl rfl (by decide) rfl rfl rfl (Nat.le_of_ble_eq_true rfl) (cW_canMake E hC0 hW0 (p := p) (a := a) (b := b) (by omega) (by omega) (by omega)) ?_
                    refine k_if_ne (tgt := 67) hX.1 dX7_knit_61 (by decide) (by split <;> omega) (fun c_61 => ?_) (fun c_61 => ?_)
                    · skip
                      refine k_aload_n hX.1 dX7_knit_67 rfl rfl ?_
                      refine k_getr (t := 3) hX.1 dX7_knit_68 flX7_19 rfl (by decide) rfl rfl ?_
                      refine k_iload_n hX.1 dX7_knit_71 rfl rfl ?_
                      refine k_iload_n hX.1 dX7_knit_72 rfl rfl ?_
                      refine k_iload_n hX.1 dX7_knit_73 rfl rfl ?_
                      refine k_callVp (d2 := 3) (n := 3) (as := [_, _, _]) hX.1 dX7_knit_74 lkX7_126 (fit_of hX (by omega) gmX6_make) rfl rfl (by decide) rfl rfl rfl (Nat.le_of_ble_eq_true rfl) (cW_make E hR hW (p := p) (a := a) (b := b) (by omega) (by omega) (by omega)) ?_
                      have hR2 := RC_mk hR hW.b (p := p) (a := a) (b := b) (by omega) (by omega) (by omega)
                      refine k_aload_n hX.1 dX7_knit_77 rfl rfl ?_
                      refine k_getr (t := 3) hX.1 dX7_knit_78 flX7_19 rfl (by decide) rfl rfl ?_
                      refine k_callVf (d2 := 4) (n := 0) (as := []) hX.1 dX7_knit_81 lkX7_130 (fit_of hX (by omega) gmX6_seenOfAll) rfl rfl (by decide) rfl rfl rfl (Nat.le_of_ble_eq_true rfl) (cW_seenOfAll E hR2.1 hWn.1) ?_
                      refine k_iret hX dX7_knit_84 rfl ?_
                      refine ⟨?_, ?_, sameM_mk g (by omega) (by omega) (by omega) _ _ _⟩
                      · congr 2
                        unfold rKnit
                        rw [Int.toNat_natCast, Int.toNat_natCast, Int.toNat_natCast, if_pos (by omega), if_pos ⟨h1, h2⟩]
                      · rw [hn]; exact hR2
                    · skip
                      rw [if_pos h2] at c_61; exact absurd c_61 (by decide)
                · skip
                  exact absurd c_30 (by decide)
          · skip
            refine k_aload_n hX.1 dX7_knit_0 rfl rfl ?_
            refine k_getr (t := 3) hX.1 dX7_knit_1 flX7_19 rfl (by decide) rfl rfl ?_
            refine k_iload_n hX.1 dX7_knit_4 rfl rfl ?_
            refine k_callVf (d2 := 1) (n := 1) (as := [_]) hX.1 dX7_knit_5 lkX7_77 (fit_of hX (by omega) gmX6_hasPart) rfl rfl (by decide) rfl rfl rfl (Nat.le_of_ble_eq_true rfl) (cW_hasPart1 E g (by omega) (by omega) (by omega)) ?_
            refine k_if_eq (tgt := 33) hX.1 dX7_knit_8 (by decide) (by omega) (fun c_8 => ?_) (fun c_8 => ?_)
            · skip
              exact absurd c_8 (by decide)
            · skip
              refine k_aload_n hX.1 dX7_knit_11 rfl rfl ?_
              refine k_getr (t := 3) hX.1 dX7_knit_12 flX7_19 rfl (by decide) rfl rfl ?_
              refine k_iload_n hX.1 dX7_knit_15 rfl rfl ?_
              refine k_callVf (d2 := 1) (n := 1) (as := [_]) hX.1 dX7_knit_16 lkX7_109 (fit_of hX (by omega) gmX6_hasLot) rfl rfl (by decide) rfl rfl rfl (Nat.le_of_ble_eq_true rfl) (cW_hasLot1 E g (by omega) (by omega) (by omega)) ?_
              refine k_if_eq (tgt := 33) hX.1 dX7_knit_19 (by decide) (by omega) (fun c_19 => ?_) (fun c_19 => ?_)
              · skip
                exact absurd c_19 (by decide)
              · skip
                refine k_aload_n hX.1 dX7_knit_22 rfl rfl ?_
                refine k_getr (t := 3) hX.1 dX7_knit_23 flX7_19 rfl (by decide) rfl rfl ?_
                refine k_iload_n hX.1 dX7_knit_26 rfl rfl ?_
                refine k_callVf (d2 := 1) (n := 1) (as := [_]) hX.1 dX7_knit_27 lkX7_109 (fit_of hX (by omega) gmX6_hasLot) rfl rfl (by decide) rfl rfl rfl (Nat.le_of_ble_eq_true rfl) (cW_hasLot1 E g (by omega) (by omega) (by omega)) ?_
                refine k_if_ne (tgt := 36) hX.1 dX7_knit_30 (by decide) (by omega) (fun c_30 => ?_) (fun c_30 => ?_)
                · skip
                  refine k_aload_n hX.1 dX7_knit_36 rfl rfl ?_
                  refine k_getr (t := 3) hX.1 dX7_knit_37 flX7_19 rfl (by decide) rfl rfl ?_
                  refine k_getr (t := 4) hX.1 dX7_knit_40 flX7_89 rfl (by decide) rfl rfl ?_
                  refine k_iload_n hX.1 dX7_knit_43 rfl rfl ?_
                  refine k_aaldP (j := p) (q := 6 + p) hX.1 dX7_knit_44 rfl (by omega) (n := 5) rfl (by omega) (by omega) rfl ?_
                  refine k_callVf (d2 := 1) (n := 0) (as := []) hX.1 dX7_knit_45 lkX7_119 (fit_of hX (by omega) gmX4_isKnitted) rfl (sk_P6 (by omega)) (by decide) rfl rfl rfl (Nat.le_of_ble_eq_true rfl) (cP_isKnitted E g (p := p) (by omega) (by omega)) ?_
                  refine k_if_ne (tgt := 64) hX.1 dX7_knit_48 (by decide) (by split <;> omega) (fun c_48 => ?_) (fun c_48 => ?_)
                  · skip
                    exact absurd (if_pos (by omega)) c_48
                  · skip
                    refine k_aload_n hX.1 dX7_knit_51 rfl rfl ?_
                    refine k_getr (t := 3) hX.1 dX7_knit_52 flX7_19 rfl (by decide) rfl rfl ?_
                    refine k_iload_n hX.1 dX7_knit_55 rfl rfl ?_
                    refine k_iload_n hX.1 dX7_knit_56 rfl rfl ?_
                    refine k_iload_n hX.1 dX7_knit_57 rfl rfl ?_
                    refine k_callVf (d2 := 2) (n := 3) (as := [_, _, _]) hX.1 dX7_knit_58 lkX7_122 (fit_of hX (by omega) gmX6_canMake) rfl rfl (by decide) rfl rfl rfl (Nat.le_of_ble_eq_true rfl) (cW_canMake E hC0 hW0 (p := p) (a := a) (b := b) (by omega) (by omega) (by omega)) ?_
                    refine k_if_ne (tgt := 67) hX.1 dX7_knit_61 (by decide) (by split <;> omega) (fun c_61 => ?_) (fun c_61 => ?_)
                    · skip
                      exact absurd (if_neg h2) c_61
                    · skip
                      refine k_bipush hX.1 dX7_knit_64 (by decide) ?_
                      refine k_iret hX dX7_knit_66 rfl ?_
                      refine ⟨?_, ?_, sameM.rf g⟩
                      · congr 2
                        unfold rKnit
                        try rw [Int.toNat_natCast, Int.toNat_natCast, Int.toNat_natCast]
                        (repeat first | rw [if_pos (by omega)] | rw [if_neg (by omega)])
                      · unfold nKnit
                        try rw [Int.toNat_natCast, Int.toNat_natCast, Int.toNat_natCast]
                        (repeat first | rw [if_pos (by omega)] | rw [if_neg (by omega)])
                        exact hR
                · skip
                  exact absurd c_30 (by decide)
        · skip
          refine k_aload_n hX.1 dX7_knit_0 rfl rfl ?_
          refine k_getr (t := 3) hX.1 dX7_knit_1 flX7_19 rfl (by decide) rfl rfl ?_
          refine k_iload_n hX.1 dX7_knit_4 rfl rfl ?_
          refine k_callVf (d2 := 1) (n := 1) (as := [_]) hX.1 dX7_knit_5 lkX7_77 (fit_of hX (by omega) gmX6_hasPart) rfl rfl (by decide) rfl rfl rfl (Nat.le_of_ble_eq_true rfl) (cW_hasPart1 E g (by omega) (by omega) (by omega)) ?_
          refine k_if_eq (tgt := 33) hX.1 dX7_knit_8 (by decide) (by omega) (fun c_8 => ?_) (fun c_8 => ?_)
          · skip
            exact absurd c_8 (by decide)
          · skip
            refine k_aload_n hX.1 dX7_knit_11 rfl rfl ?_
            refine k_getr (t := 3) hX.1 dX7_knit_12 flX7_19 rfl (by decide) rfl rfl ?_
            refine k_iload_n hX.1 dX7_knit_15 rfl rfl ?_
            refine k_callVf (d2 := 1) (n := 1) (as := [_]) hX.1 dX7_knit_16 lkX7_109 (fit_of hX (by omega) gmX6_hasLot) rfl rfl (by decide) rfl rfl rfl (Nat.le_of_ble_eq_true rfl) (cW_hasLot1 E g (by omega) (by omega) (by omega)) ?_
            refine k_if_eq (tgt := 33) hX.1 dX7_knit_19 (by decide) (by omega) (fun c_19 => ?_) (fun c_19 => ?_)
            · skip
              exact absurd c_19 (by decide)
            · skip
              refine k_aload_n hX.1 dX7_knit_22 rfl rfl ?_
              refine k_getr (t := 3) hX.1 dX7_knit_23 flX7_19 rfl (by decide) rfl rfl ?_
              refine k_iload_n hX.1 dX7_knit_26 rfl rfl ?_
              refine k_callVf (d2 := 1) (n := 1) (as := [_]) hX.1 dX7_knit_27 lkX7_109 (fit_of hX (by omega) gmX6_hasLot) rfl rfl (by decide) rfl rfl rfl (Nat.le_of_ble_eq_true rfl) (cW_hasLot1 E g (by omega) (by omega) (by omega)) ?_
              refine k_if_ne (tgt := 36) hX.1 dX7_knit_30 (by decide) (by omega) (fun c_30 => ?_) (fun c_30 => ?_)
              · skip
                refine k_aload_n hX.1 dX7_knit_36 rfl rfl ?_
                refine k_getr (t := 3) hX.1 dX7_knit_37 flX7_19 rfl (by decide) rfl rfl ?_
                refine k_getr (t := 4) hX.1 dX7_knit_40 flX7_89 rfl (by decide) rfl rfl ?_
                refine k_iload_n hX.1 dX7_knit_43 rfl rfl ?_
                refine k_aaldP (j := p) (q := 6 + p) hX.1 dX7_knit_44 rfl (by omega) (n := 5) rfl (by omega) (by omega) rfl ?_
                refine k_callVf (d2 := 1) (n := 0) (as := []) hX.1 dX7_knit_45 lkX7_119 (fit_of hX (by omega) gmX4_isKnitted) rfl (sk_P6 (by omega)) (by decide) rfl rfl rfl (Nat.le_of_ble_eq_true rfl) (cP_isKnitted E g (p := p) (by omega) (by omega)) ?_
                refine k_if_ne (tgt := 64) hX.1 dX7_knit_48 (by decide) (by split <;> omega) (fun c_48 => ?_) (fun c_48 => ?_)
                · skip
                  refine k_bipush hX.1 dX7_knit_64 (by decide) ?_
                  refine k_iret hX dX7_knit_66 rfl ?_
                  refine ⟨?_, ?_, sameM.rf g⟩
                  · congr 2
                    unfold rKnit
                    try rw [Int.toNat_natCast, Int.toNat_natCast, Int.toNat_natCast]
                    (repeat first | rw [if_pos (by omega)] | rw [if_neg (by omega)])
                  · unfold nKnit
                    try rw [Int.toNat_natCast, Int.toNat_natCast, Int.toNat_natCast]
                    (repeat first | rw [if_pos (by omega)] | rw [if_neg (by omega)])
                    exact hR
                · skip
                  rw [if_neg (by omega)] at c_48; exact absurd c_48 (by decide)
              · skip
                exact absurd c_30 (by decide)
      · skip
        refine k_aload_n hX.1 dX7_knit_0 rfl rfl ?_
        refine k_getr (t := 3) hX.1 dX7_knit_1 flX7_19 rfl (by decide) rfl rfl ?_
        refine k_iload_n hX.1 dX7_knit_4 rfl rfl ?_
        refine k_callVf (d2 := 1) (n := 1) (as := [_]) hX.1 dX7_knit_5 lkX7_77 (fit_of hX (by omega) gmX6_hasPart) rfl rfl (by decide) rfl rfl rfl (Nat.le_of_ble_eq_true rfl) (cW_hasPart1 E g (by omega) (by omega) (by omega)) ?_
        refine k_if_eq (tgt := 33) hX.1 dX7_knit_8 (by decide) (by omega) (fun c_8 => ?_) (fun c_8 => ?_)
        · skip
          exact absurd c_8 (by decide)
        · skip
          refine k_aload_n hX.1 dX7_knit_11 rfl rfl ?_
          refine k_getr (t := 3) hX.1 dX7_knit_12 flX7_19 rfl (by decide) rfl rfl ?_
          refine k_iload_n hX.1 dX7_knit_15 rfl rfl ?_
          refine k_callVf (d2 := 1) (n := 1) (as := [_]) hX.1 dX7_knit_16 lkX7_109 (fit_of hX (by omega) gmX6_hasLot) rfl rfl (by decide) rfl rfl rfl (Nat.le_of_ble_eq_true rfl) (cW_hasLot1 E g (by omega) (by omega) (by omega)) ?_
          refine k_if_eq (tgt := 33) hX.1 dX7_knit_19 (by decide) (by omega) (fun c_19 => ?_) (fun c_19 => ?_)
          · skip
            exact absurd c_19 (by decide)
          · skip
            refine k_aload_n hX.1 dX7_knit_22 rfl rfl ?_
            refine k_getr (t := 3) hX.1 dX7_knit_23 flX7_19 rfl (by decide) rfl rfl ?_
            refine k_iload_n hX.1 dX7_knit_26 rfl rfl ?_
            refine k_callVf (d2 := 1) (n := 1) (as := [_]) hX.1 dX7_knit_27 lkX7_109 (fit_of hX (by omega) gmX6_hasLot) rfl rfl (by decide) rfl rfl rfl (Nat.le_of_ble_eq_true rfl) (cW_hasLot0 E g (by omega) (by omega) (by omega)) ?_
            refine k_if_ne (tgt := 36) hX.1 dX7_knit_30 (by decide) (by omega) (fun c_30 => ?_) (fun c_30 => ?_)
            · skip
              exact absurd rfl c_30
            · skip
              refine k_bipush hX.1 dX7_knit_33 (by decide) ?_
              refine k_iret hX dX7_knit_35 rfl ?_
              refine ⟨?_, ?_, sameM.rf g⟩
              · congr 2
                unfold rKnit
                (repeat first | rw [if_pos (by omega)] | rw [if_neg (by omega)])
              · unfold nKnit
                (repeat first | rw [if_pos (by omega)] | rw [if_neg (by omega)])
                exact hR
    · skip
      refine k_aload_n hX.1 dX7_knit_0 rfl rfl ?_
      refine k_getr (t := 3) hX.1 dX7_knit_1 flX7_19 rfl (by decide) rfl rfl ?_
      refine k_iload_n hX.1 dX7_knit_4 rfl rfl ?_
      refine k_callVf (d2 := 1) (n := 1) (as := [_]) hX.1 dX7_knit_5 lkX7_77 (fit_of hX (by omega) gmX6_hasPart) rfl rfl (by decide) rfl rfl rfl (Nat.le_of_ble_eq_true rfl) (cW_hasPart1 E g (by omega) (by omega) (by omega)) ?_
      refine k_if_eq (tgt := 33) hX.1 dX7_knit_8 (by decide) (by omega) (fun c_8 => ?_) (fun c_8 => ?_)
      · skip
        exact absurd c_8 (by decide)
      · skip
        refine k_aload_n hX.1 dX7_knit_11 rfl rfl ?_
        refine k_getr (t := 3) hX.1 dX7_knit_12 flX7_19 rfl (by decide) rfl rfl ?_
        refine k_iload_n hX.1 dX7_knit_15 rfl rfl ?_
        refine k_callVf (d2 := 1) (n := 1) (as := [_]) hX.1 dX7_knit_16 lkX7_109 (fit_of hX (by omega) gmX6_hasLot) rfl rfl (by decide) rfl rfl rfl (Nat.le_of_ble_eq_true rfl) (cW_hasLot0 E g (by omega) (by omega) (by omega)) ?_
        refine k_if_eq (tgt := 33) hX.1 dX7_knit_19 (by decide) (by omega) (fun c_19 => ?_) (fun c_19 => ?_)
        · skip
          refine k_bipush hX.1 dX7_knit_33 (by decide) ?_
          refine k_iret hX dX7_knit_35 rfl ?_
          refine ⟨?_, ?_, sameM.rf g⟩
          · congr 2
            unfold rKnit
            (repeat first | rw [if_pos (by omega)] | rw [if_neg (by omega)])
          · unfold nKnit
            (repeat first | rw [if_pos (by omega)] | rw [if_neg (by omega)])
            exact hR
        · skip
          exact absurd rfl c_19
  · skip
    refine k_aload_n hX.1 dX7_knit_0 rfl rfl ?_
    refine k_getr (t := 3) hX.1 dX7_knit_1 flX7_19 rfl (by decide) rfl rfl ?_
    refine k_iload_n hX.1 dX7_knit_4 rfl rfl ?_
    refine k_callVf (d2 := 1) (n := 1) (as := [_]) hX.1 dX7_knit_5 lkX7_77 (fit_of hX (by omega) gmX6_hasPart) rfl rfl (by decide) rfl rfl rfl (Nat.le_of_ble_eq_true rfl) (cW_hasPart0 E g (by omega) (by omega) (by omega)) ?_
    refine k_if_eq (tgt := 33) hX.1 dX7_knit_8 (by decide) (by omega) (fun c_8 => ?_) (fun c_8 => ?_)
    · skip
      refine k_bipush hX.1 dX7_knit_33 (by decide) ?_
      refine k_iret hX dX7_knit_35 rfl ?_
      refine ⟨?_, ?_, sameM.rf g⟩
      · congr 2
        unfold rKnit
        (repeat first | rw [if_pos (by omega)] | rw [if_neg (by omega)])
      · unfold nKnit
        (repeat first | rw [if_pos (by omega)] | rw [if_neg (by omega)])
        exact hR
    · skip
      exact absurd rfl c_8

set_option maxRecDepth 100000 in
set_option maxHeartbeats 4000000 in
theorem c7_undo (E : En) {A : St} {g : Mm} {n : Int} (hR : RC A g) (hW : Wf A n) {q : Int} (hq : bd q) : Ok E 5 mX7_undo [vR 0, vI q] g (fun r g' => r = some (vI (rUndo A q)) ∧ RC (nUndo A q) g' ∧ sameM g g') := by
  have hC0 := hR.1
  have hW0 := hW.1
  obtain ⟨⟨⟨hc1, hc2, hc3⟩, hcp, hcl⟩, ⟨hg1, hg2⟩, ⟨ht1, ht2, ht3⟩, hck, hcb⟩ := id hR
  obtain ⟨⟨⟨hw1, hw2, hw3, hw4, hw5, hw6, hw7, hw8⟩, hwp, hwl⟩, ⟨hq1, hq2, hq3⟩, ⟨hz1, ⟨hz2, hz3⟩, ⟨hz4, hz5⟩⟩, hwk⟩ := id hW
  refine Ok_of gmX7_undo (by omega) (Nat.le_of_ble_eq_true rfl) (fun X hX => ?_)
  show V E X 0 [some (vR 0), some (vI q)] [] g
  by_cases i1 : 0 ≤ q ∧ q < A 12 0
  · skip
    obtain ⟨p, rfl⟩ : ∃ m : Nat, q = (m : Int) := ⟨q.toNat, by omega⟩
    obtain ⟨e0, e1, e2, e3, e4, e5, e6, e7⟩ := hcp (p) (by omega)
    obtain ⟨⟨ek1, ek2⟩, ⟨er1, er2⟩, ew2, ew3, ew4, ew5, ew6, ew7⟩ := hwp (p) (by omega)
    by_cases h1 : A 2 p = -1
    · skip
      refine k_aload_n hX.1 dX7_undo_0 rfl rfl ?_
      refine k_getr (t := 3) hX.1 dX7_undo_1 flX7_19 rfl (by decide) rfl rfl ?_
      refine k_iload_n hX.1 dX7_undo_4 rfl rfl ?_
      refine k_callVf (d2 := 1) (n := 1) (as := [_]) hX.1 dX7_undo_5 lkX7_77 (fit_of hX (by omega) gmX6_hasPart) rfl rfl (by decide) rfl rfl rfl (Nat.le_of_ble_eq_true rfl) (cW_hasPart1 E g (by omega) (by omega) (by omega)) ?_
      refine k_if_ne (tgt := 14) hX.1 dX7_undo_8 (by decide) (by omega) (fun c_8 => ?_) (fun c_8 => ?_)
      · skip
        refine k_aload_n hX.1 dX7_undo_14 rfl rfl ?_
        refine k_getr (t := 3) hX.1 dX7_undo_15 flX7_19 rfl (by decide) rfl rfl ?_
        refine k_getr (t := 4) hX.1 dX7_undo_18 flX7_89 rfl (by decide) rfl rfl ?_
        refine k_iload_n hX.1 dX7_undo_21 rfl rfl ?_
        refine k_aaldP (j := p) (q := 6 + p) hX.1 dX7_undo_22 rfl (by omega) (n := 5) rfl (by omega) (by omega) rfl ?_
        refine k_callVf (d2 := 1) (n := 0) (as := []) hX.1 dX7_undo_23 lkX7_119 (fit_of hX (by omega) gmX4_isKnitted) rfl (sk_P6 (by omega)) (by decide) rfl rfl rfl (Nat.le_of_ble_eq_true rfl) (cP_isKnitted E g (p := p) (by omega) (by omega)) ?_
        refine k_if_ne (tgt := 32) hX.1 dX7_undo_26 (by decide) (by split <;> omega) (fun c_26 => ?_) (fun c_26 => ?_)
        · skip
          exact absurd (if_pos (by omega)) c_26
        · skip
          refine k_bipush hX.1 dX7_undo_29 (by decide) ?_
          refine k_iret hX dX7_undo_31 rfl ?_
          refine ⟨?_, ?_, sameM.rf g⟩
          · congr 2
            unfold rUndo
            try rw [Int.toNat_natCast]
            (repeat first | rw [if_pos (by omega)] | rw [if_neg (by omega)])
          · unfold nUndo
            try rw [Int.toNat_natCast]
            (repeat first | rw [if_pos (by omega)] | rw [if_neg (by omega)])
            exact hR
      · skip
        exact absurd c_8 (by decide)
    · skip
      refine k_aload_n hX.1 dX7_undo_0 rfl rfl ?_
      refine k_getr (t := 3) hX.1 dX7_undo_1 flX7_19 rfl (by decide) rfl rfl ?_
      refine k_iload_n hX.1 dX7_undo_4 rfl rfl ?_
      refine k_callVf (d2 := 1) (n := 1) (as := [_]) hX.1 dX7_undo_5 lkX7_77 (fit_of hX (by omega) gmX6_hasPart) rfl rfl (by decide) rfl rfl rfl (Nat.le_of_ble_eq_true rfl) (cW_hasPart1 E g (by omega) (by omega) (by omega)) ?_
      refine k_if_ne (tgt := 14) hX.1 dX7_undo_8 (by decide) (by omega) (fun c_8 => ?_) (fun c_8 => ?_)
      · skip
        refine k_aload_n hX.1 dX7_undo_14 rfl rfl ?_
        refine k_getr (t := 3) hX.1 dX7_undo_15 flX7_19 rfl (by decide) rfl rfl ?_
        refine k_getr (t := 4) hX.1 dX7_undo_18 flX7_89 rfl (by decide) rfl rfl ?_
        refine k_iload_n hX.1 dX7_undo_21 rfl rfl ?_
        refine k_aaldP (j := p) (q := 6 + p) hX.1 dX7_undo_22 rfl (by omega) (n := 5) rfl (by omega) (by omega) rfl ?_
        refine k_callVf (d2 := 1) (n := 0) (as := []) hX.1 dX7_undo_23 lkX7_119 (fit_of hX (by omega) gmX4_isKnitted) rfl (sk_P6 (by omega)) (by decide) rfl rfl rfl (Nat.le_of_ble_eq_true rfl) (cP_isKnitted E g (p := p) (by omega) (by omega)) ?_
        refine k_if_ne (tgt := 32) hX.1 dX7_undo_26 (by decide) (by split <;> omega) (fun c_26 => ?_) (fun c_26 => ?_)
        · skip
          refine k_aload_n hX.1 dX7_undo_32 rfl rfl ?_
          refine k_getr (t := 3) hX.1 dX7_undo_33 flX7_19 rfl (by decide) rfl rfl ?_
          refine k_iload_n hX.1 dX7_undo_36 rfl rfl ?_
          refine k_callV (d2 := 2) (n := 1) (as := [_]) hX.1 dX7_undo_37 lkX7_133 (fit_of hX (by omega) gmX6_unravel) rfl rfl (by decide) rfl rfl rfl (Nat.le_of_ble_eq_true rfl) (cW_unravel E hR hW (p := p) (by omega) h1) (fun r_37 g_37 q_37 => ?_)
          obtain ⟨rfl, hR2, hS2⟩ := q_37
          show V E X 40 _ (vI _ :: _) _
          refine k_iret hX dX7_undo_40 rfl ?_
          refine ⟨?_, ?_, hS2⟩
          · congr 2
            unfold rUndo
            rw [Int.toNat_natCast]
            (repeat first | rw [if_pos (by omega)] | rw [if_neg (by omega)])
          · unfold nUndo
            rw [Int.toNat_natCast]
            (repeat first | rw [if_pos (by omega)] | rw [if_neg (by omega)])
            exact hR2
        · skip
          rw [if_neg (by omega)] at c_26; exact absurd c_26 (by decide)
      · skip
        exact absurd c_8 (by decide)
  · skip
    refine k_aload_n hX.1 dX7_undo_0 rfl rfl ?_
    refine k_getr (t := 3) hX.1 dX7_undo_1 flX7_19 rfl (by decide) rfl rfl ?_
    refine k_iload_n hX.1 dX7_undo_4 rfl rfl ?_
    refine k_callVf (d2 := 1) (n := 1) (as := [_]) hX.1 dX7_undo_5 lkX7_77 (fit_of hX (by omega) gmX6_hasPart) rfl rfl (by decide) rfl rfl rfl (Nat.le_of_ble_eq_true rfl) (cW_hasPart0 E g (by omega) (by omega) (by omega)) ?_
    refine k_if_ne (tgt := 14) hX.1 dX7_undo_8 (by decide) (by omega) (fun c_8 => ?_) (fun c_8 => ?_)
    · skip
      exact absurd rfl c_8
    · skip
      refine k_bipush hX.1 dX7_undo_11 (by decide) ?_
      refine k_iret hX dX7_undo_13 rfl ?_
      refine ⟨?_, ?_, sameM.rf g⟩
      · congr 2
        unfold rUndo
        (repeat first | rw [if_pos (by omega)] | rw [if_neg (by omega)])
      · unfold nUndo
        (repeat first | rw [if_pos (by omega)] | rw [if_neg (by omega)])
        exact hR
