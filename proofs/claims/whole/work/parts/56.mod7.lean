set_option maxRecDepth 100000 in
set_option maxHeartbeats 4000000 in
theorem cM_draw (E : En) (g : Mm) {d : Int} (hd : 1 ≤ d ∧ d ≤ 100) : Fp E 1 mX8_draw [vR 46, vI d] g (vI (drw (nxs (g.2 46 23)) d)) (wl g 46 23 (nxs (g.2 46 23))) := by
  refine Ok_of gmX8_draw (by omega) (Nat.le_of_ble_eq_true rfl) (fun X hX => ?_)
  show V E X 0 [some (vR 46), some (vI d)] [] g
  refine k_aload_n hX.1 dX8_draw_0 rfl rfl ?_
  refine k_ldc2 hX.1 dX8_draw_1 lcX8_221 ?_
  refine k_aload_n hX.1 dX8_draw_4 rfl rfl ?_
  refine k_getl hX.1 dX8_draw_5 flX8_223 rfl (by decide) rfl ?_
  refine k_lmul hX.1 dX8_draw_8 ?_
  refine k_ldc2 hX.1 dX8_draw_9 lcX8_227 ?_
  refine k_ladd hX.1 dX8_draw_12 ?_
  refine k_ldc2 hX.1 dX8_draw_13 lcX8_229 ?_
  refine k_land hX.1 dX8_draw_16 ?_
  show V E X 17 _ (vL (nxs (g.2 46 23)) :: _) _
  refine k_putl hX.1 dX8_draw_17 flX8_223 rfl (by decide) rfl ?_
  refine k_aload_n hX.1 dX8_draw_20 rfl rfl ?_
  refine k_getl hX.1 dX8_draw_21 flX8_223 rfl (by decide) rfl ?_
  refine k_topL (b := nxs (g.2 46 23)) (by simp [wl_2]) ?_
  refine k_ldc2 hX.1 dX8_draw_24 lcX8_231 ?_
  refine k_ldiv hX.1 dX8_draw_27 (by decide) ?_
  refine k_iload_n hX.1 dX8_draw_28 rfl rfl ?_
  refine k_i2l hX.1 dX8_draw_29 ?_
  refine k_lrem hX.1 dX8_draw_30 (by intro q; have h := congrArg Int64.toInt q; rw [show (zi d).toInt64 = lN d.toNat by (obtain ⟨n, rfl⟩ : ∃ n : Nat, d = (n : Int) := ⟨d.toNat, by omega⟩); rw [zi_nat, Int.toNat_natCast]; exact nI_l (by omega), pk_lT (by omega)] at h; have h0 : (0 : Int64).toInt = 0 := rfl; omega) ?_
  refine k_l2i hX.1 dX8_draw_31 ?_
  refine k_top (drw_eq hd) ?_
  refine k_iret hX dX8_draw_32 rfl ?_
  exact ⟨rfl, rfl⟩

theorem sm_bd2 {f : Nat → Int} {c : Int} : ∀ (n : Nat), (∀ q, q < n → 0 ≤ f q ∧ f q ≤ c) → 0 ≤ sm f n ∧ sm f n ≤ c * (n : Int)
  | 0, _ => by simp [sm]
  | n + 1, h => by
    have h1 := sm_bd2 n (fun q hq => h q (by omega))
    have h2 := h n (by omega)
    rw [sm]
    have : c * ((n + 1 : Nat) : Int) = c * (n : Int) + c := by rw [Int.natCast_add, Int.mul_add]; simp
    omega
set_option maxRecDepth 100000 in
set_option maxHeartbeats 4000000 in
theorem lpM_planSeen (E : En) {A : St} {g : Mm} {n : Int} (hM : MW A g) (hW : WW A n) {f : Nat → Int} (hf : ∀ q : Nat, (q : Int) < A 12 0 → g.1 59 q = f q ∧ -1 ≤ f q ∧ f q ≤ 100) {X : Cx} (hX : Wk E mX8_planSeen X 3 (fun r g' => r = some (vI (sm (fun q => s2 A q (f q) (f (q + 1))) ((A 12 0).toNat - 1))) ∧ g' = g)) : ∀ (m : Nat) (p : Nat) (u : Int), m + p = (A 12 0).toNat - 1 ∧ u = sm (fun q => s2 A q (f q) (f (q + 1))) p → V E X 4 [some (vR 46), some (vI u), some (vI (p : Int))] [] g := by
  obtain ⟨⟨hm1, hm2, hm3⟩, hmp, hml⟩ := id hM
  obtain ⟨⟨hw1, hw2, hw3, hw4, hw5, hw6, hw7, hw8⟩, hwp, hwl⟩ := id hW
  intro m
  induction m with
  | zero =>
    intro p u ⟨hm, hu⟩
    refine k_iload_n hX.1 dX8_planSeen_4 rfl rfl ?_
    refine k_iconst hX.1 dX8_planSeen_5 ?_
    refine k_iadd hX.1 dX8_planSeen_6 ?_
    refine k_aload_n hX.1 dX8_planSeen_7 rfl rfl ?_
    refine k_geti hX.1 dX8_planSeen_8 flX8_119 rfl (by decide) rfl ?_
    refine k_icmp_ge (tgt := 42) hX.1 dX8_planSeen_11 (by decide) (by omega) (by omega) (fun c_11 => ?_) (fun c_11 => ?_)
    · skip
      refine k_iload_n hX.1 dX8_planSeen_42 rfl rfl ?_
      refine k_iret hX dX8_planSeen_43 rfl ?_
      refine ⟨?_, rfl⟩
      rw [hu, show p = (A 12 0).toNat - 1 by omega]
    · skip
      exact absurd c_11 (by omega)
  | succ m ih =>
    intro p u ⟨hm, hu⟩
    have f1 := hf p (by omega)
    have f2 := hf (p + 1) (by omega)
    refine k_iload_n hX.1 dX8_planSeen_4 rfl rfl ?_
    refine k_iconst hX.1 dX8_planSeen_5 ?_
    refine k_iadd hX.1 dX8_planSeen_6 ?_
    refine k_aload_n hX.1 dX8_planSeen_7 rfl rfl ?_
    refine k_geti hX.1 dX8_planSeen_8 flX8_119 rfl (by decide) rfl ?_
    refine k_icmp_ge (tgt := 42) hX.1 dX8_planSeen_11 (by decide) (by omega) (by omega) (fun c_11 => ?_) (fun c_11 => ?_)
    · skip
      exact absurd c_11 (by omega)
    · skip
      refine k_iload_n hX.1 dX8_planSeen_14 rfl rfl ?_
      refine k_aload_n hX.1 dX8_planSeen_15 rfl rfl ?_
      refine k_iload_n hX.1 dX8_planSeen_16 rfl rfl ?_
      refine k_aload_n hX.1 dX8_planSeen_17 rfl rfl ?_
      refine k_getr (t := 59) hX.1 dX8_planSeen_18 flX8_47 rfl (by decide) rfl rfl ?_
      refine k_iload_n hX.1 dX8_planSeen_21 rfl rfl ?_
      refine k_iald (j := p) hX.1 dX8_planSeen_22 rfl (by omega) (n := 5) rfl (by omega) (by omega) ?_
      refine k_top f1.1 ?_
      refine k_aload_n hX.1 dX8_planSeen_23 rfl rfl ?_
      refine k_getr (t := 59) hX.1 dX8_planSeen_24 flX8_47 rfl (by decide) rfl rfl ?_
      refine k_iload_n hX.1 dX8_planSeen_27 rfl rfl ?_
      refine k_iconst hX.1 dX8_planSeen_28 ?_
      refine k_iadd hX.1 dX8_planSeen_29 ?_
      refine k_iald (j := (p + 1)) hX.1 dX8_planSeen_30 rfl (by omega) (n := 5) rfl (by omega) (by omega) ?_
      refine k_top f2.1 ?_
      refine k_callVf (d2 := 2) (n := 3) (as := [_, _, _]) hX.1 dX8_planSeen_31 lkX8_141 (fit_of hX (by omega) gmX8_seenBy) rfl rfl (by decide) rfl rfl rfl (Nat.le_of_ble_eq_true rfl) (cM_seenBy E hM hW (p := p) (by omega) (by omega) (by omega)) ?_
      refine k_iadd hX.1 dX8_planSeen_34 ?_
      refine k_istore_n hX.1 dX8_planSeen_35 rfl (by decide) rfl rfl ?_
      try simp only [List.set_cons_zero, List.set_cons_succ]
      refine k_iinc hX.1 dX8_planSeen_36 rfl (by decide) rfl rfl ?_
      try simp only [List.set_cons_zero, List.set_cons_succ]
      refine k_goto (tgt := 4) hX.1 dX8_planSeen_39 (by decide) ?_
      exact ih (p + 1) _ ⟨by omega, by rw [hu]; rfl⟩

set_option maxRecDepth 100000 in
set_option maxHeartbeats 4000000 in
theorem cM_planSeen (E : En) {A : St} {g : Mm} {n : Int} (hM : MW A g) (hW : WW A n) {f : Nat → Int} (hf : ∀ q : Nat, (q : Int) < A 12 0 → g.1 59 q = f q ∧ -1 ≤ f q ∧ f q ≤ 100) : Fn E 3 mX8_planSeen [vR 46] g (vI (sm (fun q => s2 A q (f q) (f (q + 1))) ((A 12 0).toNat - 1))) := by
  refine Ok_of gmX8_planSeen (by omega) (Nat.le_of_ble_eq_true rfl) (fun X hX => ?_)
  show V E X 0 [some (vR 46), none, none] [] g
  refine k_iconst hX.1 dX8_planSeen_0 ?_
  refine k_istore_n hX.1 dX8_planSeen_1 rfl (by decide) rfl rfl ?_
  try simp only [List.set_cons_zero, List.set_cons_succ]
  refine k_iconst hX.1 dX8_planSeen_2 ?_
  refine k_istore_n hX.1 dX8_planSeen_3 rfl (by decide) rfl rfl ?_
  try simp only [List.set_cons_zero, List.set_cons_succ]
  exact lpM_planSeen E hM hW hf hX ((A 12 0).toNat - 1) 0 0 ⟨by omega, rfl⟩

def yN (g h : Mm) (x : Int64) : Prop := h.2 46 23 = x ∧ (∀ a, a ≠ 59 → a ≠ 62 → h.1 a = g.1 a) ∧ ∀ a b, ¬ (a = 46 ∧ b = 23) → h.2 a b = g.2 a b
theorem yN_d {g h : Mm} {x y : Int64} (hy : yN g h x) : yN g (wl h 46 23 y) y := ⟨by simp [wl], hy.2.1, fun a b q => by rw [wl_2, if_neg q]; exact hy.2.2 a b q⟩
theorem yN_w {g h : Mm} {x : Int64} {k t : Nat} {v : Int} (hy : yN g h x) (hk : k = 59 ∨ k = 62) : yN g (wr h k t v) x := ⟨hy.1, fun a q1 q2 => by rw [wr_off (by omega)]; exact hy.2.1 a q1 q2, hy.2.2⟩
theorem yN_tr {g h k : Mm} {x y : Int64} (h1 : yN g h x) (h2 : yN h k y) : yN g k y := ⟨h2.1, fun a q1 q2 => (h2.2.1 a q1 q2).trans (h1.2.1 a q1 q2), fun a b q => (h2.2.2 a b q).trans (h1.2.2 a b q)⟩
theorem MW_yN {A : St} {g h : Mm} {x : Int64} (hM : MW A g) (hy : yN g h x) : MW A h := MW_fr hM (fun a h1 h2 => hy.2.1 a (by omega) (by omega)) ⟨by rw [hy.2.1 46 (by omega) (by omega)], by rw [hy.2.1 46 (by omega) (by omega)], by rw [hy.2.1 46 (by omega) (by omega)]⟩ ⟨rfl, rfl, rfl⟩ (fun _ _ _ _ => rfl) (fun _ _ _ _ _ => rfl)
theorem RM_yN {A : St} {g h : Mm} {x : Int64} (hR : RM A g) (hy : yN g h x) : RM A h := RM_scr hR (fun a h1 h2 h3 => hy.2.1 a (by omega) (by omega)) (fun j _ _ => by rw [hy.2.1 46 (by omega) (by omega)])
theorem sameC_yN {g h : Mm} {x : Int64} (hy : yN g h x) : sameC g h := fun a ha => ⟨hy.2.1 a (by omega) (by omega), by funext b; exact hy.2.2 a b (by omega)⟩
set_option maxRecDepth 100000 in
set_option maxHeartbeats 4000000 in
theorem lpM_year2 (E : En) {A : St} {g : Mm} {n : Int} (hM : MW A g) (hW : WW A n) (hl : 1 ≤ A 12 2) (s : Int64) {X : Cx} (hX : Wk E mX8_goYear X 4 (fun r g' => r = some (vI (ysn A s)) ∧ yN g g' (sdn s ((A 12 2).toNat + (A 12 0).toNat)))) : ∀ (m : Nat) (p : Nat) (h : Mm), m + p = (A 12 0).toNat ∧ (∀ q : Nat, (q : Int) < A 12 2 → h.1 62 q = ysh A s q) ∧ yN g h (sdn s ((A 12 2).toNat + p)) ∧ (∀ q, q < p → h.1 59 q = yto A s q) → V E X 34 [some (vR 46), some (vI (p : Int))] [] h := by
  obtain ⟨⟨hm1, hm2, hm3⟩, hmp, hml⟩ := id hM
  obtain ⟨⟨hw1, hw2, hw3, hw4, hw5, hw6, hw7, hw8⟩, hwp, hwl⟩ := id hW
  intro m
  induction m with
  | zero =>
    intro p h ⟨hm, hs, hy, hv⟩
    obtain rfl : p = (A 12 0).toNat := by omega
    refine k_iload_n hX.1 dX8_goYear_34 rfl rfl ?_
    refine k_aload_n hX.1 dX8_goYear_35 rfl rfl ?_
    refine k_geti hX.1 dX8_goYear_36 flX8_119 rfl (by decide) rfl ?_
    refine k_top (b := A 12 0) (by rw [hy.2.1 46 (by omega) (by omega)]; exact hm1) ?_
    refine k_icmp_ge (tgt := 69) hX.1 dX8_goYear_39 (by decide) (by omega) (by omega) (fun c_39 => ?_) (fun c_39 => ?_)
    · skip
      refine k_aload_n hX.1 dX8_goYear_69 rfl rfl ?_
      refine k_callVf (d2 := 3) (n := 0) (as := []) hX.1 dX8_goYear_70 lkX8_191 (fit_of hX (by omega) gmX8_planSeen) rfl rfl (by decide) rfl rfl rfl (Nat.le_of_ble_eq_true rfl) (cM_planSeen E (MW_yN hM hy) hW (f := yto A s) (fun q hq => ⟨hv q (by omega), by have := yto_bd hW s q; omega⟩)) ?_
      refine k_iret hX dX8_goYear_73 rfl ?_
      exact ⟨rfl, hy⟩
    · skip
      exact absurd c_39 (by omega)
  | succ m ih =>
    intro p h ⟨hm, hs, hy, hv⟩
    refine k_iload_n hX.1 dX8_goYear_34 rfl rfl ?_
    refine k_aload_n hX.1 dX8_goYear_35 rfl rfl ?_
    refine k_geti hX.1 dX8_goYear_36 flX8_119 rfl (by decide) rfl ?_
    refine k_top (b := A 12 0) (by rw [hy.2.1 46 (by omega) (by omega)]; exact hm1) ?_
    refine k_icmp_ge (tgt := 69) hX.1 dX8_goYear_39 (by decide) (by omega) (by omega) (fun c_39 => ?_) (fun c_39 => ?_)
    · skip
      exact absurd c_39 (by omega)
    · skip
      refine k_aload_n hX.1 dX8_goYear_42 rfl rfl ?_
      refine k_getr (t := 59) hX.1 dX8_goYear_43 flX8_47 rfl (by decide) rfl rfl ?_
      refine k_iload_n hX.1 dX8_goYear_46 rfl rfl ?_
      refine k_iconst hX.1 dX8_goYear_47 ?_
      refine k_aload_n hX.1 dX8_goYear_48 rfl rfl ?_
      refine k_getr (t := 62) hX.1 dX8_goYear_49 flX8_56 rfl (by decide) rfl rfl ?_
      refine k_aload_n hX.1 dX8_goYear_52 rfl rfl ?_
      refine k_aload_n hX.1 dX8_goYear_53 rfl rfl ?_
      refine k_geti hX.1 dX8_goYear_54 flX8_132 rfl (by decide) rfl ?_
      refine k_top (b := A 12 2) (by rw [hy.2.1 46 (by omega) (by omega)]; exact hm2) ?_
      refine k_callVq (d2 := 1) (n := 1) (as := [_]) hX.1 dX8_goYear_57 lkX8_233 (fit_of hX (by omega) gmX8_draw) rfl rfl (by decide) rfl rfl rfl (Nat.le_of_ble_eq_true rfl) (cM_draw E h (d := A 12 2) (by omega)) ?_
      have hd := drw_bd (s := h.2 46 23) (d := A 12 2) (by omega)
      have hx : nxs (h.2 46 23) = sdn s ((A 12 2).toNat + p + 1) := by rw [hy.1]; rfl
      rw [hx] at hd ⊢
      refine k_iald (j := (drw (sdn s ((A 12 2).toNat + p + 1)) (A 12 2)).toNat) hX.1 dX8_goYear_60 rfl (by omega) (n := 3) rfl (by omega) (by omega) ?_
      refine k_top (b := ysh A s (drw (sdn s ((A 12 2).toNat + p + 1)) (A 12 2)).toNat) (hs _ (by omega)) ?_
      refine k_imul hX.1 dX8_goYear_61 ?_
      refine k_top (show _ = yto A s p from rfl) ?_
      have hy2 : yN g (wl h 46 23 (sdn s ((A 12 2).toNat + p + 1))) (sdn s ((A 12 2).toNat + (p + 1))) := yN_d hy
      have hb1 := yto_bd hW s p
      refine k_iast (j := p) hX.1 dX8_goYear_62 rfl (by omega) (n := 5) rfl (by omega) (by omega) ?_
      refine k_iinc hX.1 dX8_goYear_63 rfl (by decide) rfl rfl ?_
      try simp only [List.set_cons_zero, List.set_cons_succ]
      refine k_goto (tgt := 34) hX.1 dX8_goYear_66 (by decide) ?_
      refine ih (p + 1) _ ⟨by omega, fun q hq => ?_, yN_w hy2 (Or.inl rfl), fun q hq => ?_⟩
      · rw [wr_off (by omega)]; exact hs q hq
      · by_cases e : q = p
        · subst e; rw [wr_at]
        · rw [wr_1, if_neg (by omega)]; exact hv q (by omega)

set_option maxRecDepth 100000 in
set_option maxHeartbeats 4000000 in
theorem lpM_year1 (E : En) {A : St} {g : Mm} {n : Int} (hM : MW A g) (hW : WW A n) (hl : 1 ≤ A 12 2) (s : Int64) {X : Cx} (hX : Wk E mX8_goYear X 4 (fun r g' => r = some (vI (ysn A s)) ∧ yN g g' (sdn s ((A 12 2).toNat + (A 12 0).toNat)))) : ∀ (m : Nat) (t : Nat) (h : Mm), m + t = (A 12 2).toNat ∧ (∀ q : Nat, q < t → h.1 62 q = ysh A s q) ∧ yN g h (sdn s t) → V E X 2 [some (vR 46), some (vI (t : Int))] [] h := by
  obtain ⟨⟨hm1, hm2, hm3⟩, hmp, hml⟩ := id hM
  obtain ⟨⟨hw1, hw2, hw3, hw4, hw5, hw6, hw7, hw8⟩, hwp, hwl⟩ := id hW
  intro m
  induction m with
  | zero =>
    intro t h ⟨hm, hs, hy⟩
    obtain rfl : t = (A 12 2).toNat := by omega
    refine k_iload_n hX.1 dX8_goYear_2 rfl rfl ?_
    refine k_aload_n hX.1 dX8_goYear_3 rfl rfl ?_
    refine k_geti hX.1 dX8_goYear_4 flX8_132 rfl (by decide) rfl ?_
    refine k_top (b := A 12 2) (by rw [hy.2.1 46 (by omega) (by omega)]; exact hm2) ?_
    refine k_icmp_ge (tgt := 32) hX.1 dX8_goYear_7 (by decide) (by omega) (by omega) (fun c_7 => ?_) (fun c_7 => ?_)
    · skip
      refine k_iconst hX.1 dX8_goYear_32 ?_
      refine k_istore_n hX.1 dX8_goYear_33 rfl (by decide) rfl rfl ?_
      try simp only [List.set_cons_zero, List.set_cons_succ]
      exact lpM_year2 E hM hW hl s hX (A 12 0).toNat 0 h ⟨by omega, fun q hq => hs q (by omega), hy, fun q hq => by omega⟩
    · skip
      exact absurd c_7 (by omega)
  | succ m ih =>
    intro t h ⟨hm, hs, hy⟩
    refine k_iload_n hX.1 dX8_goYear_2 rfl rfl ?_
    refine k_aload_n hX.1 dX8_goYear_3 rfl rfl ?_
    refine k_geti hX.1 dX8_goYear_4 flX8_132 rfl (by decide) rfl ?_
    refine k_top (b := A 12 2) (by rw [hy.2.1 46 (by omega) (by omega)]; exact hm2) ?_
    refine k_icmp_ge (tgt := 32) hX.1 dX8_goYear_7 (by decide) (by omega) (by omega) (fun c_7 => ?_) (fun c_7 => ?_)
    · skip
      exact absurd c_7 (by omega)
    · skip
      refine k_aload_n hX.1 dX8_goYear_10 rfl rfl ?_
      refine k_getr (t := 62) hX.1 dX8_goYear_11 flX8_56 rfl (by decide) rfl rfl ?_
      refine k_iload_n hX.1 dX8_goYear_14 rfl rfl ?_
      refine k_aload_n hX.1 dX8_goYear_15 rfl rfl ?_
      refine k_aload_n hX.1 dX8_goYear_16 rfl rfl ?_
      refine k_bipush hX.1 dX8_goYear_17 (by decide) ?_
      refine k_callVq (d2 := 1) (n := 1) (as := [_]) hX.1 dX8_goYear_19 lkX8_233 (fit_of hX (by omega) gmX8_draw) rfl rfl (by decide) rfl rfl rfl (Nat.le_of_ble_eq_true rfl) (cM_draw E h (d := 21) (by omega)) ?_
      have hd := drw_bd (s := h.2 46 23) (d := 21) (by omega)
      have hx : nxs (h.2 46 23) = sdn s (t + 1) := by rw [hy.1]; rfl
      rw [hx] at hd ⊢
      have hf2 : h.1 46 2 = A 12 1 := by rw [hy.2.1 46 (by omega) (by omega)]; exact hm3
      refine k_callVf (d2 := 1) (n := 1) (as := [_]) hX.1 dX8_goYear_22 lkX8_178 (fit_of hX (by omega) gmX8_washed) rfl rfl (by decide) rfl rfl rfl (Nat.le_of_ble_eq_true rfl) (cM_washed E _ (by omega) (by show 0 ≤ h.1 46 2 ∧ h.1 46 2 ≤ 100; omega)) ?_
      refine k_top (show _ = ysh A s t by show fdd _ (h.1 46 2) = _; rw [hf2]; rfl) ?_
      refine k_iast (j := t) hX.1 dX8_goYear_25 rfl (by omega) (n := 3) rfl (by omega) (by omega) ?_
      refine k_iinc hX.1 dX8_goYear_26 rfl (by decide) rfl rfl ?_
      try simp only [List.set_cons_zero, List.set_cons_succ]
      refine k_goto (tgt := 2) hX.1 dX8_goYear_29 (by decide) ?_
      exact ih (t + 1) _ ⟨by omega, fun q hq => by
        by_cases e : q = t
        · subst e; rw [wr_at]
        · rw [wr_1, if_neg (by omega)]; exact hs q (by omega), yN_w (yN_d hy) (Or.inr rfl)⟩

set_option maxRecDepth 100000 in
set_option maxHeartbeats 4000000 in
theorem cM_goYear (E : En) {A : St} {g : Mm} {n : Int} (hM : MW A g) (hW : WW A n) (hl : 1 ≤ A 12 2) (s : Int64) (hs : g.2 46 23 = s) : Ok E 4 mX8_goYear [vR 46] g (fun r g' => r = some (vI (ysn A s)) ∧ yN g g' (sdn s ((A 12 2).toNat + (A 12 0).toNat))) := by
  refine Ok_of gmX8_goYear (by omega) (Nat.le_of_ble_eq_true rfl) (fun X hX => ?_)
  show V E X 0 [some (vR 46), none] [] g
  refine k_iconst hX.1 dX8_goYear_0 ?_
  refine k_istore_n hX.1 dX8_goYear_1 rfl (by decide) rfl rfl ?_
  try simp only [List.set_cons_zero, List.set_cons_succ]
  exact lpM_year1 E hM hW hl s hX (A 12 2).toNat 0 g ⟨by omega, fun q hq => absurd hq (Nat.not_lt_zero q), hs, fun _ _ _ => rfl, fun _ _ _ => rfl⟩

set_option maxRecDepth 100000 in
set_option maxHeartbeats 4000000 in
theorem lpM_years (E : En) {A : St} {g : Mm} {n : Int} (hR : RM A g) (hW : Wf A n) {tm sd w : Int} (ht : bd tm) (hs : bd sd) (hw : bd w) (hok : ¬ (tm < 1 ∨ 30 < tm ∨ sd < 0 ∨ w < 0 ∨ 1 < w)) (hl : ¬ A 12 2 = 0) {X : Cx} (hX : Wk E mX8_yearsNow X 5 (fun r g' => r = some (vI (rYears A tm sd w)) ∧ RM A g' ∧ sameC g g')) : ∀ (m : Nat) (k : Nat) (u : Int) (h : Mm), (m : Int) + k = tm ∧ u = yT A (zi sd).toInt64 k ∧ yN g h (sdn (zi sd).toInt64 (k * ((A 12 2).toNat + (A 12 0).toNat))) → V E X 12 [some (vR 46), some (vI tm), some (vI sd), some (vI w), some (vI u), some (vI (k : Int))] [] h := by
  have hM0 := hR.1
  have hW0 := hW.1
  obtain ⟨⟨⟨hm1, hm2, hm3⟩, hmp, hml⟩, ⟨hg1, hg2⟩, ⟨ht1, ht2, ht3, ⟨ht4, ht5⟩, ht6⟩, hmk⟩ := id hR
  obtain ⟨⟨⟨hw1, hw2, hw3, hw4, hw5, hw6, hw7, hw8⟩, hwp, hwl⟩, ⟨hq1, hq2, hq3⟩, ⟨hz1, ⟨hz2, hz3⟩, ⟨hz4, hz5⟩⟩, hwk⟩ := id hW
  intro m
  induction m with
  | zero =>
    intro k u h ⟨hm, hu, hy⟩
    have hk : tm.toNat = k := by omega
    refine k_iload hX.1 dX8_yearsNow_12 rfl ?_
    refine k_iload_n hX.1 dX8_yearsNow_14 rfl rfl ?_
    refine k_icmp_ge (tgt := 33) hX.1 dX8_yearsNow_15 (by decide) (by omega) (by omega) (fun c_15 => ?_) (fun c_15 => ?_)
    · skip
      refine k_iload_n hX.1 dX8_yearsNow_33 rfl rfl ?_
      refine k_if_ne (tgt := 42) hX.1 dX8_yearsNow_34 (by decide) (by omega) (fun c_34 => ?_) (fun c_34 => ?_)
      · skip
        refine k_aload_n hX.1 dX8_yearsNow_42 rfl rfl ?_
        refine k_getl hX.1 dX8_yearsNow_43 flX8_223 rfl (by decide) rfl ?_
        refine k_topL (b := sdn (zi sd).toInt64 (k * ((A 12 2).toNat + (A 12 0).toNat))) hy.1 ?_
        refine k_l2i hX.1 dX8_yearsNow_46 ?_
        refine k_iret hX dX8_yearsNow_47 rfl ?_
        refine ⟨?_, RM_yN hR hy, sameC_yN hy⟩
        congr 2
        unfold rYears
        rw [if_neg hok, if_neg hl, hk]
        first | rw [if_pos (by omega), hu] | rw [if_neg (by omega)]
      · skip
        refine k_iload hX.1 dX8_yearsNow_37 rfl ?_
        refine k_goto (tgt := 47) hX.1 dX8_yearsNow_39 (by decide) ?_
        refine k_iret hX dX8_yearsNow_47 rfl ?_
        refine ⟨?_, RM_yN hR hy, sameC_yN hy⟩
        congr 2
        unfold rYears
        rw [if_neg hok, if_neg hl, hk]
        first | rw [if_pos (by omega), hu] | rw [if_neg (by omega)]
    · skip
      exact absurd c_15 (by omega)
  | succ m ih =>
    intro k u h ⟨hm, hu, hy⟩
    refine k_iload hX.1 dX8_yearsNow_12 rfl ?_
    refine k_iload_n hX.1 dX8_yearsNow_14 rfl rfl ?_
    refine k_icmp_ge (tgt := 33) hX.1 dX8_yearsNow_15 (by decide) (by omega) (by omega) (fun c_15 => ?_) (fun c_15 => ?_)
    · skip
      exact absurd c_15 (by omega)
    · skip
      refine k_iload hX.1 dX8_yearsNow_18 rfl ?_
      refine k_aload_n hX.1 dX8_yearsNow_20 rfl rfl ?_
      refine k_callV (d2 := 4) (n := 0) (as := []) hX.1 dX8_yearsNow_21 lkX8_236 (fit_of hX (by omega) gmX8_goYear) rfl rfl (by decide) rfl rfl rfl (Nat.le_of_ble_eq_true rfl) (cM_goYear E (MW_yN hM0 hy) hW0 (by omega) _ hy.1) (fun r_21 g_21 q_21 => ?_)
      obtain ⟨rfl, hy2⟩ := q_21
      show V E X 24 _ (vI _ :: _) _
      have hy3 := yN_tr hy hy2
      rw [sdn_add, ← Nat.succ_mul] at hy3
      refine k_iadd hX.1 dX8_yearsNow_24 ?_
      refine k_istore hX.1 dX8_yearsNow_25 (by decide) rfl rfl ?_
      try simp only [List.set_cons_zero, List.set_cons_succ]
      refine k_iinc hX.1 dX8_yearsNow_27 rfl (by decide) rfl rfl ?_
      try simp only [List.set_cons_zero, List.set_cons_succ]
      refine k_goto (tgt := 12) hX.1 dX8_yearsNow_30 (by decide) ?_
      exact ih (k + 1) _ _ ⟨by omega, by rw [hu]; rfl, hy3⟩

set_option maxRecDepth 100000 in
set_option maxHeartbeats 4000000 in
theorem cM_yearsNow (E : En) {A : St} {g : Mm} {n : Int} (hR : RM A g) (hW : Wf A n) {tm sd w : Int} (ht : bd tm) (hs : bd sd) (hw : bd w) (hok : ¬ (tm < 1 ∨ 30 < tm ∨ sd < 0 ∨ w < 0 ∨ 1 < w)) (hl : ¬ A 12 2 = 0) : Ok E 5 mX8_yearsNow [vR 46, vI tm, vI sd, vI w] g (fun r g' => r = some (vI (rYears A tm sd w)) ∧ RM A g' ∧ sameC g g') := by
  have hM0 := hR.1
  have hW0 := hW.1
  obtain ⟨⟨⟨hm1, hm2, hm3⟩, hmp, hml⟩, ⟨hg1, hg2⟩, ⟨ht1, ht2, ht3, ⟨ht4, ht5⟩, ht6⟩, hmk⟩ := id hR
  obtain ⟨⟨⟨hw1, hw2, hw3, hw4, hw5, hw6, hw7, hw8⟩, hwp, hwl⟩, ⟨hq1, hq2, hq3⟩, ⟨hz1, ⟨hz2, hz3⟩, ⟨hz4, hz5⟩⟩, hwk⟩ := id hW
  refine Ok_of gmX8_yearsNow (by omega) (Nat.le_of_ble_eq_true rfl) (fun X hX => ?_)
  show V E X 0 [some (vR 46), some (vI tm), some (vI sd), some (vI w), none, none] [] g
  refine k_aload_n hX.1 dX8_yearsNow_0 rfl rfl ?_
  refine k_iload_n hX.1 dX8_yearsNow_1 rfl rfl ?_
  refine k_i2l hX.1 dX8_yearsNow_2 ?_
  refine k_putl hX.1 dX8_yearsNow_3 flX8_223 rfl (by decide) rfl ?_
  refine k_iconst hX.1 dX8_yearsNow_6 ?_
  refine k_istore hX.1 dX8_yearsNow_7 (by decide) rfl rfl ?_
  try simp only [List.set_cons_zero, List.set_cons_succ]
  refine k_iconst hX.1 dX8_yearsNow_9 ?_
  refine k_istore hX.1 dX8_yearsNow_10 (by decide) rfl rfl ?_
  try simp only [List.set_cons_zero, List.set_cons_succ]
  exact lpM_years E hR hW ht hs hw hok hl hX tm.toNat 0 0 _ ⟨by omega, rfl, by rw [Nat.zero_mul]; exact ⟨by simp [wl, sdn], fun _ _ _ => rfl, fun a b q => by rw [wl_2, if_neg q]⟩⟩

set_option maxRecDepth 100000 in
set_option maxHeartbeats 4000000 in
theorem c8_years (E : En) {A : St} {g : Mm} {n : Int} (hR : RM A g) (hW : Wf A n) {tm sd w : Int} (ht : bd tm) (hs : bd sd) (hw : bd w) : Ok E 8 mX8_years [vR 46, vI tm, vI sd, vI w] g (fun r g' => r = some (vI (rYears A tm sd w)) ∧ RM A g' ∧ sameC g g') := by
  have hM0 := hR.1
  have hW0 := hW.1
  obtain ⟨⟨⟨hm1, hm2, hm3⟩, hmp, hml⟩, ⟨hg1, hg2⟩, ⟨ht1, ht2, ht3, ⟨ht4, ht5⟩, ht6⟩, hmk⟩ := id hR
  obtain ⟨⟨⟨hw1, hw2, hw3, hw4, hw5, hw6, hw7, hw8⟩, hwp, hwl⟩, ⟨hq1, hq2, hq3⟩, ⟨hz1, ⟨hz2, hz3⟩, ⟨hz4, hz5⟩⟩, hwk⟩ := id hW
  refine Ok_of gmX8_years (by omega) (Nat.le_of_ble_eq_true rfl) (fun X hX => ?_)
  show V E X 0 [some (vR 46), some (vI tm), some (vI sd), some (vI w)] [] g
  by_cases i1 : 1 ≤ tm ∧ tm ≤ 30
  · skip
    by_cases i2 : 0 ≤ w ∧ w ≤ 1
    · skip
      by_cases i3 : sd < 0
      · skip
        refine k_iload_n hX.1 dX8_years_0 rfl rfl ?_
        refine k_iconst hX.1 dX8_years_1 ?_
        refine k_bipush hX.1 dX8_years_2 (by decide) ?_
        refine k_callSf (d2 := 1) (n := 3) (as := [_, _, _]) hX.1 dX8_years_4 lkX8_86 (fit_of hX (by omega) gmX8_within) rfl rfl (Nat.le_of_ble_eq_true rfl) (cM_within1 E g (by omega) (by omega) (by omega) (by omega)) ?_
        refine k_if_eq (tgt := 23) hX.1 dX8_years_7 (by decide) (by omega) (fun c_7 => ?_) (fun c_7 => ?_)
        · skip
          exact absurd c_7 (by decide)
        · skip
          refine k_iload_n hX.1 dX8_years_10 rfl rfl ?_
          refine k_if_lt (tgt := 23) hX.1 dX8_years_11 (by decide) (by omega) (fun c_11 => ?_) (fun c_11 => ?_)
          · skip
            refine k_bipush hX.1 dX8_years_23 (by decide) ?_
            refine k_iret hX dX8_years_25 rfl ?_
            refine ⟨?_, hR, sameC.rf g⟩
            congr 2
            unfold rYears
            first | rw [if_pos (show tm < 1 ∨ 30 < tm ∨ sd < 0 ∨ w < 0 ∨ 1 < w by omega)] | rw [if_neg (show ¬ (tm < 1 ∨ 30 < tm ∨ sd < 0 ∨ w < 0 ∨ 1 < w) by omega), if_pos (show A 12 2 = 0 by omega)]
          · skip
            exact absurd c_11 (by omega)
      · skip
        by_cases i4 : A 12 2 = 0
        · skip
          refine k_iload_n hX.1 dX8_years_0 rfl rfl ?_
          refine k_iconst hX.1 dX8_years_1 ?_
          refine k_bipush hX.1 dX8_years_2 (by decide) ?_
          refine k_callSf (d2 := 1) (n := 3) (as := [_, _, _]) hX.1 dX8_years_4 lkX8_86 (fit_of hX (by omega) gmX8_within) rfl rfl (Nat.le_of_ble_eq_true rfl) (cM_within1 E g (by omega) (by omega) (by omega) (by omega)) ?_
          refine k_if_eq (tgt := 23) hX.1 dX8_years_7 (by decide) (by omega) (fun c_7 => ?_) (fun c_7 => ?_)
          · skip
            exact absurd c_7 (by decide)
          · skip
            refine k_iload_n hX.1 dX8_years_10 rfl rfl ?_
            refine k_if_lt (tgt := 23) hX.1 dX8_years_11 (by decide) (by omega) (fun c_11 => ?_) (fun c_11 => ?_)
            · skip
              exact absurd c_11 (by omega)
            · skip
              refine k_iload_n hX.1 dX8_years_14 rfl rfl ?_
              refine k_iconst hX.1 dX8_years_15 ?_
              refine k_iconst hX.1 dX8_years_16 ?_
              refine k_callSf (d2 := 1) (n := 3) (as := [_, _, _]) hX.1 dX8_years_17 lkX8_86 (fit_of hX (by omega) gmX8_within) rfl rfl (Nat.le_of_ble_eq_true rfl) (cM_within1 E g (by omega) (by omega) (by omega) (by omega)) ?_
              refine k_if_ne (tgt := 26) hX.1 dX8_years_20 (by decide) (by omega) (fun c_20 => ?_) (fun c_20 => ?_)
              · skip
                refine k_aload_n hX.1 dX8_years_26 rfl rfl ?_
                refine k_geti hX.1 dX8_years_27 flX8_132 rfl (by decide) rfl ?_
                refine k_if_ne (tgt := 38) hX.1 dX8_years_30 (by decide) (by omega) (fun c_30 => ?_) (fun c_30 => ?_)
                · skip
                  exact absurd c_30 (by omega)
                · skip
                  refine k_bipush hX.1 dX8_years_33 (by decide) ?_
                  refine k_goto (tgt := 45) hX.1 dX8_years_35 (by decide) ?_
                  refine k_iret hX dX8_years_45 rfl ?_
                  refine ⟨?_, hR, sameC.rf g⟩
                  congr 2
                  unfold rYears
                  first | rw [if_pos (show tm < 1 ∨ 30 < tm ∨ sd < 0 ∨ w < 0 ∨ 1 < w by omega)] | rw [if_neg (show ¬ (tm < 1 ∨ 30 < tm ∨ sd < 0 ∨ w < 0 ∨ 1 < w) by omega), if_pos (show A 12 2 = 0 by omega)]
              · skip
                exact absurd c_20 (by decide)
        · skip
          refine k_iload_n hX.1 dX8_years_0 rfl rfl ?_
          refine k_iconst hX.1 dX8_years_1 ?_
          refine k_bipush hX.1 dX8_years_2 (by decide) ?_
          refine k_callSf (d2 := 1) (n := 3) (as := [_, _, _]) hX.1 dX8_years_4 lkX8_86 (fit_of hX (by omega) gmX8_within) rfl rfl (Nat.le_of_ble_eq_true rfl) (cM_within1 E g (by omega) (by omega) (by omega) (by omega)) ?_
          refine k_if_eq (tgt := 23) hX.1 dX8_years_7 (by decide) (by omega) (fun c_7 => ?_) (fun c_7 => ?_)
          · skip
            exact absurd c_7 (by decide)
          · skip
            refine k_iload_n hX.1 dX8_years_10 rfl rfl ?_
            refine k_if_lt (tgt := 23) hX.1 dX8_years_11 (by decide) (by omega) (fun c_11 => ?_) (fun c_11 => ?_)
            · skip
              exact absurd c_11 (by omega)
            · skip
              refine k_iload_n hX.1 dX8_years_14 rfl rfl ?_
              refine k_iconst hX.1 dX8_years_15 ?_
              refine k_iconst hX.1 dX8_years_16 ?_
              refine k_callSf (d2 := 1) (n := 3) (as := [_, _, _]) hX.1 dX8_years_17 lkX8_86 (fit_of hX (by omega) gmX8_within) rfl rfl (Nat.le_of_ble_eq_true rfl) (cM_within1 E g (by omega) (by omega) (by omega) (by omega)) ?_
              refine k_if_ne (tgt := 26) hX.1 dX8_years_20 (by decide) (by omega) (fun c_20 => ?_) (fun c_20 => ?_)
              · skip
                refine k_aload_n hX.1 dX8_years_26 rfl rfl ?_
                refine k_geti hX.1 dX8_years_27 flX8_132 rfl (by decide) rfl ?_
                refine k_if_ne (tgt := 38) hX.1 dX8_years_30 (by decide) (by omega) (fun c_30 => ?_) (fun c_30 => ?_)
                · skip
                  refine k_aload_n hX.1 dX8_years_38 rfl rfl ?_
                  refine k_iload_n hX.1 dX8_years_39 rfl rfl ?_
                  refine k_iload_n hX.1 dX8_years_40 rfl rfl ?_
                  refine k_iload_n hX.1 dX8_years_41 rfl rfl ?_
                  refine k_callV (d2 := 5) (n := 3) (as := [_, _, _]) hX.1 dX8_years_42 lkX8_239 (fit_of hX (by omega) gmX8_yearsNow) rfl rfl (by decide) rfl rfl rfl (Nat.le_of_ble_eq_true rfl) (cM_yearsNow E hR hW ht hs hw (by omega) i4) (fun r_42 g_42 q_42 => ?_)
                  obtain ⟨rfl, q1, q2⟩ := q_42
                  show V E X 45 _ (vI _ :: _) _
                  refine k_iret hX dX8_years_45 rfl ?_
                  exact ⟨rfl, q1, q2⟩
                · skip
                  exact absurd c_30 (by omega)
              · skip
                exact absurd c_20 (by decide)
    · skip
      refine k_iload_n hX.1 dX8_years_0 rfl rfl ?_
      refine k_iconst hX.1 dX8_years_1 ?_
      refine k_bipush hX.1 dX8_years_2 (by decide) ?_
      refine k_callSf (d2 := 1) (n := 3) (as := [_, _, _]) hX.1 dX8_years_4 lkX8_86 (fit_of hX (by omega) gmX8_within) rfl rfl (Nat.le_of_ble_eq_true rfl) (cM_within1 E g (by omega) (by omega) (by omega) (by omega)) ?_
      refine k_if_eq (tgt := 23) hX.1 dX8_years_7 (by decide) (by omega) (fun c_7 => ?_) (fun c_7 => ?_)
      · skip
        exact absurd c_7 (by decide)
      · skip
        refine k_iload_n hX.1 dX8_years_10 rfl rfl ?_
        refine k_if_lt (tgt := 23) hX.1 dX8_years_11 (by decide) (by omega) (fun c_11 => ?_) (fun c_11 => ?_)
        · skip
          refine k_bipush hX.1 dX8_years_23 (by decide) ?_
          refine k_iret hX dX8_years_25 rfl ?_
          refine ⟨?_, hR, sameC.rf g⟩
          congr 2
          unfold rYears
          first | rw [if_pos (show tm < 1 ∨ 30 < tm ∨ sd < 0 ∨ w < 0 ∨ 1 < w by omega)] | rw [if_neg (show ¬ (tm < 1 ∨ 30 < tm ∨ sd < 0 ∨ w < 0 ∨ 1 < w) by omega), if_pos (show A 12 2 = 0 by omega)]
        · skip
          refine k_iload_n hX.1 dX8_years_14 rfl rfl ?_
          refine k_iconst hX.1 dX8_years_15 ?_
          refine k_iconst hX.1 dX8_years_16 ?_
          refine k_callSf (d2 := 1) (n := 3) (as := [_, _, _]) hX.1 dX8_years_17 lkX8_86 (fit_of hX (by omega) gmX8_within) rfl rfl (Nat.le_of_ble_eq_true rfl) (cM_within0 E g (by omega) (by omega) (by omega) (by omega)) ?_
          refine k_if_ne (tgt := 26) hX.1 dX8_years_20 (by decide) (by omega) (fun c_20 => ?_) (fun c_20 => ?_)
          · skip
            exact absurd rfl c_20
          · skip
            refine k_bipush hX.1 dX8_years_23 (by decide) ?_
            refine k_iret hX dX8_years_25 rfl ?_
            refine ⟨?_, hR, sameC.rf g⟩
            congr 2
            unfold rYears
            first | rw [if_pos (show tm < 1 ∨ 30 < tm ∨ sd < 0 ∨ w < 0 ∨ 1 < w by omega)] | rw [if_neg (show ¬ (tm < 1 ∨ 30 < tm ∨ sd < 0 ∨ w < 0 ∨ 1 < w) by omega), if_pos (show A 12 2 = 0 by omega)]
  · skip
    refine k_iload_n hX.1 dX8_years_0 rfl rfl ?_
    refine k_iconst hX.1 dX8_years_1 ?_
    refine k_bipush hX.1 dX8_years_2 (by decide) ?_
    refine k_callSf (d2 := 1) (n := 3) (as := [_, _, _]) hX.1 dX8_years_4 lkX8_86 (fit_of hX (by omega) gmX8_within) rfl rfl (Nat.le_of_ble_eq_true rfl) (cM_within0 E g (by omega) (by omega) (by omega) (by omega)) ?_
    refine k_if_eq (tgt := 23) hX.1 dX8_years_7 (by decide) (by omega) (fun c_7 => ?_) (fun c_7 => ?_)
    · skip
      refine k_bipush hX.1 dX8_years_23 (by decide) ?_
      refine k_iret hX dX8_years_25 rfl ?_
      refine ⟨?_, hR, sameC.rf g⟩
      congr 2
      unfold rYears
      first | rw [if_pos (show tm < 1 ∨ 30 < tm ∨ sd < 0 ∨ w < 0 ∨ 1 < w by omega)] | rw [if_neg (show ¬ (tm < 1 ∨ 30 < tm ∨ sd < 0 ∨ w < 0 ∨ 1 < w) by omega), if_pos (show A 12 2 = 0 by omega)]
    · skip
      exact absurd rfl c_7
