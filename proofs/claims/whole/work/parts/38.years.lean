/-! ===== years ===== -/
theorem k_topL {E : En} {X : Cx} {pc : Nat} {ls : List (Option mv)} {st : List mv} {g : Mm} {a b : Int64} (h : a = b) (k : V E X pc ls (vL b :: st) g) : V E X pc ls (vL a :: st) g := h ▸ k
def nxs (s : Int64) : Int64 := (1103515245 * s + 12345) &&& 2147483647
/-- the seed after t draws -/
def sdn (s : Int64) : Nat → Int64
  | 0 => s
  | t + 1 => nxs (sdn s t)
def drw (x : Int64) (d : Int) : Int := x.toInt / 65536 % d
theorem sdn_add (s : Int64) (a : Nat) : ∀ b, sdn (sdn s a) b = sdn s (a + b)
  | 0 => rfl
  | b + 1 => by rw [sdn, sdn_add s a b]; rfl
theorem nxs_nat (s : Int64) : ∃ k : Nat, k < 2 ^ 31 ∧ nxs s = lN k := by
  refine ⟨(nxs s).toBitVec.toNat, ?_, ?_⟩
  · show ((1103515245 * s + 12345) &&& 2147483647 : Int64).toBitVec.toNat < 2 ^ 31
    rw [Int64.toBitVec_and, BitVec.toNat_and]
    have h : (2147483647 : Int64).toBitVec.toNat = 2147483647 := by decide
    rw [h]
    have := Nat.and_le_right (n := (1103515245 * s + 12345 : Int64).toBitVec.toNat) (m := 2147483647)
    omega
  · apply Int64.toBitVec_inj.mp
    show _ = (Int64.ofNat _).toBitVec
    rw [Int64.toBitVec_ofNat']
    simp
theorem drw_bd {s : Int64} {d : Int} (hd : 1 ≤ d) : 0 ≤ drw (nxs s) d ∧ drw (nxs s) d < d := by
  unfold drw
  exact ⟨Int.emod_nonneg _ (by omega), Int.emod_lt_of_pos _ (by omega)⟩
theorem drw_eq {s : Int64} {d : Int} (hd : 1 ≤ d ∧ d ≤ 100) : (nxs s / 65536 - nxs s / 65536 / (zi d).toInt64 * (zi d).toInt64).toInt32.toInt = drw (nxs s) d := by
  obtain ⟨k, hk, hx⟩ := nxs_nat s
  obtain ⟨n, rfl⟩ : ∃ n : Nat, d = (n : Int) := ⟨d.toNat, by omega⟩
  have h1 : (zi (n : Int)).toInt64 = lN n := by rw [zi_nat]; exact nI_l (by omega)
  have h2 : (65536 : Int64) = lN 65536 := rfl
  unfold drw
  rw [hx, h1, h2, pk_lDiv (by omega) (by omega) (by omega), pk_lRem (by omega) (by omega) (by omega), lN_i, pk_lT (by omega)]
  have h3 : k / 65536 % n < n := Nat.mod_lt _ (by omega)
  rw [nI_toInt (by omega), Int.natCast_emod, Int.natCast_ediv]
  rfl
theorem fdd_bd {s f : Int} (hs : 0 ≤ s ∧ s ≤ 20) (hf : 0 ≤ f ∧ f ≤ 3) : 0 ≤ fdd s f ∧ fdd s f ≤ 20 := by unfold fdd; split <;> omega
def ysh (A : St) (s : Int64) (t : Nat) : Int := fdd (drw (sdn s (t + 1)) 21) (A 12 1)
def yto (A : St) (s : Int64) (p : Nat) : Int := 2 * ysh A s (drw (sdn s ((A 12 2).toNat + p + 1)) (A 12 2)).toNat
def ysn (A : St) (s : Int64) : Int := sm (fun q => s2 A q (yto A s q) (yto A s (q + 1))) ((A 12 0).toNat - 1)
def yT (A : St) (s : Int64) : Nat → Int
  | 0 => 0
  | k + 1 => yT A s k + ysn A (sdn s (k * ((A 12 2).toNat + (A 12 0).toNat)))
def rYears (A : St) (t s w : Int) : Int := if t < 1 ∨ 30 < t ∨ s < 0 ∨ w < 0 ∨ 1 < w then -102 else if A 12 2 = 0 then -103 else if w = 0 then yT A (zi s).toInt64 t.toNat else (sdn (zi s).toInt64 (t.toNat * ((A 12 2).toNat + (A 12 0).toNat))).toInt32.toInt
theorem ysh_bd {A : St} {n : Int} (hW : WW A n) (s : Int64) (t : Nat) : 0 ≤ ysh A s t ∧ ysh A s t ≤ 20 := by
  have h := drw_bd (s := sdn s t) (d := 21) (by omega)
  exact fdd_bd (by show 0 ≤ drw (nxs (sdn s t)) 21 ∧ drw (nxs (sdn s t)) 21 ≤ 20; omega) ⟨hW.1.2.2.2.2.1, hW.1.2.2.2.2.2.1⟩
theorem yto_bd {A : St} {n : Int} (hW : WW A n) (s : Int64) (p : Nat) : 0 ≤ yto A s p ∧ yto A s p ≤ 40 := by
  have := ysh_bd hW s (drw (sdn s ((A 12 2).toNat + p + 1)) (A 12 2)).toNat
  unfold yto
  omega
/-- what a year leaves of the memory: all but the drawn shades (45) and the seed -/
def yF (g h : Mm) (x : Int64) : Prop := h.2 44 1 = x ∧ (∀ a, a ≠ 45 → h.1 a = g.1 a) ∧ ∀ a b, ¬ (a = 44 ∧ b = 1) → h.2 a b = g.2 a b
set_option maxRecDepth 100000 in
set_option maxHeartbeats 4000000 in
theorem cD_draw (E : En) (g : Mm) {d : Int} (hd : 1 ≤ d ∧ d ≤ 100) : Fp E 1 mX0_draw [vR 44, vI d] g (vI (drw (nxs (g.2 44 1)) d)) (wl g 44 1 (nxs (g.2 44 1))) := by
  refine Ok_of gmX0_draw (by omega) (Nat.le_of_ble_eq_true rfl) (fun X hX => ?_)
  show V E X 0 [some (vR 44), some (vI d)] [] g
  refine k_aload_n hX.1 dX0_draw_0 rfl rfl ?_
  refine k_ldc2 hX.1 dX0_draw_1 lcX0_15 ?_
  refine k_aload_n hX.1 dX0_draw_4 rfl rfl ?_
  refine k_getl hX.1 dX0_draw_5 flX0_17 rfl (by decide) rfl ?_
  refine k_lmul hX.1 dX0_draw_8 ?_
  refine k_ldc2 hX.1 dX0_draw_9 lcX0_21 ?_
  refine k_ladd hX.1 dX0_draw_12 ?_
  refine k_ldc2 hX.1 dX0_draw_13 lcX0_23 ?_
  refine k_land hX.1 dX0_draw_16 ?_
  show V E X 17 _ (vL (nxs (g.2 44 1)) :: _) _
  refine k_putl hX.1 dX0_draw_17 flX0_17 rfl (by decide) rfl ?_
  refine k_iload_n hX.1 dX0_draw_20 rfl rfl ?_
  refine k_if_le (tgt := 39) hX.1 dX0_draw_21 (by decide) (by omega) (fun c_21 => ?_) (fun c_21 => ?_)
  · skip
    exact absurd c_21 (by omega)
  · skip
    refine k_aload_n hX.1 dX0_draw_24 rfl rfl ?_
    refine k_getl hX.1 dX0_draw_25 flX0_17 rfl (by decide) rfl ?_
    refine k_topL (b := nxs (g.2 44 1)) (by simp [wl_2]) ?_
    refine k_ldc2 hX.1 dX0_draw_28 lcX0_25 ?_
    refine k_ldiv hX.1 dX0_draw_31 (by decide) ?_
    refine k_iload_n hX.1 dX0_draw_32 rfl rfl ?_
    refine k_i2l hX.1 dX0_draw_33 ?_
    refine k_lrem hX.1 dX0_draw_34 (by intro q; have h := congrArg Int64.toInt q; rw [show (zi d).toInt64 = lN d.toNat by (obtain ⟨n, rfl⟩ : ∃ n : Nat, d = (n : Int) := ⟨d.toNat, by omega⟩); rw [zi_nat, Int.toNat_natCast]; exact nI_l (by omega), pk_lT (by omega)] at h; have h0 : (0 : Int64).toInt = 0 := rfl; omega) ?_
    refine k_l2i hX.1 dX0_draw_35 ?_
    refine k_top (drw_eq hd) ?_
    refine k_goto (tgt := 40) hX.1 dX0_draw_36 (by decide) ?_
    refine k_iret hX dX0_draw_40 rfl ?_
    exact ⟨rfl, rfl⟩

theorem CW_yF {A : St} {g h : Mm} {n : Int} {x : Int64} (hC : CW A g) (hW : WW A n) (hy : yF g h x) : CW A h := CW_fr hC (fun a h1 h2 => hy.2.1 a (by omega)) ⟨rfl, rfl, rfl⟩ (fun _ _ _ _ => rfl) (fun _ _ _ _ _ => rfl) hW.1.2.1 hW.1.2.2.2.1
theorem yF_d {g h : Mm} {x y : Int64} (hy : yF g h x) : yF g (wl h 44 1 y) y := ⟨by simp [wl], hy.2.1, fun a b q => by rw [wl_2, if_neg q]; exact hy.2.2 a b q⟩
theorem yF_w {g h : Mm} {x : Int64} {t : Nat} {v : Int} (hy : yF g h x) : yF g (wr h 45 t v) x := ⟨hy.1, fun a q => by rw [wr_off q]; exact hy.2.1 a q, hy.2.2⟩
set_option maxRecDepth 100000 in
set_option maxHeartbeats 4000000 in
theorem lp_year2 (E : En) {A : St} {g : Mm} {n : Int} (hC : CW A g) (hW : WW A n) (hl : 1 ≤ A 12 2) (s : Int64) {X : Cx} (hX : Wk E mX0_seenInAYear X 3 (fun r g' => r = some (vI (ysn A s)) ∧ yF g g' (sdn s ((A 12 2).toNat + (A 12 0).toNat)))) : ∀ (m : Nat) (p : Nat) (u v : Int) (h : Mm), m + p = (A 12 0).toNat ∧ (∀ q : Nat, (q : Int) < A 12 2 → h.1 45 q = ysh A s q) ∧ yF g h (sdn s ((A 12 2).toNat + p)) ∧ u = sm (fun q => s2 A q (yto A s q) (yto A s (q + 1))) (p - 1) ∧ (1 ≤ p → v = yto A s (p - 1)) → V E X 42 [some (vR 44), some (vR 3), some (vI u), some (vI v), some (vI (p : Int)), none] [] h := by
  obtain ⟨⟨hc1, hc2, hc3⟩, hcp, hcl⟩ := id hC
  obtain ⟨⟨hw1, hw2, hw3, hw4, hw5, hw6, hw7, hw8⟩, hwp, hwl⟩ := id hW
  intro m
  induction m with
  | zero =>
    intro p u v h ⟨hm, hs, hy, hu, hv⟩
    obtain rfl : p = (A 12 0).toNat := by omega
    refine k_iload hX.1 dX0_seenInAYear_42 rfl ?_
    refine k_aload_n hX.1 dX0_seenInAYear_44 rfl rfl ?_
    refine k_geti hX.1 dX0_seenInAYear_45 flX0_44 rfl (by decide) rfl ?_
    refine k_top (b := A 12 0) (by rw [hy.2.1 3 (by omega)]; exact hc1) ?_
    refine k_icmp_ge (tgt := 96) hX.1 dX0_seenInAYear_48 (by decide) (by omega) (by omega) (fun c_48 => ?_) (fun c_48 => ?_)
    · skip
      refine k_iload_n hX.1 dX0_seenInAYear_96 rfl rfl ?_
      refine k_iret hX dX0_seenInAYear_97 rfl ?_
      refine ⟨?_, hy⟩
      rw [hu]
      rfl
    · skip
      exact absurd c_48 (by omega)
  | succ m ih =>
    intro p u v h ⟨hm, hs, hy, hu, hv⟩
    refine k_iload hX.1 dX0_seenInAYear_42 rfl ?_
    refine k_aload_n hX.1 dX0_seenInAYear_44 rfl rfl ?_
    refine k_geti hX.1 dX0_seenInAYear_45 flX0_44 rfl (by decide) rfl ?_
    refine k_top (b := A 12 0) (by rw [hy.2.1 3 (by omega)]; exact hc1) ?_
    refine k_icmp_ge (tgt := 96) hX.1 dX0_seenInAYear_48 (by decide) (by omega) (by omega) (fun c_48 => ?_) (fun c_48 => ?_)
    · skip
      exact absurd c_48 (by omega)
    · skip
      refine k_iconst hX.1 dX0_seenInAYear_51 ?_
      refine k_aload_n hX.1 dX0_seenInAYear_52 rfl rfl ?_
      refine k_getr (t := 45) hX.1 dX0_seenInAYear_53 flX0_9 rfl (by decide) rfl rfl ?_
      refine k_aload_n hX.1 dX0_seenInAYear_56 rfl rfl ?_
      refine k_aload_n hX.1 dX0_seenInAYear_57 rfl rfl ?_
      refine k_geti hX.1 dX0_seenInAYear_58 flX0_27 rfl (by decide) rfl ?_
      refine k_top (b := A 12 2) (by rw [hy.2.1 3 (by omega)]; exact hc2) ?_
      refine k_callVq (d2 := 1) (n := 1) (as := [_]) hX.1 dX0_seenInAYear_61 lkX0_33 (fit_of hX (by omega) gmX0_draw) rfl rfl (by decide) rfl rfl rfl (Nat.le_of_ble_eq_true rfl) (cD_draw E h (d := A 12 2) (by omega)) ?_
      have hd := drw_bd (s := h.2 44 1) (d := A 12 2) (by omega)
      have hx : nxs (h.2 44 1) = sdn s ((A 12 2).toNat + p + 1) := by rw [hy.1]; rfl
      rw [hx] at hd ⊢
      refine k_iald (j := (drw (sdn s ((A 12 2).toNat + p + 1)) (A 12 2)).toNat) hX.1 dX0_seenInAYear_64 rfl (by omega) (n := 3) rfl (by omega) (by omega) ?_
      refine k_top (b := ysh A s (drw (sdn s ((A 12 2).toNat + p + 1)) (A 12 2)).toNat) (hs _ (by omega)) ?_
      refine k_imul hX.1 dX0_seenInAYear_65 ?_
      refine k_top (show _ = yto A s p from rfl) ?_
      have hy2 : yF g (wl h 44 1 (sdn s ((A 12 2).toNat + p + 1))) (sdn s ((A 12 2).toNat + (p + 1))) := yF_d hy
      have hb1 := yto_bd hW s p
      refine k_istore hX.1 dX0_seenInAYear_66 (by decide) rfl rfl ?_
      try simp only [List.set_cons_zero, List.set_cons_succ]
      refine k_iload hX.1 dX0_seenInAYear_68 rfl ?_
      refine k_if_le (tgt := 87) hX.1 dX0_seenInAYear_70 (by decide) (by omega) (fun c_70 => ?_) (fun c_70 => ?_)
      · skip
        refine k_iload hX.1 dX0_seenInAYear_87 rfl ?_
        refine k_istore_n hX.1 dX0_seenInAYear_89 rfl (by decide) rfl rfl ?_
        try simp only [List.set_cons_zero, List.set_cons_succ]
        refine k_iinc hX.1 dX0_seenInAYear_90 rfl (by decide) rfl rfl ?_
        try simp only [List.set_cons_zero, List.set_cons_succ]
        refine k_goto (tgt := 42) hX.1 dX0_seenInAYear_93 (by decide) ?_
        first
          | exact k_sub (by repeat first | exact trivial | refine And.intro rfl ?_) (ih (p1 + 1 + 1) _ _ _ ⟨by omega, hs, hy2, by rw [hu]; rfl, fun _ => rfl⟩)
          | exact k_sub (by repeat first | exact trivial | refine And.intro rfl ?_) (ih (p + 1) _ _ _ ⟨by omega, hs, hy2, by rw [hu, show p = 0 by omega], fun _ => rfl⟩)
      · skip
        obtain ⟨p1, rfl⟩ : ∃ p1, p = p1 + 1 := ⟨p - 1, by omega⟩
        have hv1 := hv (by omega)
        rw [show p1 + 1 - 1 = p1 by omega] at hv1 hu
        subst hv1
        have hb2 := yto_bd hW s p1
        refine k_iload_n hX.1 dX0_seenInAYear_73 rfl rfl ?_
        refine k_aload_n hX.1 dX0_seenInAYear_74 rfl rfl ?_
        refine k_iload hX.1 dX0_seenInAYear_75 rfl ?_
        refine k_iconst hX.1 dX0_seenInAYear_77 ?_
        refine k_isub hX.1 dX0_seenInAYear_78 ?_
        refine k_top (b := (p1 : Int)) (by omega) ?_
        refine k_iload_n hX.1 dX0_seenInAYear_79 rfl rfl ?_
        refine k_iload hX.1 dX0_seenInAYear_80 rfl ?_
        refine k_callVf (d2 := 2) (n := 3) (as := [_, _, _]) hX.1 dX0_seenInAYear_82 lkX0_47 (fit_of hX (by omega) gmX6_seenWith) rfl rfl (by decide) rfl rfl rfl (Nat.le_of_ble_eq_true rfl) (cW_seenWith E (CW_yF hC hW hy2) hW (p := p1) (by omega) (by omega) (by omega)) ?_
        refine k_iadd hX.1 dX0_seenInAYear_85 ?_
        refine k_istore_n hX.1 dX0_seenInAYear_86 rfl (by decide) rfl rfl ?_
        try simp only [List.set_cons_zero, List.set_cons_succ]
        refine k_iload hX.1 dX0_seenInAYear_87 rfl ?_
        refine k_istore_n hX.1 dX0_seenInAYear_89 rfl (by decide) rfl rfl ?_
        try simp only [List.set_cons_zero, List.set_cons_succ]
        refine k_iinc hX.1 dX0_seenInAYear_90 rfl (by decide) rfl rfl ?_
        try simp only [List.set_cons_zero, List.set_cons_succ]
        refine k_goto (tgt := 42) hX.1 dX0_seenInAYear_93 (by decide) ?_
        first
          | exact k_sub (by repeat first | exact trivial | refine And.intro rfl ?_) (ih (p1 + 1 + 1) _ _ _ ⟨by omega, hs, hy2, by rw [hu]; rfl, fun _ => rfl⟩)
          | exact k_sub (by repeat first | exact trivial | refine And.intro rfl ?_) (ih (p + 1) _ _ _ ⟨by omega, hs, hy2, by rw [hu, show p = 0 by omega], fun _ => rfl⟩)

set_option maxRecDepth 100000 in
set_option maxHeartbeats 4000000 in
theorem lp_year1 (E : En) {A : St} {g : Mm} {n : Int} (hC : CW A g) (hW : WW A n) (hl : 1 ≤ A 12 2) (s : Int64) {X : Cx} (hX : Wk E mX0_seenInAYear X 3 (fun r g' => r = some (vI (ysn A s)) ∧ yF g g' (sdn s ((A 12 2).toNat + (A 12 0).toNat)))) : ∀ (m : Nat) (t : Nat) (h : Mm), m + t = (A 12 2).toNat ∧ (∀ q : Nat, q < t → h.1 45 q = ysh A s q) ∧ yF g h (sdn s t) → V E X 2 [some (vR 44), some (vR 3), some (vI (t : Int)), none, none, none] [] h := by
  obtain ⟨⟨hc1, hc2, hc3⟩, hcp, hcl⟩ := id hC
  obtain ⟨⟨hw1, hw2, hw3, hw4, hw5, hw6, hw7, hw8⟩, hwp, hwl⟩ := id hW
  intro m
  induction m with
  | zero =>
    intro t h ⟨hm, hs, hy⟩
    obtain rfl : t = (A 12 2).toNat := by omega
    refine k_iload_n hX.1 dX0_seenInAYear_2 rfl rfl ?_
    refine k_aload_n hX.1 dX0_seenInAYear_3 rfl rfl ?_
    refine k_geti hX.1 dX0_seenInAYear_4 flX0_27 rfl (by decide) rfl ?_
    refine k_top (b := A 12 2) (by rw [hy.2.1 3 (by omega)]; exact hc2) ?_
    refine k_icmp_ge (tgt := 35) hX.1 dX0_seenInAYear_7 (by decide) (by omega) (by omega) (fun c_7 => ?_) (fun c_7 => ?_)
    · skip
      refine k_iconst hX.1 dX0_seenInAYear_35 ?_
      refine k_istore_n hX.1 dX0_seenInAYear_36 rfl (by decide) rfl rfl ?_
      try simp only [List.set_cons_zero, List.set_cons_succ]
      refine k_iconst hX.1 dX0_seenInAYear_37 ?_
      refine k_istore_n hX.1 dX0_seenInAYear_38 rfl (by decide) rfl rfl ?_
      try simp only [List.set_cons_zero, List.set_cons_succ]
      refine k_iconst hX.1 dX0_seenInAYear_39 ?_
      refine k_istore hX.1 dX0_seenInAYear_40 (by decide) rfl rfl ?_
      try simp only [List.set_cons_zero, List.set_cons_succ]
      exact lp_year2 E hC hW hl s hX (A 12 0).toNat 0 0 0 h ⟨by omega, fun q hq => hs q (by omega), hy, rfl, fun q => absurd q (by omega)⟩
    · skip
      exact absurd c_7 (by omega)
  | succ m ih =>
    intro t h ⟨hm, hs, hy⟩
    refine k_iload_n hX.1 dX0_seenInAYear_2 rfl rfl ?_
    refine k_aload_n hX.1 dX0_seenInAYear_3 rfl rfl ?_
    refine k_geti hX.1 dX0_seenInAYear_4 flX0_27 rfl (by decide) rfl ?_
    refine k_top (b := A 12 2) (by rw [hy.2.1 3 (by omega)]; exact hc2) ?_
    refine k_icmp_ge (tgt := 35) hX.1 dX0_seenInAYear_7 (by decide) (by omega) (by omega) (fun c_7 => ?_) (fun c_7 => ?_)
    · skip
      exact absurd c_7 (by omega)
    · skip
      refine k_aload_n hX.1 dX0_seenInAYear_10 rfl rfl ?_
      refine k_getr (t := 45) hX.1 dX0_seenInAYear_11 flX0_9 rfl (by decide) rfl rfl ?_
      refine k_iload_n hX.1 dX0_seenInAYear_14 rfl rfl ?_
      refine k_aload_n hX.1 dX0_seenInAYear_15 rfl rfl ?_
      refine k_bipush hX.1 dX0_seenInAYear_16 (by decide) ?_
      refine k_callVq (d2 := 1) (n := 1) (as := [_]) hX.1 dX0_seenInAYear_18 lkX0_33 (fit_of hX (by omega) gmX0_draw) rfl rfl (by decide) rfl rfl rfl (Nat.le_of_ble_eq_true rfl) (cD_draw E h (d := 21) (by omega)) ?_
      have hd := drw_bd (s := h.2 44 1) (d := 21) (by omega)
      have hx : nxs (h.2 44 1) = sdn s (t + 1) := by rw [hy.1]; rfl
      rw [hx] at hd ⊢
      refine k_aload_n hX.1 dX0_seenInAYear_21 rfl rfl ?_
      refine k_geti hX.1 dX0_seenInAYear_22 flX0_37 rfl (by decide) rfl ?_
      refine k_top (b := A 12 1) (by show h.1 3 4 = _; rw [hy.2.1 3 (by omega)]; exact hc3) ?_
      refine k_callNf (d2 := 2) (n := 2) (as := [_, _]) hX.1 dX0_seenInAYear_25 lkX0_40 (fit_of hX (by omega) gmX7_faded) rfl rfl (Nat.le_of_ble_eq_true rfl) (cX_faded E _ (by omega) (by omega)) ?_
      refine k_top (show _ = ysh A s t from rfl) ?_
      refine k_iast (j := t) hX.1 dX0_seenInAYear_28 rfl (by omega) (n := 3) rfl (by omega) (by omega) ?_
      refine k_iinc hX.1 dX0_seenInAYear_29 rfl (by decide) rfl rfl ?_
      try simp only [List.set_cons_zero, List.set_cons_succ]
      refine k_goto (tgt := 2) hX.1 dX0_seenInAYear_32 (by decide) ?_
      exact ih (t + 1) _ ⟨by omega, fun q hq => by
        by_cases e : q = t
        · subst e; rw [wr_at]
        · rw [wr_1, if_neg (by omega)]; exact hs q (by omega), yF_w (yF_d hy)⟩

set_option maxRecDepth 100000 in
set_option maxHeartbeats 4000000 in
theorem cD_year (E : En) {A : St} {g : Mm} {n : Int} (hC : CW A g) (hW : WW A n) (hl : 1 ≤ A 12 2) (s : Int64) (hs : g.2 44 1 = s) : Ok E 3 mX0_seenInAYear [vR 44, vR 3] g (fun r g' => r = some (vI (ysn A s)) ∧ yF g g' (sdn s ((A 12 2).toNat + (A 12 0).toNat))) := by
  refine Ok_of gmX0_seenInAYear (by omega) (Nat.le_of_ble_eq_true rfl) (fun X hX => ?_)
  show V E X 0 [some (vR 44), some (vR 3), none, none, none, none] [] g
  refine k_iconst hX.1 dX0_seenInAYear_0 ?_
  refine k_istore_n hX.1 dX0_seenInAYear_1 rfl (by decide) rfl rfl ?_
  try simp only [List.set_cons_zero, List.set_cons_succ]
  exact lp_year1 E hC hW hl s hX (A 12 2).toNat 0 g ⟨by omega, fun q hq => absurd hq (Nat.not_lt_zero q), hs, fun _ _ => rfl, fun _ _ _ => rfl⟩

theorem yF_tr {g h k : Mm} {x y : Int64} (h1 : yF g h x) (h2 : yF h k y) : yF g k y := ⟨h2.1, fun a q => (h2.2.1 a q).trans (h1.2.1 a q), fun a b q => (h2.2.2 a b q).trans (h1.2.2 a b q)⟩
theorem sameM_yF {g h : Mm} {x : Int64} (hy : yF g h x) : sameM g h := fun a ha => ⟨hy.2.1 a (by omega), by funext b; exact hy.2.2 a b (by omega)⟩
theorem RC_yF {A : St} {g h : Mm} {n : Int} {x : Int64} (hR : RC A g) (hW : Wf A n) (hy : yF g h x) : RC A h := RC_help hR (fun a ha => hy.2.1 a (by omega)) hW.b.1.2 hW.b.2.1.2 (fun k => (hW.b.2.2 k).2)
set_option maxRecDepth 100000 in
set_option maxHeartbeats 4000000 in
theorem lp_years (E : En) {A : St} {g : Mm} {n : Int} (hR : RC A g) (hW : Wf A n) {tm sd w : Int} (ht : bd tm) (hs : bd sd) (hw : bd w) (hok : ¬ (tm < 1 ∨ 30 < tm ∨ sd < 0 ∨ w < 0 ∨ 1 < w)) (hl : ¬ A 12 2 = 0) {X : Cx} (hX : Wk E mX7_years X 4 (fun r g' => r = some (vI (rYears A tm sd w)) ∧ RC A g' ∧ sameM g g')) : ∀ (m : Nat) (k : Nat) (u : Int) (h : Mm), (m : Int) + k = tm ∧ u = yT A (zi sd).toInt64 k ∧ yF g h (sdn (zi sd).toInt64 (k * ((A 12 2).toNat + (A 12 0).toNat))) → V E X 55 [some (vR 0), some (vI tm), some (vI sd), some (vI w), some (vI u), some (vI (k : Int))] [] h := by
  have hC0 := hR.1
  have hW0 := hW.1
  obtain ⟨⟨⟨hc1, hc2, hc3⟩, hcp, hcl⟩, ⟨hg1, hg2⟩, ⟨ht1, ht2, ht3⟩, hck, hcb⟩ := id hR
  obtain ⟨⟨⟨hw1, hw2, hw3, hw4, hw5, hw6, hw7, hw8⟩, hwp, hwl⟩, ⟨hq1, hq2, hq3⟩, ⟨hz1, ⟨hz2, hz3⟩, ⟨hz4, hz5⟩⟩, hwk⟩ := id hW
  intro m
  induction m with
  | zero =>
    intro k u h ⟨hm, hu, hy⟩
    have hk : tm.toNat = k := by omega
    refine k_iload hX.1 dX7_years_55 rfl ?_
    refine k_iload_n hX.1 dX7_years_57 rfl rfl ?_
    refine k_icmp_ge (tgt := 83) hX.1 dX7_years_58 (by decide) (by omega) (by omega) (fun c_58 => ?_) (fun c_58 => ?_)
    · skip
      refine k_iload_n hX.1 dX7_years_83 rfl rfl ?_
      refine k_if_ne (tgt := 92) hX.1 dX7_years_84 (by decide) (by omega) (fun c_84 => ?_) (fun c_84 => ?_)
      · skip
        refine k_aload_n hX.1 dX7_years_92 rfl rfl ?_
        refine k_getr (t := 44) hX.1 dX7_years_93 flX7_43 rfl (by decide) rfl rfl ?_
        refine k_getl hX.1 dX7_years_96 flX7_195 rfl (by decide) rfl ?_
        refine k_topL (b := sdn (zi sd).toInt64 (k * ((A 12 2).toNat + (A 12 0).toNat))) hy.1 ?_
        refine k_l2i hX.1 dX7_years_99 ?_
        refine k_iret hX dX7_years_100 rfl ?_
        refine ⟨?_, RC_yF hR hW hy, sameM_yF hy⟩
        congr 2
        unfold rYears
        rw [if_neg hok, if_neg hl, hk]
        first | rw [if_pos (by omega), hu] | rw [if_neg (by omega)]
      · skip
        refine k_iload hX.1 dX7_years_87 rfl ?_
        refine k_goto (tgt := 100) hX.1 dX7_years_89 (by decide) ?_
        refine k_iret hX dX7_years_100 rfl ?_
        refine ⟨?_, RC_yF hR hW hy, sameM_yF hy⟩
        congr 2
        unfold rYears
        rw [if_neg hok, if_neg hl, hk]
        first | rw [if_pos (by omega), hu] | rw [if_neg (by omega)]
    · skip
      exact absurd c_58 (by omega)
  | succ m ih =>
    intro k u h ⟨hm, hu, hy⟩
    refine k_iload hX.1 dX7_years_55 rfl ?_
    refine k_iload_n hX.1 dX7_years_57 rfl rfl ?_
    refine k_icmp_ge (tgt := 83) hX.1 dX7_years_58 (by decide) (by omega) (by omega) (fun c_58 => ?_) (fun c_58 => ?_)
    · skip
      exact absurd c_58 (by omega)
    · skip
      refine k_iload hX.1 dX7_years_61 rfl ?_
      refine k_aload_n hX.1 dX7_years_63 rfl rfl ?_
      refine k_getr (t := 44) hX.1 dX7_years_64 flX7_43 rfl (by decide) rfl rfl ?_
      refine k_aload_n hX.1 dX7_years_67 rfl rfl ?_
      refine k_getr (t := 3) hX.1 dX7_years_68 flX7_19 rfl (by decide) rfl rfl ?_
      refine k_callV (d2 := 3) (n := 1) (as := [_]) hX.1 dX7_years_71 lkX7_199 (fit_of hX (by omega) gmX0_seenInAYear) rfl rfl (by decide) rfl rfl rfl (Nat.le_of_ble_eq_true rfl) (cD_year E (CW_yF hC0 hW0 hy) hW0 (by omega) _ hy.1) (fun r_71 g_71 q_71 => ?_)
      obtain ⟨rfl, hy2⟩ := q_71
      show V E X 74 _ (vI _ :: _) _
      have hy3 := yF_tr hy hy2
      rw [sdn_add, ← Nat.succ_mul] at hy3
      refine k_iadd hX.1 dX7_years_74 ?_
      refine k_istore hX.1 dX7_years_75 (by decide) rfl rfl ?_
      try simp only [List.set_cons_zero, List.set_cons_succ]
      refine k_iinc hX.1 dX7_years_77 rfl (by decide) rfl rfl ?_
      try simp only [List.set_cons_zero, List.set_cons_succ]
      refine k_goto (tgt := 55) hX.1 dX7_years_80 (by decide) ?_
      exact ih (k + 1) _ _ ⟨by omega, by rw [hu]; rfl, hy3⟩

set_option maxRecDepth 100000 in
set_option maxHeartbeats 4000000 in
theorem c7_years (E : En) {A : St} {g : Mm} {n : Int} (hR : RC A g) (hW : Wf A n) {tm sd w : Int} (ht : bd tm) (hs : bd sd) (hw : bd w) : Ok E 4 mX7_years [vR 0, vI tm, vI sd, vI w] g (fun r g' => r = some (vI (rYears A tm sd w)) ∧ RC A g' ∧ sameM g g') := by
  have hC0 := hR.1
  have hW0 := hW.1
  obtain ⟨⟨⟨hc1, hc2, hc3⟩, hcp, hcl⟩, ⟨hg1, hg2⟩, ⟨ht1, ht2, ht3⟩, hck, hcb⟩ := id hR
  obtain ⟨⟨⟨hw1, hw2, hw3, hw4, hw5, hw6, hw7, hw8⟩, hwp, hwl⟩, ⟨hq1, hq2, hq3⟩, ⟨hz1, ⟨hz2, hz3⟩, ⟨hz4, hz5⟩⟩, hwk⟩ := id hW
  refine Ok_of gmX7_years (by omega) (Nat.le_of_ble_eq_true rfl) (fun X hX => ?_)
  show V E X 0 [some (vR 0), some (vI tm), some (vI sd), some (vI w), none, none] [] g
  refine k_iload_n hX.1 dX7_years_0 rfl rfl ?_
  refine k_iconst hX.1 dX7_years_1 ?_
  refine k_icmp_lt (tgt := 24) hX.1 dX7_years_2 (by decide) (by omega) (by omega) (fun c_2 => ?_) (fun c_2 => ?_)
  · skip
    refine k_bipush hX.1 dX7_years_24 (by decide) ?_
    refine k_iret hX dX7_years_26 rfl ?_
    refine ⟨?_, hR, sameM.rf g⟩
    congr 2
    unfold rYears
    first | rw [if_pos (show tm < 1 ∨ 30 < tm ∨ sd < 0 ∨ w < 0 ∨ 1 < w by omega)] | rw [if_neg (show ¬ (tm < 1 ∨ 30 < tm ∨ sd < 0 ∨ w < 0 ∨ 1 < w) by omega), if_pos (show A 12 2 = 0 by omega)]
  · skip
    refine k_iload_n hX.1 dX7_years_5 rfl rfl ?_
    refine k_bipush hX.1 dX7_years_6 (by decide) ?_
    refine k_icmp_gt (tgt := 24) hX.1 dX7_years_8 (by decide) (by omega) (by omega) (fun c_8 => ?_) (fun c_8 => ?_)
    · skip
      refine k_bipush hX.1 dX7_years_24 (by decide) ?_
      refine k_iret hX dX7_years_26 rfl ?_
      refine ⟨?_, hR, sameM.rf g⟩
      congr 2
      unfold rYears
      first | rw [if_pos (show tm < 1 ∨ 30 < tm ∨ sd < 0 ∨ w < 0 ∨ 1 < w by omega)] | rw [if_neg (show ¬ (tm < 1 ∨ 30 < tm ∨ sd < 0 ∨ w < 0 ∨ 1 < w) by omega), if_pos (show A 12 2 = 0 by omega)]
    · skip
      refine k_iload_n hX.1 dX7_years_11 rfl rfl ?_
      refine k_if_lt (tgt := 24) hX.1 dX7_years_12 (by decide) (by omega) (fun c_12 => ?_) (fun c_12 => ?_)
      · skip
        refine k_bipush hX.1 dX7_years_24 (by decide) ?_
        refine k_iret hX dX7_years_26 rfl ?_
        refine ⟨?_, hR, sameM.rf g⟩
        congr 2
        unfold rYears
        first | rw [if_pos (show tm < 1 ∨ 30 < tm ∨ sd < 0 ∨ w < 0 ∨ 1 < w by omega)] | rw [if_neg (show ¬ (tm < 1 ∨ 30 < tm ∨ sd < 0 ∨ w < 0 ∨ 1 < w) by omega), if_pos (show A 12 2 = 0 by omega)]
      · skip
        refine k_iload_n hX.1 dX7_years_15 rfl rfl ?_
        refine k_if_lt (tgt := 24) hX.1 dX7_years_16 (by decide) (by omega) (fun c_16 => ?_) (fun c_16 => ?_)
        · skip
          refine k_bipush hX.1 dX7_years_24 (by decide) ?_
          refine k_iret hX dX7_years_26 rfl ?_
          refine ⟨?_, hR, sameM.rf g⟩
          congr 2
          unfold rYears
          first | rw [if_pos (show tm < 1 ∨ 30 < tm ∨ sd < 0 ∨ w < 0 ∨ 1 < w by omega)] | rw [if_neg (show ¬ (tm < 1 ∨ 30 < tm ∨ sd < 0 ∨ w < 0 ∨ 1 < w) by omega), if_pos (show A 12 2 = 0 by omega)]
        · skip
          refine k_iload_n hX.1 dX7_years_19 rfl rfl ?_
          refine k_iconst hX.1 dX7_years_20 ?_
          refine k_icmp_le (tgt := 27) hX.1 dX7_years_21 (by decide) (by omega) (by omega) (fun c_21 => ?_) (fun c_21 => ?_)
          · skip
            refine k_aload_n hX.1 dX7_years_27 rfl rfl ?_
            refine k_getr (t := 3) hX.1 dX7_years_28 flX7_19 rfl (by decide) rfl rfl ?_
            refine k_geti hX.1 dX7_years_31 flX7_98 rfl (by decide) rfl ?_
            refine k_if_ne (tgt := 40) hX.1 dX7_years_34 (by decide) (by omega) (fun c_34 => ?_) (fun c_34 => ?_)
            · skip
              refine k_aload_n hX.1 dX7_years_40 rfl rfl ?_
              refine k_getr (t := 44) hX.1 dX7_years_41 flX7_43 rfl (by decide) rfl rfl ?_
              refine k_iload_n hX.1 dX7_years_44 rfl rfl ?_
              refine k_i2l hX.1 dX7_years_45 ?_
              refine k_putl hX.1 dX7_years_46 flX7_195 rfl (by decide) rfl ?_
              refine k_iconst hX.1 dX7_years_49 ?_
              refine k_istore hX.1 dX7_years_50 (by decide) rfl rfl ?_
              try simp only [List.set_cons_zero, List.set_cons_succ]
              refine k_iconst hX.1 dX7_years_52 ?_
              refine k_istore hX.1 dX7_years_53 (by decide) rfl rfl ?_
              try simp only [List.set_cons_zero, List.set_cons_succ]
              exact lp_years E hR hW ht hs hw (by omega) (by omega) hX tm.toNat 0 0 _ ⟨by omega, rfl, by rw [Nat.zero_mul]; exact ⟨by simp [wl, sdn], fun _ _ => rfl, fun a b q => by rw [wl_2, if_neg q]⟩⟩
            · skip
              refine k_bipush hX.1 dX7_years_37 (by decide) ?_
              refine k_iret hX dX7_years_39 rfl ?_
              refine ⟨?_, hR, sameM.rf g⟩
              congr 2
              unfold rYears
              first | rw [if_pos (show tm < 1 ∨ 30 < tm ∨ sd < 0 ∨ w < 0 ∨ 1 < w by omega)] | rw [if_neg (show ¬ (tm < 1 ∨ 30 < tm ∨ sd < 0 ∨ w < 0 ∨ 1 < w) by omega), if_pos (show A 12 2 = 0 by omega)]
          · skip
            refine k_bipush hX.1 dX7_years_24 (by decide) ?_
            refine k_iret hX dX7_years_26 rfl ?_
            refine ⟨?_, hR, sameM.rf g⟩
            congr 2
            unfold rYears
            first | rw [if_pos (show tm < 1 ∨ 30 < tm ∨ sd < 0 ∨ w < 0 ∨ 1 < w by omega)] | rw [if_neg (show ¬ (tm < 1 ∨ 30 < tm ∨ sd < 0 ∨ w < 0 ∨ 1 < w) by omega), if_pos (show A 12 2 = 0 by omega)]
