set_option maxRecDepth 100000 in
set_option maxHeartbeats 4000000 in
theorem ch_t0 (E : En) {A : St} {n : Int} (hW : WW A n) {p : Nat} {x : Int} {l : Nat → Int} {s : Int} {c : Nat → Int} {b : BS} {g : Mm} (hp : (p : Int) = A 12 0) (hI : pI A p x l s c b g) (hn : b.1 = 0 ∨ s < b.2.1) {X : Cx} (hX : Wk E mX5_choose X 3 (fun q g' => q = none ∧ pO A p (tr A 0 p x l s c b) g g')) : V E X 16 [some (vR 25), some (vR 3), some (vI (p : Int)), some (vI s), none, none] [] g := by
  obtain ⟨⟨hw1, hw2, hw3, hw4, hw5, hw6, hw7, hw8⟩, hwp, hwl⟩ := id hW
  obtain ⟨i1, i2, i3, i4, i5, i6⟩ := id hI
  obtain ⟨j1, j2, j3, j4, j5⟩ := id i6
  refine k_iload_n hX.1 dX5_choose_16 rfl rfl ?_
  refine k_aload_n hX.1 dX5_choose_17 rfl rfl ?_
  refine k_geti hX.1 dX5_choose_18 flX5_51 rfl (by decide) rfl ?_
  refine k_top (b := A 12 0) i1.1.1 ?_
  refine k_icmp_ge (tgt := 29) hX.1 dX5_choose_21 (by decide) (by omega) (by omega) (fun c_21 => ?_) (fun c_21 => ?_)
  · skip
    refine k_aload_n hX.1 dX5_choose_29 rfl rfl ?_
    refine k_iload_n hX.1 dX5_choose_30 rfl rfl ?_
    refine k_callVp (d2 := 2) (n := 1) (as := [_]) hX.1 dX5_choose_31 lkX5_54 (fit_of hX (by omega) gmX5_keep) rfl rfl (by decide) rfl rfl rfl (Nat.le_of_ble_eq_true rfl) (cN_keep E g) ?_
    refine k_vret hX dX5_choose_34 rfl ?_
    have e1 : ub b s c = (1, s, c) := if_pos hn
    rw [tr, e1]
    refine ⟨rfl, ⟨Or.inr rfl, ?_, ?_, (by show 0 ≤ s ∧ s ≤ 4000; omega), fun _ q hq => ?_⟩, fun a ha => ?_, rfl, fun q hq => ⟨?_, ?_⟩, fun t => ?_⟩
    · dsimp only
      rw [if_neg (by omega), wr_1, if_neg (by omega), wr_at]
    · dsimp only
      rw [if_neg (by omega), wr_at]
    · dsimp only
      rw [if_pos ⟨rfl, by omega⟩]
      exact i4 q (by omega)
    · funext z
      dsimp only
      rw [if_neg (by omega), wr_off (by omega), wr_off (by omega)]
    · dsimp only
      rw [if_neg (by omega), wr_off (by omega), wr_off (by omega)]
    · dsimp only
      rw [if_neg (by omega), wr_off (by omega), wr_off (by omega)]
    · dsimp only
      rw [if_neg (by omega), wr_off (by omega), wr_off (by omega)]
  · skip
    exact absurd c_21 (by omega)

/-- what chooseOf makes of the best -/
def FA (A : St) (r p : Nat) (x : Int) (l : Nat → Int) (s : Int) (c : Nat → Int) (a d : Nat) (b2 : BS) : BS := if hf A p a d ≤ l a ∧ A 1 p - hf A p a d ≤ l d then tr A r (p + 1) (A 8 a + A 8 d) (lf A p a d l) (s + sw A p x (A 8 a + A 8 d)) (fu c p (4 * (a : Int) + d)) b2 else b2
set_option maxRecDepth 100000 in
set_option maxHeartbeats 4000000 in
theorem lp_ch2 (E : En) {A : St} {n : Int} (hW : WW A n) {r : Nat} (ih0 : ChOk E A r) {p : Nat} {x : Int} {l : Nat → Int} {s : Int} {c : Nat → Int} {b : BS} {g : Mm} (hp : (p : Int) + 1 + r = A 12 0) (hI : pI A p x l s c b g) {a : Nat} (ha : (a : Int) < A 12 2) {b1 : BS} {X : Cx} (hX : Wk E mX5_choose X (3 + 3 * (r + 1)) (fun q g' => q = none ∧ pO A p (tr A (r + 1) p x l s c b) g g')) : ∀ (m : Nat) (d : Nat) (h : Mm), m + d = (A 12 2).toNat ∧ pO A p (fN (FA A r p x l s c a) d b1) g h → (∀ h1 : Mm, pO A p (fN (FA A r p x l s c a) (A 12 2).toNat b1) g h1 → V E X 108 [some (vR 25), some (vR 3), some (vI (p : Int)), some (vI s), some (vI (a : Int)), some (vI (A 12 2))] [] h1) → V E X 82 [some (vR 25), some (vR 3), some (vI (p : Int)), some (vI s), some (vI (a : Int)), some (vI (d : Int))] [] h := by
  obtain ⟨⟨hw1, hw2, hw3, hw4, hw5, hw6, hw7, hw8⟩, hwp, hwl⟩ := id hW
  intro m
  induction m with
  | zero =>
    intro d h ⟨hm, hO⟩ hk
    have hdn : (d : Int) = A 12 2 := by omega
    obtain rfl : d = (A 12 2).toNat := by omega
    refine k_iload hX.1 dX5_choose_82 rfl ?_
    refine k_aload_n hX.1 dX5_choose_84 rfl rfl ?_
    refine k_geti hX.1 dX5_choose_85 flX5_32 rfl (by decide) rfl ?_
    refine k_top (b := A 12 2) (hI.go hW hO).1.1.2.1 ?_
    refine k_icmp_ge (tgt := 108) hX.1 dX5_choose_88 (by decide) (by omega) (by omega) (fun c_88 => ?_) (fun c_88 => ?_)
    · skip
      rw [hdn]
      exact hk h hO
    · skip
      exact absurd c_88 (by omega)
  | succ m ih =>
    intro d h ⟨hm, hO⟩ hk
    refine k_iload hX.1 dX5_choose_82 rfl ?_
    refine k_aload_n hX.1 dX5_choose_84 rfl rfl ?_
    refine k_geti hX.1 dX5_choose_85 flX5_32 rfl (by decide) rfl ?_
    refine k_top (b := A 12 2) (hI.go hW hO).1.1.2.1 ?_
    refine k_icmp_ge (tgt := 108) hX.1 dX5_choose_88 (by decide) (by omega) (by omega) (fun c_88 => ?_) (fun c_88 => ?_)
    · skip
      exact absurd c_88 (by omega)
    · skip
      refine k_aload_n hX.1 dX5_choose_91 rfl rfl ?_
      refine k_aload_n hX.1 dX5_choose_92 rfl rfl ?_
      refine k_iload_n hX.1 dX5_choose_93 rfl rfl ?_
      refine k_iload hX.1 dX5_choose_94 rfl ?_
      refine k_iload hX.1 dX5_choose_96 rfl ?_
      refine k_iload_n hX.1 dX5_choose_98 rfl rfl ?_
      refine k_callS (d2 := (3 + 3 * r + 2)) (n := 6) (as := [_, _, _, _, _, _]) hX.1 dX5_choose_99 lkX5_76 (fit_of hX (by omega) gmX5_chooseOf) rfl rfl (Nat.le_of_ble_eq_true rfl) (cN_of E hW ih0 (p := p) (a := a) (d := d) (by omega) ha (by omega) (hI.go hW hO)) (fun r_99 g_99 q_99 => ?_)
      obtain ⟨rfl, hO2⟩ := q_99
      show V E X 102 _ [] _
      refine k_iinc hX.1 dX5_choose_102 rfl (by decide) rfl rfl ?_
      try simp only [List.set_cons_zero, List.set_cons_succ]
      refine k_goto (tgt := 82) hX.1 dX5_choose_105 (by decide) ?_
      exact ih (d + 1) _ ⟨by omega, hO.tr hO2⟩ hk

set_option maxRecDepth 100000 in
set_option maxHeartbeats 4000000 in
theorem lp_ch1 (E : En) {A : St} {n : Int} (hW : WW A n) {r : Nat} (ih0 : ChOk E A r) {p : Nat} {x : Int} {l : Nat → Int} {s : Int} {c : Nat → Int} {b : BS} {g : Mm} (hp : (p : Int) + 1 + r = A 12 0) (hI : pI A p x l s c b g) (ho : A 2 p = -1) {X : Cx} (hX : Wk E mX5_choose X (3 + 3 * (r + 1)) (fun q g' => q = none ∧ pO A p (tr A (r + 1) p x l s c b) g g')) : ∀ (m : Nat) (a : Nat) (h : Mm), m + a = (A 12 2).toNat ∧ pO A p (fN (fun a b1 => fN (FA A r p x l s c a) (A 12 2).toNat b1) a b) g h → V E X 70 [some (vR 25), some (vR 3), some (vI (p : Int)), some (vI s), some (vI (a : Int)), none] [] h := by
  obtain ⟨⟨hw1, hw2, hw3, hw4, hw5, hw6, hw7, hw8⟩, hwp, hwl⟩ := id hW
  intro m
  induction m with
  | zero =>
    intro a h ⟨hm, hO⟩
    obtain rfl : a = (A 12 2).toNat := by omega
    refine k_iload hX.1 dX5_choose_70 rfl ?_
    refine k_aload_n hX.1 dX5_choose_72 rfl rfl ?_
    refine k_geti hX.1 dX5_choose_73 flX5_32 rfl (by decide) rfl ?_
    refine k_top (b := A 12 2) (hI.go hW hO).1.1.2.1 ?_
    refine k_icmp_ge (tgt := 114) hX.1 dX5_choose_76 (by decide) (by omega) (by omega) (fun c_76 => ?_) (fun c_76 => ?_)
    · skip
      refine k_vret hX dX5_choose_114 rfl ?_
      refine ⟨rfl, ?_⟩
      rw [tr, if_pos ho]
      exact hO
    · skip
      exact absurd c_76 (by omega)
  | succ m ih =>
    intro a h ⟨hm, hO⟩
    refine k_iload hX.1 dX5_choose_70 rfl ?_
    refine k_aload_n hX.1 dX5_choose_72 rfl rfl ?_
    refine k_geti hX.1 dX5_choose_73 flX5_32 rfl (by decide) rfl ?_
    refine k_top (b := A 12 2) (hI.go hW hO).1.1.2.1 ?_
    refine k_icmp_ge (tgt := 114) hX.1 dX5_choose_76 (by decide) (by omega) (by omega) (fun c_76 => ?_) (fun c_76 => ?_)
    · skip
      exact absurd c_76 (by omega)
    · skip
      refine k_iconst hX.1 dX5_choose_79 ?_
      refine k_istore hX.1 dX5_choose_80 (by decide) rfl rfl ?_
      try simp only [List.set_cons_zero, List.set_cons_succ]
      refine lp_ch2 E hW ih0 hp hI (a := a) (by omega) hX (A 12 2).toNat 0 h ⟨by omega, hO⟩ (fun h1 hO1 => ?_)
      refine k_iinc hX.1 dX5_choose_108 rfl (by decide) rfl rfl ?_
      refine k_goto (tgt := 70) hX.1 dX5_choose_111 (by decide) ?_
      exact k_sub (by repeat first | exact trivial | refine And.intro rfl ?_) (ih (a + 1) h1 ⟨by omega, hO1⟩)

set_option maxRecDepth 100000 in
set_option maxHeartbeats 4000000 in
theorem ch_ts (E : En) {A : St} {n : Int} (hW : WW A n) {r : Nat} (ih0 : ChOk E A r) {p : Nat} {x : Int} {l : Nat → Int} {s : Int} {c : Nat → Int} {b : BS} {g : Mm} (hp : (p : Int) + 1 + r = A 12 0) (hI : pI A p x l s c b g) {X : Cx} (hX : Wk E mX5_choose X (3 + 3 * (r + 1)) (fun q g' => q = none ∧ pO A p (tr A (r + 1) p x l s c b) g g')) : V E X 16 [some (vR 25), some (vR 3), some (vI (p : Int)), some (vI s), none, none] [] g := by
  obtain ⟨⟨hw1, hw2, hw3, hw4, hw5, hw6, hw7, hw8⟩, hwp, hwl⟩ := id hW
  obtain ⟨i1, i2, i3, i4, i5, i6⟩ := id hI
  obtain ⟨j1, j2, j3, j4, j5⟩ := id i6
  obtain ⟨e0, e1, e2, e3, e4, e5, e6, e7⟩ := i1.2.1 p (by omega)
  obtain ⟨-, -, ew2, -⟩ := hwp p (by omega)
  by_cases ho : A 2 p = -1
  · skip
    refine k_iload_n hX.1 dX5_choose_16 rfl rfl ?_
    refine k_aload_n hX.1 dX5_choose_17 rfl rfl ?_
    refine k_geti hX.1 dX5_choose_18 flX5_51 rfl (by decide) rfl ?_
    refine k_top (b := A 12 0) i1.1.1 ?_
    refine k_icmp_ge (tgt := 29) hX.1 dX5_choose_21 (by decide) (by omega) (by omega) (fun c_21 => ?_) (fun c_21 => ?_)
    · skip
      exact absurd c_21 (by omega)
    · skip
      refine k_iload_n hX.1 dX5_choose_24 rfl rfl ?_
      refine k_iconst hX.1 dX5_choose_25 ?_
      refine k_icmp_lt (tgt := 35) hX.1 dX5_choose_26 (by decide) (by omega) (by omega) (fun c_26 => ?_) (fun c_26 => ?_)
      · skip
        refine k_aload_n hX.1 dX5_choose_35 rfl rfl ?_
        refine k_getr (t := 4) hX.1 dX5_choose_36 flX5_58 rfl (by decide) rfl rfl ?_
        refine k_iload_n hX.1 dX5_choose_39 rfl rfl ?_
        refine k_aaldP (j := p) (q := 6 + p) hX.1 dX5_choose_40 rfl (by omega) (n := 5) rfl (by omega) (by omega) rfl ?_
        refine k_callVf (d2 := 1) (n := 0) (as := []) hX.1 dX5_choose_41 lkX5_62 (fit_of hX (by omega) gmX4_isKnitted) rfl (sk_P6 (by omega)) (by decide) rfl rfl rfl (Nat.le_of_ble_eq_true rfl) (cP_isKnitted E g (p := p) (by omega) (by omega)) ?_
        refine k_if_eq (tgt := 67) hX.1 dX5_choose_44 (by decide) (by split <;> omega) (fun c_44 => ?_) (fun c_44 => ?_)
        · skip
          refine k_iconst hX.1 dX5_choose_67 ?_
          refine k_istore hX.1 dX5_choose_68 (by decide) rfl rfl ?_
          try simp only [List.set_cons_zero, List.set_cons_succ]
          exact lp_ch1 E hW ih0 hp hI ho hX (A 12 2).toNat 0 g ⟨by omega, pO.rf i6⟩
        · skip
          exact absurd (if_pos (by omega)) c_44
      · skip
        exact absurd c_26 (by omega)
  · have tb := (tn_bd hW (p := p) (by omega)).2 ho
    refine k_iload_n hX.1 dX5_choose_16 rfl rfl ?_
    refine k_aload_n hX.1 dX5_choose_17 rfl rfl ?_
    refine k_geti hX.1 dX5_choose_18 flX5_51 rfl (by decide) rfl ?_
    refine k_top (b := A 12 0) i1.1.1 ?_
    refine k_icmp_ge (tgt := 29) hX.1 dX5_choose_21 (by decide) (by omega) (by omega) (fun c_21 => ?_) (fun c_21 => ?_)
    · skip
      exact absurd c_21 (by omega)
    · skip
      refine k_iload_n hX.1 dX5_choose_24 rfl rfl ?_
      refine k_iconst hX.1 dX5_choose_25 ?_
      refine k_icmp_lt (tgt := 35) hX.1 dX5_choose_26 (by decide) (by omega) (by omega) (fun c_26 => ?_) (fun c_26 => ?_)
      · skip
        refine k_aload_n hX.1 dX5_choose_35 rfl rfl ?_
        refine k_getr (t := 4) hX.1 dX5_choose_36 flX5_58 rfl (by decide) rfl rfl ?_
        refine k_iload_n hX.1 dX5_choose_39 rfl rfl ?_
        refine k_aaldP (j := p) (q := 6 + p) hX.1 dX5_choose_40 rfl (by omega) (n := 5) rfl (by omega) (by omega) rfl ?_
        refine k_callVf (d2 := 1) (n := 0) (as := []) hX.1 dX5_choose_41 lkX5_62 (fit_of hX (by omega) gmX4_isKnitted) rfl (sk_P6 (by omega)) (by decide) rfl rfl rfl (Nat.le_of_ble_eq_true rfl) (cP_isKnitted E g (p := p) (by omega) (by omega)) ?_
        refine k_if_eq (tgt := 67) hX.1 dX5_choose_44 (by decide) (by split <;> omega) (fun c_44 => ?_) (fun c_44 => ?_)
        · skip
          rw [if_neg (by omega)] at c_44; exact absurd c_44 (by decide)
        · skip
          refine k_aload_n hX.1 dX5_choose_47 rfl rfl ?_
          refine k_getr (t := 26) hX.1 dX5_choose_48 flX5_9 rfl (by decide) rfl rfl ?_
          refine k_iload_n hX.1 dX5_choose_51 rfl rfl ?_
          refine k_iconst hX.1 dX5_choose_52 ?_
          refine k_iast (j := p) hX.1 dX5_choose_53 rfl (by omega) (n := 5) rfl (by omega) (by omega) ?_
          refine k_aload_n hX.1 dX5_choose_54 rfl rfl ?_
          refine k_aload_n hX.1 dX5_choose_55 rfl rfl ?_
          refine k_iload_n hX.1 dX5_choose_56 rfl rfl ?_
          refine k_aload_n hX.1 dX5_choose_57 rfl rfl ?_
          refine k_iload_n hX.1 dX5_choose_58 rfl rfl ?_
          refine k_callVf (d2 := 2) (n := 1) (as := [_]) hX.1 dX5_choose_59 lkX5_68 (fit_of hX (by omega) gmX6_tone) rfl rfl (by decide) rfl rfl rfl (Nat.le_of_ble_eq_true rfl) (cW_tone E (CW_p i1 hW (h := wr g 26 p (-1)) (fun a ha => wr_off (by omega))) hW (p := p) (by omega)) ?_
          refine k_iload_n hX.1 dX5_choose_62 rfl rfl ?_
          have hI2 : pI A p x l s c b (wr g 26 p (-1)) := ⟨CW_p i1 hW (fun a ha => wr_off (by omega)), fun t ht => by rw [wr_off (by omega)]; exact i2 t ht, fun q => by rw [wr_off (by omega)]; exact i3 q, fun q hq => by rw [wr_1, if_neg (by omega)]; exact i4 q hq, i5, bR_w i6 (by omega)⟩
          refine k_callS (d2 := (3 + 3 * r + 1)) (n := 5) (as := [_, _, _, _, _]) hX.1 dX5_choose_63 lkX5_72 (fit_of hX (by omega) gmX5_goOn) rfl rfl (Nat.le_of_ble_eq_true rfl) (cN_goOn E hW ih0 (p := p) (x := x) (y := tn A p) (by omega) hI2 tb (wr_at)) (fun r_63 g_63 q_63 => ?_)
          obtain ⟨rfl, z1, z2, z3, z4, z5⟩ := q_63
          show V E X 66 _ [] _
          refine k_vret hX dX5_choose_66 rfl ?_
          rw [tr, if_neg ho]
          exact ⟨rfl, z1, fun a ha => by rw [z2 a ha, wr_off (by omega)], z3, fun q hq => by rw [(z4 q hq).1, (z4 q hq).2, wr_1, if_neg (by omega), wr_off (by omega)]; exact ⟨rfl, rfl⟩, fun t => by rw [z5 t, wr_off (by omega)]⟩
      · skip
        exact absurd c_26 (by omega)

set_option maxRecDepth 100000 in
set_option maxHeartbeats 4000000 in
theorem ch_0 (E : En) {A : St} {n : Int} (hW : WW A n) {p : Nat} {x : Int} {l : Nat → Int} {s : Int} {c : Nat → Int} {b : BS} {g : Mm} (hp : (p : Int) = A 12 0) (hI : pI A p x l s c b g) : Ok E 3 mX5_choose [vR 25, vR 3, vI (p : Int), vI s] g (fun q g' => q = none ∧ pO A p (tr A 0 p x l s c b) g g') := by
  obtain ⟨⟨hw1, hw2, hw3, hw4, hw5, hw6, hw7, hw8⟩, hwp, hwl⟩ := id hW
  obtain ⟨i1, i2, i3, i4, i5, i6⟩ := id hI
  obtain ⟨j1, j2, j3, j4, j5⟩ := id i6
  refine Ok_of gmX5_choose (by omega) (Nat.le_of_ble_eq_true rfl) (fun X hX => ?_)
  show V E X 0 [some (vR 25), some (vR 3), some (vI (p : Int)), some (vI s), none, none] [] g
  by_cases hpr : b.1 = 1 ∧ b.2.1 ≤ s
  · skip
    have e1 : tr A 0 p x l s c b = b := tr_prune hW hpr.1 0 p x l s c (by omega) hpr.2 (fun q => (i3 q).2)
    refine k_aload_n hX.1 dX5_choose_0 rfl rfl ?_
    refine k_getz hX.1 dX5_choose_1 flX5_24 rfl (by decide) rfl ?_
    refine k_top (b := b.1) j2 ?_
    refine k_if_eq (tgt := 16) hX.1 dX5_choose_4 (by decide) (by omega) (fun c_4 => ?_) (fun c_4 => ?_)
    · skip
      exact absurd c_4 (by omega)
    · skip
      refine k_iload_n hX.1 dX5_choose_7 rfl rfl ?_
      refine k_aload_n hX.1 dX5_choose_8 rfl rfl ?_
      refine k_geti hX.1 dX5_choose_9 flX5_28 rfl (by decide) rfl ?_
      refine k_top (b := b.2.1) j3 ?_
      refine k_icmp_lt (tgt := 16) hX.1 dX5_choose_12 (by decide) (by omega) (by omega) (fun c_12 => ?_) (fun c_12 => ?_)
      · skip
        exact absurd c_12 (by omega)
      · skip
        refine k_vret hX dX5_choose_15 rfl ?_
        rw [e1]
        exact ⟨rfl, pO.rf i6⟩
  · skip
    by_cases hz : b.1 = 0
    · skip
      refine k_aload_n hX.1 dX5_choose_0 rfl rfl ?_
      refine k_getz hX.1 dX5_choose_1 flX5_24 rfl (by decide) rfl ?_
      refine k_top (b := b.1) j2 ?_
      refine k_if_eq (tgt := 16) hX.1 dX5_choose_4 (by decide) (by omega) (fun c_4 => ?_) (fun c_4 => ?_)
      · skip
        exact ch_t0 E hW (by omega) hI (by omega) hX
      · skip
        exact absurd c_4 (by omega)
    · skip
      refine k_aload_n hX.1 dX5_choose_0 rfl rfl ?_
      refine k_getz hX.1 dX5_choose_1 flX5_24 rfl (by decide) rfl ?_
      refine k_top (b := b.1) j2 ?_
      refine k_if_eq (tgt := 16) hX.1 dX5_choose_4 (by decide) (by omega) (fun c_4 => ?_) (fun c_4 => ?_)
      · skip
        exact absurd c_4 (by omega)
      · skip
        refine k_iload_n hX.1 dX5_choose_7 rfl rfl ?_
        refine k_aload_n hX.1 dX5_choose_8 rfl rfl ?_
        refine k_geti hX.1 dX5_choose_9 flX5_28 rfl (by decide) rfl ?_
        refine k_top (b := b.2.1) j3 ?_
        refine k_icmp_lt (tgt := 16) hX.1 dX5_choose_12 (by decide) (by omega) (by omega) (fun c_12 => ?_) (fun c_12 => ?_)
        · skip
          exact ch_t0 E hW (by omega) hI (by omega) hX
        · skip
          exact absurd c_12 (by omega)

set_option maxRecDepth 100000 in
set_option maxHeartbeats 4000000 in
theorem ch_s (E : En) {A : St} {n : Int} (hW : WW A n) {r : Nat} (ih0 : ChOk E A r) {p : Nat} {x : Int} {l : Nat → Int} {s : Int} {c : Nat → Int} {b : BS} {g : Mm} (hp : (p : Int) + 1 + r = A 12 0) (hI : pI A p x l s c b g) : Ok E (3 + 3 * (r + 1)) mX5_choose [vR 25, vR 3, vI (p : Int), vI s] g (fun q g' => q = none ∧ pO A p (tr A (r + 1) p x l s c b) g g') := by
  obtain ⟨⟨hw1, hw2, hw3, hw4, hw5, hw6, hw7, hw8⟩, hwp, hwl⟩ := id hW
  obtain ⟨i1, i2, i3, i4, i5, i6⟩ := id hI
  obtain ⟨j1, j2, j3, j4, j5⟩ := id i6
  refine Ok_of gmX5_choose (by omega) (Nat.le_of_ble_eq_true rfl) (fun X hX => ?_)
  show V E X 0 [some (vR 25), some (vR 3), some (vI (p : Int)), some (vI s), none, none] [] g
  by_cases hpr : b.1 = 1 ∧ b.2.1 ≤ s
  · skip
    have e1 : tr A (r + 1) p x l s c b = b := tr_prune hW hpr.1 (r + 1) p x l s c (by omega) hpr.2 (fun q => (i3 q).2)
    refine k_aload_n hX.1 dX5_choose_0 rfl rfl ?_
    refine k_getz hX.1 dX5_choose_1 flX5_24 rfl (by decide) rfl ?_
    refine k_top (b := b.1) j2 ?_
    refine k_if_eq (tgt := 16) hX.1 dX5_choose_4 (by decide) (by omega) (fun c_4 => ?_) (fun c_4 => ?_)
    · skip
      exact absurd c_4 (by omega)
    · skip
      refine k_iload_n hX.1 dX5_choose_7 rfl rfl ?_
      refine k_aload_n hX.1 dX5_choose_8 rfl rfl ?_
      refine k_geti hX.1 dX5_choose_9 flX5_28 rfl (by decide) rfl ?_
      refine k_top (b := b.2.1) j3 ?_
      refine k_icmp_lt (tgt := 16) hX.1 dX5_choose_12 (by decide) (by omega) (by omega) (fun c_12 => ?_) (fun c_12 => ?_)
      · skip
        exact absurd c_12 (by omega)
      · skip
        refine k_vret hX dX5_choose_15 rfl ?_
        rw [e1]
        exact ⟨rfl, pO.rf i6⟩
  · skip
    by_cases hz : b.1 = 0
    · skip
      refine k_aload_n hX.1 dX5_choose_0 rfl rfl ?_
      refine k_getz hX.1 dX5_choose_1 flX5_24 rfl (by decide) rfl ?_
      refine k_top (b := b.1) j2 ?_
      refine k_if_eq (tgt := 16) hX.1 dX5_choose_4 (by decide) (by omega) (fun c_4 => ?_) (fun c_4 => ?_)
      · skip
        exact ch_ts E hW ih0 hp hI hX
      · skip
        exact absurd c_4 (by omega)
    · skip
      refine k_aload_n hX.1 dX5_choose_0 rfl rfl ?_
      refine k_getz hX.1 dX5_choose_1 flX5_24 rfl (by decide) rfl ?_
      refine k_top (b := b.1) j2 ?_
      refine k_if_eq (tgt := 16) hX.1 dX5_choose_4 (by decide) (by omega) (fun c_4 => ?_) (fun c_4 => ?_)
      · skip
        exact absurd c_4 (by omega)
      · skip
        refine k_iload_n hX.1 dX5_choose_7 rfl rfl ?_
        refine k_aload_n hX.1 dX5_choose_8 rfl rfl ?_
        refine k_geti hX.1 dX5_choose_9 flX5_28 rfl (by decide) rfl ?_
        refine k_top (b := b.2.1) j3 ?_
        refine k_icmp_lt (tgt := 16) hX.1 dX5_choose_12 (by decide) (by omega) (by omega) (fun c_12 => ?_) (fun c_12 => ?_)
        · skip
          exact ch_ts E hW ih0 hp hI hX
        · skip
          exact absurd c_12 (by omega)

theorem ch_all {E : En} {A : St} {n : Int} (hW : WW A n) : ∀ r : Nat, ChOk E A r
  | 0 => fun p x l s c b g hp hI => ch_0 E hW (by omega) hI
  | r + 1 => fun p x l s c b g hp hI => ch_s E hW (ch_all hW r) (by omega) hI
def lp0 (A : St) : BS := tr A (A 12 0).toNat 0 0 (rws A) 0 (fun _ => 0) (0, 0, fun _ => 0)
set_option maxRecDepth 100000 in
set_option maxHeartbeats 4000000 in
theorem lp_search (E : En) {A : St} {g : Mm} {n : Int} (hC : CW A g) (hW : WW A n) {X : Cx} (hX : Wk E mX5_search X 19 (fun q g' => q = none ∧ bR A (lp0 A) g' ∧ (∀ a, (a < 25 ∨ 29 < a) → g'.1 a = g.1 a) ∧ g'.2 = g.2)) : ∀ (m : Nat) (t : Nat) (h : Mm), (m + t = (A 12 2).toNat ∧ (∀ q, q < t → h.1 29 q = rws A q) ∧ h.1 25 4 = 0 ∧ h.1 25 5 = 0 ∧ (∀ a, (a < 25 ∨ 29 < a) → h.1 a = g.1 a) ∧ h.2 = g.2) → V E X 12 [some (vR 25), some (vR 3), some (vI (t : Int))] [] h := by
  obtain ⟨⟨hw1, hw2, hw3, hw4, hw5, hw6, hw7, hw8⟩, hwp, hwl⟩ := id hW
  intro m
  induction m with
  | zero =>
    intro t h ⟨hm, hl, h4, h5, hf, h2⟩
    obtain rfl : t = (A 12 2).toNat := by omega
    have hCh := CW_p hC hW (fun a ha => hf a (by omega))
    have hI : pI A 0 0 (rws A) 0 (fun _ => 0) (0, 0, fun _ => 0) h := ⟨hCh, fun t ht => ⟨hl t (by omega), by have := hwl t ht; obtain ⟨-, z2, z3⟩ := this; unfold rws; omega⟩, fun q => absurd q (by omega), fun q hq => absurd hq (Nat.not_lt_zero q), by omega, Or.inl rfl, h4, h5, ⟨Int.le_refl 0, (by decide)⟩, fun q => absurd q (by decide)⟩
    refine k_iload_n hX.1 dX5_search_12 rfl rfl ?_
    refine k_aload_n hX.1 dX5_search_13 rfl rfl ?_
    refine k_geti hX.1 dX5_search_14 flX5_32 rfl (by decide) rfl ?_
    refine k_top (b := A 12 2) (by rw [hf 3 (by omega)]; exact hC.1.2.1) ?_
    refine k_icmp_ge (tgt := 41) hX.1 dX5_search_17 (by decide) (by omega) (by omega) (fun c_17 => ?_) (fun c_17 => ?_)
    · skip
      refine k_aload_n hX.1 dX5_search_41 rfl rfl ?_
      refine k_aload_n hX.1 dX5_search_42 rfl rfl ?_
      refine k_iconst hX.1 dX5_search_43 ?_
      refine k_iconst hX.1 dX5_search_44 ?_
      refine k_callS (d2 := (3 + 3 * (A 12 0).toNat)) (n := 4) (as := [_, _, _, _]) hX.1 dX5_search_45 lkX5_47 (fit_of hX (by omega) gmX5_choose) rfl rfl (Nat.le_of_ble_eq_true rfl) (ch_all (E := E) hW (A 12 0).toNat 0 0 (rws A) 0 (fun _ => 0) (0, 0, fun _ => 0) h (by omega) hI) (fun r_45 g_45 q_45 => ?_)
      obtain ⟨rfl, z1, z2, z3, z4, z5⟩ := q_45
      show V E X 48 _ [] _
      refine k_vret hX dX5_search_48 rfl ?_
      exact ⟨rfl, z1, fun a ha => (z2 a ha).trans (hf a ha), z3.trans h2⟩
    · skip
      exact absurd c_17 (by omega)
  | succ m ih =>
    intro t h ⟨hm, hl, h4, h5, hf, h2⟩
    refine k_iload_n hX.1 dX5_search_12 rfl rfl ?_
    refine k_aload_n hX.1 dX5_search_13 rfl rfl ?_
    refine k_geti hX.1 dX5_search_14 flX5_32 rfl (by decide) rfl ?_
    refine k_top (b := A 12 2) (by rw [hf 3 (by omega)]; exact hC.1.2.1) ?_
    refine k_icmp_ge (tgt := 41) hX.1 dX5_search_17 (by decide) (by omega) (by omega) (fun c_17 => ?_) (fun c_17 => ?_)
    · skip
      exact absurd c_17 (by omega)
    · skip
      refine k_aload_n hX.1 dX5_search_20 rfl rfl ?_
      refine k_getr (t := 29) hX.1 dX5_search_21 flX5_21 rfl (by decide) rfl rfl ?_
      refine k_iload_n hX.1 dX5_search_24 rfl rfl ?_
      refine k_aload_n hX.1 dX5_search_25 rfl rfl ?_
      refine k_getr (t := 5) hX.1 dX5_search_26 flX5_37 rfl (by decide) rfl rfl ?_
      refine k_iload_n hX.1 dX5_search_29 rfl rfl ?_
      refine k_aaldL (j := t) (q := 11 + t) hX.1 dX5_search_30 rfl (by omega) (n := 3) rfl (by omega) (by omega) rfl ?_
      refine k_callVf (d2 := 1) (n := 0) (as := []) hX.1 dX5_search_31 lkX5_41 (fit_of hX (by omega) gmX2_rows) rfl (sk_L11 (by omega)) (by decide) rfl rfl rfl (Nat.le_of_ble_eq_true rfl) (cL_rows E h (t := t) (by omega)) ?_
      refine k_top (show _ = rws A t by rw [hf (11 + t) (by omega), (hC.2.2 t (by omega)).2.1, (hC.2.2 t (by omega)).2.2]; rfl) ?_
      refine k_iast (j := t) hX.1 dX5_search_34 rfl (by omega) (n := 3) rfl (by omega) (by omega) ?_
      refine k_iinc hX.1 dX5_search_35 rfl (by decide) rfl rfl ?_
      try simp only [List.set_cons_zero, List.set_cons_succ]
      refine k_goto (tgt := 12) hX.1 dX5_search_38 (by decide) ?_
      exact ih (t + 1) _ ⟨by omega, fun q hq => by
        by_cases e : q = t
        · subst e; rw [wr_at]
        · rw [wr_1, if_neg (by omega)]; exact hl q (by omega), by rw [wr_off (by omega)]; exact h4, by rw [wr_off (by omega)]; exact h5, fun a ha => by rw [wr_off (by omega)]; exact hf a ha, h2⟩

set_option maxRecDepth 100000 in
set_option maxHeartbeats 4000000 in
theorem cN_search (E : En) {A : St} {g : Mm} {n : Int} (hC : CW A g) (hW : WW A n) : Ok E 19 mX5_search [vR 25, vR 3] g (fun q g' => q = none ∧ bR A (lp0 A) g' ∧ (∀ a, (a < 25 ∨ 29 < a) → g'.1 a = g.1 a) ∧ g'.2 = g.2) := by
  obtain ⟨⟨hw1, hw2, hw3, hw4, hw5, hw6, hw7, hw8⟩, hwp, hwl⟩ := id hW
  refine Ok_of gmX5_search (by omega) (Nat.le_of_ble_eq_true rfl) (fun X hX => ?_)
  show V E X 0 [some (vR 25), some (vR 3), none] [] g
  refine k_aload_n hX.1 dX5_search_0 rfl rfl ?_
  refine k_iconst hX.1 dX5_search_1 ?_
  refine k_putz hX.1 dX5_search_2 flX5_24 rfl (by decide) rfl (by omega) ?_
  refine k_aload_n hX.1 dX5_search_5 rfl rfl ?_
  refine k_iconst hX.1 dX5_search_6 ?_
  refine k_puti hX.1 dX5_search_7 flX5_28 rfl (by decide) rfl ?_
  refine k_iconst hX.1 dX5_search_10 ?_
  refine k_istore_n hX.1 dX5_search_11 rfl (by decide) rfl rfl ?_
  try simp only [List.set_cons_zero, List.set_cons_succ]
  exact lp_search E hC hW hX (A 12 2).toNat 0 _ ⟨by omega, fun q hq => absurd hq (Nat.not_lt_zero q), by rw [wr_1, if_neg (by omega), wr_at], by rw [wr_at], fun a ha => by rw [wr_off (by omega), wr_off (by omega)], rfl⟩
