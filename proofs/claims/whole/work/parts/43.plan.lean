/-! ===== plans ===== -/
/-- the best so far: whether there is one, what is seen by it, its numbers -/
abbrev BS : Type := Int × Int × (Nat → Int)
def fu (f : Nat → Int) (k : Nat) (v : Int) : Nat → Int := fun j => if j = k then v else f j
theorem fu_at (f : Nat → Int) (k : Nat) (v : Int) : fu f k v k = v := if_pos rfl
theorem fu_ne (f : Nat → Int) {k j : Nat} (v : Int) (h : j ≠ k) : fu f k v j = f j := if_neg h
def ub (b : BS) (s : Int) (c : Nat → Int) : BS := if b.1 = 0 ∨ s < b.2.1 then (1, s, c) else b
def fN (f : Nat → BS → BS) : Nat → BS → BS
  | 0, b => b
  | n + 1, b => f n (fN f n b)
def sw (A : St) (p : Nat) (x y : Int) : Int := if p = 0 then 0 else s2 A (p - 1) x y
/-- rows left when part p is made of a and d -/
def lf (A : St) (p a d : Nat) (l : Nat → Int) : Nat → Int := fu (fu l a (l a - hf A p a d)) d (fu l a (l a - hf A p a d) d - (A 1 p - hf A p a d))
/-- all plans of r parts from p on, in their order -/
def tr (A : St) : Nat → Nat → Int → (Nat → Int) → Int → (Nat → Int) → BS → BS
  | 0, _, _, _, s, c, b => ub b s c
  | r + 1, p, x, l, s, c, b => if A 2 p = -1 then fN (fun a b1 => fN (fun d b2 => if hf A p a d ≤ l a ∧ A 1 p - hf A p a d ≤ l d then tr A r (p + 1) (A 8 a + A 8 d) (lf A p a d l) (s + sw A p x (A 8 a + A 8 d)) (fu c p (4 * (a : Int) + d)) b2 else b2) (A 12 2).toNat b1) (A 12 2).toNat b else tr A r (p + 1) (tn A p) l (s + sw A p x (tn A p)) (fu c p (-1)) b
theorem sw_bd {A : St} {p : Nat} {x y : Int} (hx : 0 ≤ x ∧ x ≤ 40) (hy : 0 ≤ y ∧ y ≤ 40) : 0 ≤ sw A p x y ∧ sw A p x y ≤ 320 := by
  unfold sw
  split
  · omega
  · have := s2_bd (A := A) (p := p - 1) (a := x) (b := y) (c := 40) (by omega)
    omega
theorem fN_id {f : Nat → BS → BS} {b : BS} : ∀ {n : Nat}, (∀ i, i < n → f i b = b) → fN f n b = b
  | 0, _ => rfl
  | n + 1, h => by rw [fN, fN_id (fun i hi => h i (by omega)), h n (by omega)]
/-- as much is seen as by the best: nothing behind changes it -/
theorem tr_prune {A : St} {n : Int} (hW : WW A n) {b : BS} (hb : b.1 = 1) : ∀ (r p : Nat) (x : Int) (l : Nat → Int) (s : Int) (c : Nat → Int), (p : Int) + r = A 12 0 → b.2.1 ≤ s → (1 ≤ p → 0 ≤ x ∧ x ≤ 40) → tr A r p x l s c b = b
  | 0, p, x, l, s, c, _, hs, _ => by
    unfold tr ub
    rw [if_neg (by omega)]
  | r + 1, p, x, l, s, c, hp, hs, hx => by
    have sw0 : ∀ y, 0 ≤ y ∧ y ≤ 40 → 0 ≤ sw A p x y := fun y hy => by
      by_cases e : p = 0
      · simp [sw, e]
      · exact (sw_bd (hx (by omega)) hy).1
    have hp1 : ((p + 1 : Nat) : Int) + r = A 12 0 := by omega
    unfold tr
    split
    · refine fN_id fun a ha => fN_id fun d hd => ?_
      have h1 := (hW.2.2 a (by omega)).1
      have h2 := (hW.2.2 d (by omega)).1
      have h3 : 0 ≤ A 8 a + A 8 d ∧ A 8 a + A 8 d ≤ 40 := by omega
      split
      · have := sw0 _ h3
        exact tr_prune hW hb r (p + 1) _ _ _ _ hp1 (by omega) (fun _ => h3)
      · rfl
    · rename_i ho
      have h3 := (tn_bd hW (p := p) (by omega)).2 ho
      have := sw0 _ h3
      exact tr_prune hW hb r (p + 1) _ _ _ _ hp1 (by omega) (fun _ => h3)
def bR (A : St) (b : BS) (g : Mm) : Prop := (b.1 = 0 ∨ b.1 = 1) ∧ g.1 25 4 = b.1 ∧ g.1 25 5 = b.2.1 ∧ (0 ≤ b.2.1 ∧ b.2.1 ≤ 4000) ∧ (b.1 = 1 → ∀ q : Nat, (q : Int) < A 12 0 → g.1 27 q = b.2.2 q)
/-- the planner's cells at part p -/
def pI (A : St) (p : Nat) (x : Int) (l : Nat → Int) (s : Int) (c : Nat → Int) (b : BS) (g : Mm) : Prop := CW A g ∧ (∀ t : Nat, (t : Int) < A 12 2 → g.1 29 t = l t ∧ 0 ≤ l t ∧ l t ≤ 20000) ∧ (1 ≤ p → g.1 28 (p - 1) = x ∧ 0 ≤ x ∧ x ≤ 40) ∧ (∀ q, q < p → g.1 26 q = c q) ∧ (0 ≤ s ∧ s ≤ 400 * p) ∧ bR A b g
def pO (A : St) (p : Nat) (b : BS) (g h : Mm) : Prop := bR A b h ∧ (∀ a, (a < 25 ∨ 29 < a) → h.1 a = g.1 a) ∧ h.2 = g.2 ∧ (∀ q, q < p → h.1 26 q = g.1 26 q ∧ h.1 28 q = g.1 28 q) ∧ ∀ t, h.1 29 t = g.1 29 t
theorem pO.rf {A : St} {p : Nat} {b : BS} {g : Mm} (h : bR A b g) : pO A p b g g := ⟨h, fun _ _ => rfl, rfl, fun _ _ => ⟨rfl, rfl⟩, fun _ => rfl⟩
theorem pO.tr {A : St} {p : Nat} {b c : BS} {g h k : Mm} (h1 : pO A p b g h) (h2 : pO A p c h k) : pO A p c g k := ⟨h2.1, fun a ha => (h2.2.1 a ha).trans (h1.2.1 a ha), h2.2.2.1.trans h1.2.2.1, fun q hq => ⟨(h2.2.2.2.1 q hq).1.trans (h1.2.2.2.1 q hq).1, (h2.2.2.2.1 q hq).2.trans (h1.2.2.2.1 q hq).2⟩, fun t => (h2.2.2.2.2 t).trans (h1.2.2.2.2 t)⟩
theorem CW_p {A : St} {g h : Mm} {n : Int} (hC : CW A g) (hW : WW A n) (hf : ∀ a, a < 25 → h.1 a = g.1 a) : CW A h := CW_fr hC (fun a h1 h2 => hf a (by omega)) ⟨rfl, rfl, rfl⟩ (fun _ _ _ _ => rfl) (fun _ _ _ _ _ => rfl) hW.1.2.1 hW.1.2.2.2.1
theorem pI.go {A : St} {n : Int} {p : Nat} {x : Int} {l : Nat → Int} {s : Int} {c : Nat → Int} {b b' : BS} {g h : Mm} (hW : WW A n) (h1 : pI A p x l s c b g) (h2 : pO A p b' g h) : pI A p x l s c b' h := ⟨CW_p h1.1 hW (fun a ha => h2.2.1 a (by omega)), fun t ht => by rw [h2.2.2.2.2 t]; exact h1.2.1 t ht, fun hp => by rw [(h2.2.2.2.1 (p - 1) (by omega)).2]; exact h1.2.2.1 hp, fun q hq => by rw [(h2.2.2.2.1 q hq).1]; exact h1.2.2.2.1 q hq, h1.2.2.2.2.1, h2.1⟩
def ChOk (E : En) (A : St) (r : Nat) : Prop := ∀ (p : Nat) (x : Int) (l : Nat → Int) (s : Int) (c : Nat → Int) (b : BS) (g : Mm), (p : Int) + r = A 12 0 → pI A p x l s c b g → Ok E (3 + 3 * r) mX5_choose [vR 25, vR 3, vI (p : Int), vI s] g (fun q g' => q = none ∧ pO A p (tr A r p x l s c b) g g')
set_option maxRecDepth 100000 in
set_option maxHeartbeats 4000000 in
theorem cN_keep (E : En) (g : Mm) {s : Int} : Pr E 2 mX5_keep [vR 25, vI s] g ((fun a b => if a = 27 ∧ b < 5 then g.1 26 b else (wr (wr g 25 4 1) 25 5 s).1 a b, g.2)) := by
  refine Ok_of gmX5_keep (by omega) (Nat.le_of_ble_eq_true rfl) (fun X hX => ?_)
  show V E X 0 [some (vR 25), some (vI s)] [] g
  refine k_aload_n hX.1 dX5_keep_0 rfl rfl ?_
  refine k_iconst hX.1 dX5_keep_1 ?_
  refine k_putz hX.1 dX5_keep_2 flX5_24 rfl (by decide) rfl (by omega) ?_
  refine k_aload_n hX.1 dX5_keep_5 rfl rfl ?_
  refine k_iload_n hX.1 dX5_keep_6 rfl rfl ?_
  refine k_puti hX.1 dX5_keep_7 flX5_28 rfl (by decide) rfl ?_
  refine k_aload_n hX.1 dX5_keep_10 rfl rfl ?_
  refine k_getr (t := 26) hX.1 dX5_keep_11 flX5_9 rfl (by decide) rfl rfl ?_
  refine k_iconst hX.1 dX5_keep_14 ?_
  refine k_aload_n hX.1 dX5_keep_15 rfl rfl ?_
  refine k_getr (t := 27) hX.1 dX5_keep_16 flX5_15 rfl (by decide) rfl rfl ?_
  refine k_iconst hX.1 dX5_keep_19 ?_
  refine k_iconst hX.1 dX5_keep_20 ?_
  refine k_acopy hX.1 dX5_keep_21 lkX5_92 (Nat.le_of_ble_eq_true rfl) ?_
  refine k_vret hX dX5_keep_24 rfl ?_
  refine ⟨rfl, Prod.ext ?_ rfl⟩
  funext a b
  show (if a = 27 ∧ b < 5 then (wr (wr g 25 4 1) 25 5 s).1 26 b else _) = _
  rw [wr_off (show (26 : Nat) ≠ 25 by omega), wr_off (show (26 : Nat) ≠ 25 by omega)]

set_option maxRecDepth 100000 in
set_option maxHeartbeats 4000000 in
theorem cN_goOn (E : En) {A : St} {n : Int} (hW : WW A n) {r : Nat} (ih : ChOk E A r) {p : Nat} {x y : Int} {l : Nat → Int} {s : Int} {c : Nat → Int} {b : BS} {g : Mm} (hp : (p : Int) + 1 + r = A 12 0) (hI : pI A p x l s c b g) (hy : 0 ≤ y ∧ y ≤ 40) {v : Int} (hv : g.1 26 p = v) : Ok E (3 + 3 * r + 1) mX5_goOn [vR 25, vR 3, vI (p : Int), vI y, vI s] g (fun q g' => q = none ∧ pO A p (tr A r (p + 1) y l (s + sw A p x y) (fu c p v) b) g g') := by
  obtain ⟨⟨hw1, hw2, hw3, hw4, hw5, hw6, hw7, hw8⟩, hwp, hwl⟩ := id hW
  obtain ⟨i1, i2, i3, i4, i5, i6⟩ := id hI
  refine Ok_of gmX5_goOn (by omega) (Nat.le_of_ble_eq_true rfl) (fun X hX => ?_)
  show V E X 0 [some (vR 25), some (vR 3), some (vI (p : Int)), some (vI y), some (vI s), none] [] g
  by_cases hz : p = 0
  · skip
    have e0 : sw A p x y = 0 := by rw [sw, if_pos hz]
    refine k_aload_n hX.1 dX5_goOn_0 rfl rfl ?_
    refine k_getr (t := 28) hX.1 dX5_goOn_1 flX5_18 rfl (by decide) rfl rfl ?_
    refine k_iload_n hX.1 dX5_goOn_4 rfl rfl ?_
    refine k_iload_n hX.1 dX5_goOn_5 rfl rfl ?_
    refine k_iast (j := p) hX.1 dX5_goOn_6 rfl (by omega) (n := 5) rfl (by omega) (by omega) ?_
    refine k_iload_n hX.1 dX5_goOn_7 rfl rfl ?_
    refine k_if_le (tgt := 30) hX.1 dX5_goOn_8 (by decide) (by omega) (fun c_8 => ?_) (fun c_8 => ?_)
    · skip
      refine k_iconst hX.1 dX5_goOn_30 ?_
      refine k_istore hX.1 dX5_goOn_31 (by decide) rfl rfl ?_
      try simp only [List.set_cons_zero, List.set_cons_succ]
      refine k_aload_n hX.1 dX5_goOn_33 rfl rfl ?_
      refine k_aload_n hX.1 dX5_goOn_34 rfl rfl ?_
      refine k_iload_n hX.1 dX5_goOn_35 rfl rfl ?_
      refine k_iconst hX.1 dX5_goOn_36 ?_
      refine k_iadd hX.1 dX5_goOn_37 ?_
      refine k_iload hX.1 dX5_goOn_38 rfl ?_
      refine k_iload hX.1 dX5_goOn_40 rfl ?_
      refine k_iadd hX.1 dX5_goOn_42 ?_
      have hI2 : pI A (p + 1) y l (s + sw A p x y) (fu c p v) b (wr g 28 p y) := by
        refine ⟨CW_p i1 hW (fun a ha => wr_off (by omega)), fun t ht => by rw [wr_off (by omega)]; exact i2 t ht, fun _ => ⟨by rw [Nat.add_sub_cancel, wr_at], hy⟩, fun q hq => ?_, by omega, i6⟩
        rw [wr_off (by omega)]
        by_cases e : q = p
        · rw [e, fu_at]; exact hv
        · rw [fu_ne _ _ e]; exact i4 q (by omega)
      refine k_top (show s + 0 = s + sw A p x y by omega) ?_
      refine k_callS (d2 := (3 + 3 * r)) (n := 4) (as := [_, _, _, _]) hX.1 dX5_goOn_43 lkX5_47 (fit_of hX (by omega) gmX5_choose) rfl rfl (Nat.le_of_ble_eq_true rfl) (ih (p + 1) y l (s + sw A p x y) (fu c p v) b (wr g 28 p y) (by omega) hI2) (fun r_43 g_43 q_43 => ?_)
      obtain ⟨rfl, z1, z2, z3, z4, z5⟩ := q_43
      show V E X 46 _ [] _
      refine k_vret hX dX5_goOn_46 rfl ?_
      exact ⟨rfl, z1, fun a ha => by rw [z2 a ha, wr_off (by omega)], z3, fun q hq => by rw [(z4 q (by omega)).1, (z4 q (by omega)).2, wr_off (by omega), wr_1, if_neg (by omega)]; exact ⟨rfl, rfl⟩, fun t => by rw [z5 t, wr_off (by omega)]⟩
    · skip
      exact absurd c_8 (by omega)
  · skip
    obtain ⟨p1, rfl⟩ : ∃ p1, p = p1 + 1 := ⟨p - 1, by omega⟩
    have hx := i3 (by omega)
    rw [Nat.add_sub_cancel] at hx
    have e0 : sw A (p1 + 1) x y = s2 A p1 x y := by rw [sw, if_neg (by omega), Nat.add_sub_cancel]
    have sb := sw_bd (A := A) (p := p1 + 1) (x := x) (y := y) ⟨hx.2.1, hx.2.2⟩ hy
    refine k_aload_n hX.1 dX5_goOn_0 rfl rfl ?_
    refine k_getr (t := 28) hX.1 dX5_goOn_1 flX5_18 rfl (by decide) rfl rfl ?_
    refine k_iload_n hX.1 dX5_goOn_4 rfl rfl ?_
    refine k_iload_n hX.1 dX5_goOn_5 rfl rfl ?_
    refine k_iast (j := (p1 + 1)) hX.1 dX5_goOn_6 rfl (by omega) (n := 5) rfl (by omega) (by omega) ?_
    refine k_iload_n hX.1 dX5_goOn_7 rfl rfl ?_
    refine k_if_le (tgt := 30) hX.1 dX5_goOn_8 (by decide) (by omega) (fun c_8 => ?_) (fun c_8 => ?_)
    · skip
      exact absurd c_8 (by omega)
    · skip
      refine k_aload_n hX.1 dX5_goOn_11 rfl rfl ?_
      refine k_iload_n hX.1 dX5_goOn_12 rfl rfl ?_
      refine k_iconst hX.1 dX5_goOn_13 ?_
      refine k_isub hX.1 dX5_goOn_14 ?_
      refine k_top (b := (p1 : Int)) (by omega) ?_
      refine k_aload_n hX.1 dX5_goOn_15 rfl rfl ?_
      refine k_getr (t := 28) hX.1 dX5_goOn_16 flX5_18 rfl (by decide) rfl rfl ?_
      refine k_iload_n hX.1 dX5_goOn_19 rfl rfl ?_
      refine k_iconst hX.1 dX5_goOn_20 ?_
      refine k_isub hX.1 dX5_goOn_21 ?_
      refine k_iald (j := p1) hX.1 dX5_goOn_22 rfl (by omega) (n := 5) rfl (by omega) (by omega) ?_
      refine k_top (b := x) (by rw [wr_1, if_neg (by omega)]; exact hx.1) ?_
      refine k_iload_n hX.1 dX5_goOn_23 rfl rfl ?_
      refine k_callVf (d2 := 2) (n := 3) (as := [_, _, _]) hX.1 dX5_goOn_24 lkX5_89 (fit_of hX (by omega) gmX6_seenWith) rfl rfl (by decide) rfl rfl rfl (Nat.le_of_ble_eq_true rfl) (cW_seenWith E (CW_p i1 hW (h := wr g 28 (p1 + 1) y) (fun a ha => wr_off (by omega))) hW (p := p1) (by omega) (by omega) (by omega)) ?_
      refine k_goto (tgt := 31) hX.1 dX5_goOn_27 (by decide) ?_
      refine k_istore hX.1 dX5_goOn_31 (by decide) rfl rfl ?_
      try simp only [List.set_cons_zero, List.set_cons_succ]
      refine k_aload_n hX.1 dX5_goOn_33 rfl rfl ?_
      refine k_aload_n hX.1 dX5_goOn_34 rfl rfl ?_
      refine k_iload_n hX.1 dX5_goOn_35 rfl rfl ?_
      refine k_iconst hX.1 dX5_goOn_36 ?_
      refine k_iadd hX.1 dX5_goOn_37 ?_
      refine k_iload hX.1 dX5_goOn_38 rfl ?_
      refine k_iload hX.1 dX5_goOn_40 rfl ?_
      refine k_iadd hX.1 dX5_goOn_42 ?_
      have hI2 : pI A (p1 + 1 + 1) y l (s + sw A (p1 + 1) x y) (fu c (p1 + 1) v) b (wr g 28 (p1 + 1) y) := by
        refine ⟨CW_p i1 hW (fun a ha => wr_off (by omega)), fun t ht => by rw [wr_off (by omega)]; exact i2 t ht, fun _ => ⟨by rw [Nat.add_sub_cancel, wr_at], hy⟩, fun q hq => ?_, by omega, i6⟩
        rw [wr_off (by omega)]
        by_cases e : q = p1 + 1
        · rw [e, fu_at]; exact hv
        · rw [fu_ne _ _ e]; exact i4 q (by omega)
      refine k_top (show s + s2 A p1 x y = s + sw A (p1 + 1) x y by omega) ?_
      refine k_callS (d2 := (3 + 3 * r)) (n := 4) (as := [_, _, _, _]) hX.1 dX5_goOn_43 lkX5_47 (fit_of hX (by omega) gmX5_choose) rfl rfl (Nat.le_of_ble_eq_true rfl) (ih (p1 + 1 + 1) y l (s + sw A (p1 + 1) x y) (fu c (p1 + 1) v) b (wr g 28 (p1 + 1) y) (by omega) hI2) (fun r_43 g_43 q_43 => ?_)
      obtain ⟨rfl, z1, z2, z3, z4, z5⟩ := q_43
      show V E X 46 _ [] _
      refine k_vret hX dX5_goOn_46 rfl ?_
      exact ⟨rfl, z1, fun a ha => by rw [z2 a ha, wr_off (by omega)], z3, fun q hq => by rw [(z4 q (by omega)).1, (z4 q (by omega)).2, wr_off (by omega), wr_1, if_neg (by omega)]; exact ⟨rfl, rfl⟩, fun t => by rw [z5 t, wr_off (by omega)]⟩
