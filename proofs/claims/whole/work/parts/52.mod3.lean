/-! ===== the model's take: a loop ===== -/
def tkN (g : Mm) (t : Nat) (k : Int) : Mm := wr (wr g 56 t (g.1 56 t - k)) 57 t (g.1 57 t + 4 * k)
def tkG (g : Mm) (t : Nat) (x : Int) : Mm := wr (wr g 56 t (g.1 56 t - bgn (g.1 57 t) x)) 57 t (g.1 57 t + (4 * bgn (g.1 57 t) x - x))
theorem tkN_6 (g : Mm) (t : Nat) (k : Int) : (tkN g t k).1 56 t = g.1 56 t - k := by unfold tkN; rw [wr_off (by omega), wr_at]
theorem tkN_7 (g : Mm) (t : Nat) (k : Int) : (tkN g t k).1 57 t = g.1 57 t + 4 * k := by unfold tkN; rw [wr_at]
theorem wr_wr (g : Mm) (k j : Nat) (v w : Int) : wr (wr g k j v) k j w = wr g k j w := by
  refine Prod.ext ?_ rfl
  funext a b
  simp only [wr_1]
  split <;> rfl
theorem wr_self (g : Mm) (k j : Nat) {v : Int} (h : v = g.1 k j) : wr g k j v = g := by
  refine Prod.ext ?_ rfl
  funext a b
  rw [wr_1]
  split
  · rename_i q; rw [q.1, q.2]; exact h
  · rfl
theorem wr_comm (g : Mm) {k k' j j' : Nat} (h : k ≠ k') (v w : Int) : wr (wr g k j v) k' j' w = wr (wr g k' j' w) k j v := by
  refine Prod.ext ?_ rfl
  funext a b
  simp only [wr_1]
  by_cases e : a = k ∧ b = j
  · rw [if_pos e, if_neg (by omega), if_pos e]
  · rw [if_neg e, if_neg e]
theorem tkN_s (g : Mm) (t : Nat) (k : Int) : wr (wr (tkN g t k) 56 t (g.1 56 t - k - 1)) 57 t (g.1 57 t + 4 * k + 4) = tkN g t (k + 1) := by
  unfold tkN
  rw [wr_comm _ (show (57 : Nat) ≠ 56 by omega), wr_wr, wr_wr]
  rw [show g.1 56 t - k - 1 = g.1 56 t - (k + 1) by omega, show g.1 57 t + 4 * k + 4 = g.1 57 t + 4 * (k + 1) by omega]
theorem tkN_0 (g : Mm) (t : Nat) : tkN g t 0 = g := by
  unfold tkN
  rw [wr_self g 56 t (by omega), wr_self g 57 t (by omega)]
theorem tkN_e (g : Mm) (t : Nat) (x : Int) : wr (tkN g t (bgn (g.1 57 t) x)) 57 t (g.1 57 t + 4 * bgn (g.1 57 t) x - x) = tkG g t x := by
  unfold tkN tkG
  rw [wr_wr]
  congr 1; omega
theorem tkG_off {g : Mm} {t a b : Nat} (h : ¬ (a = 56 ∨ a = 57) ∨ b ≠ t) (x : Int) : (tkG g t x).1 a b = g.1 a b := by unfold tkG; rw [wr_1, if_neg (by omega), wr_1, if_neg (by omega)]
theorem tkG_7 (g : Mm) (t : Nat) (x : Int) : (tkG g t x).1 57 t = g.1 57 t + (4 * bgn (g.1 57 t) x - x) := by unfold tkG; rw [wr_at]
theorem RM_tk {A : St} {g : Mm} (hR : RM A g) {t : Nat} (ht : (t : Int) < A 12 2) (x : Int) : RM (tkA A t x) (tkG g t x) := by
  obtain ⟨-, e1, e2⟩ := hR.1.2.2 t ht
  unfold tkA tkG
  rw [e1, e2]
  have h1 := RM_lot (j := 1) hR (by omega) (t := t) (A 9 t - bgn (A 10 t) x)
  exact RM_lot (j := 2) h1 (by omega) _
theorem sameC_tk {g h : Mm} (h1 : sameC g h) (t : Nat) (x : Int) : sameC g (tkG h t x) := (h1.wr (by omega)).wr (by omega)
set_option maxRecDepth 100000 in
set_option maxHeartbeats 4000000 in
theorem lpM_take (E : En) (g : Mm) {t : Nat} (ht : t < 3) {x : Int} (hx : -100 ≤ x ∧ x ≤ 100) (hl : 0 ≤ g.1 57 t ∧ g.1 57 t ≤ 100000) {X : Cx} (hX : Wk E mX8_take X 1 (fun r g' => r = none ∧ g' = tkG g t x)) : ∀ (m : Nat) (k : Nat), (m : Int) + k = bgn (g.1 57 t) x → V E X 0 [some (vR 46), some (vI (t : Int)), some (vI x)] [] (tkN g t (k : Int)) := by
  have b0 := bgn_bd (lo := g.1 57 t) (x := x) hl.1 hx.2
  have bu : bgn (g.1 57 t) x = (max 0 (x - g.1 57 t) + 4 - 1) / 4 := rfl
  intro m
  induction m with
  | zero =>
    intro k hm
    have hk : (k : Int) = bgn (g.1 57 t) x := by omega
    rw [hk]
    refine k_aload_n hX.1 dX8_take_0 rfl rfl ?_
    refine k_getr (t := 57) hX.1 dX8_take_1 flX8_40 rfl (by decide) rfl rfl ?_
    refine k_iload_n hX.1 dX8_take_4 rfl rfl ?_
    refine k_iald (j := t) hX.1 dX8_take_5 rfl (by omega) (n := 3) rfl (by omega) (by omega) ?_
    refine k_top (b := g.1 57 t + 4 * bgn (g.1 57 t) x) (tkN_7 g t _) ?_
    refine k_iload_n hX.1 dX8_take_6 rfl rfl ?_
    refine k_icmp_ge (tgt := 33) hX.1 dX8_take_7 (by decide) (by omega) (by omega) (fun c_7 => ?_) (fun c_7 => ?_)
    · skip
      refine k_aload_n hX.1 dX8_take_33 rfl rfl ?_
      refine k_getr (t := 57) hX.1 dX8_take_34 flX8_40 rfl (by decide) rfl rfl ?_
      refine k_iload_n hX.1 dX8_take_37 rfl rfl ?_
      refine k_dup2 hX.1 dX8_take_38 ?_
      refine k_iald (j := t) hX.1 dX8_take_39 rfl (by omega) (n := 3) rfl (by omega) (by omega) ?_
      refine k_top (b := g.1 57 t + 4 * bgn (g.1 57 t) x) (tkN_7 g t _) ?_
      refine k_iload_n hX.1 dX8_take_40 rfl rfl ?_
      refine k_isub hX.1 dX8_take_41 ?_
      refine k_iast (j := t) hX.1 dX8_take_42 rfl (by omega) (n := 3) rfl (by omega) (by omega) ?_
      refine k_vret hX dX8_take_43 rfl ?_
      exact ⟨rfl, tkN_e g t x⟩
    · skip
      exact absurd c_7 (by omega)
  | succ m ih =>
    intro k hm
    refine k_aload_n hX.1 dX8_take_0 rfl rfl ?_
    refine k_getr (t := 57) hX.1 dX8_take_1 flX8_40 rfl (by decide) rfl rfl ?_
    refine k_iload_n hX.1 dX8_take_4 rfl rfl ?_
    refine k_iald (j := t) hX.1 dX8_take_5 rfl (by omega) (n := 3) rfl (by omega) (by omega) ?_
    refine k_top (b := g.1 57 t + 4 * (k : Int)) (tkN_7 g t _) ?_
    refine k_iload_n hX.1 dX8_take_6 rfl rfl ?_
    refine k_icmp_ge (tgt := 33) hX.1 dX8_take_7 (by decide) (by omega) (by omega) (fun c_7 => ?_) (fun c_7 => ?_)
    · skip
      exact absurd c_7 (by omega)
    · skip
      refine k_aload_n hX.1 dX8_take_10 rfl rfl ?_
      refine k_getr (t := 56) hX.1 dX8_take_11 flX8_37 rfl (by decide) rfl rfl ?_
      refine k_iload_n hX.1 dX8_take_14 rfl rfl ?_
      refine k_dup2 hX.1 dX8_take_15 ?_
      refine k_iald (j := t) hX.1 dX8_take_16 rfl (by omega) (n := 3) rfl (by omega) (by omega) ?_
      refine k_top (b := g.1 56 t - (k : Int)) (tkN_6 g t _) ?_
      refine k_iconst hX.1 dX8_take_17 ?_
      refine k_isub hX.1 dX8_take_18 ?_
      refine k_iast (j := t) hX.1 dX8_take_19 rfl (by omega) (n := 3) rfl (by omega) (by omega) ?_
      refine k_aload_n hX.1 dX8_take_20 rfl rfl ?_
      refine k_getr (t := 57) hX.1 dX8_take_21 flX8_40 rfl (by decide) rfl rfl ?_
      refine k_iload_n hX.1 dX8_take_24 rfl rfl ?_
      refine k_dup2 hX.1 dX8_take_25 ?_
      refine k_iald (j := t) hX.1 dX8_take_26 rfl (by omega) (n := 3) rfl (by omega) (by omega) ?_
      refine k_top (b := g.1 57 t + 4 * (k : Int)) (by rw [wr_off (by omega)]; exact tkN_7 g t _) ?_
      refine k_iconst hX.1 dX8_take_27 ?_
      refine k_iadd hX.1 dX8_take_28 ?_
      refine k_iast (j := t) hX.1 dX8_take_29 rfl (by omega) (n := 3) rfl (by omega) (by omega) ?_
      refine k_goto (tgt := 0) hX.1 dX8_take_30 (by decide) ?_
      exact k_mem (tkN_s g t k) (ih (k + 1) (by omega))

set_option maxRecDepth 100000 in
set_option maxHeartbeats 4000000 in
theorem cM_take (E : En) (g : Mm) {t : Nat} (ht : t < 3) {x : Int} (hx : -100 ≤ x ∧ x ≤ 100) (hl : 0 ≤ g.1 57 t ∧ g.1 57 t ≤ 100000) : Pr E 1 mX8_take [vR 46, vI (t : Int), vI x] g (tkG g t x) := by
  have b0 := bgn_bd (lo := g.1 57 t) (x := x) hl.1 hx.2
  refine Ok_of gmX8_take (by omega) (Nat.le_of_ble_eq_true rfl) (fun X hX => ?_)
  show V E X 0 [some (vR 46), some (vI (t : Int)), some (vI x)] [] g
  have h := lpM_take E g ht hx hl hX (bgn (g.1 57 t) x).toNat 0 (by omega)
  rw [show ((0 : Nat) : Int) = 0 from rfl, tkN_0] at h
  exact h

def clG (g : Mm) (p : Nat) : Mm := wr (wr (wr (wr (wr g 49 p (-1)) 50 p (-1)) 51 p 0) 52 p 0) 53 p (-1)
set_option maxRecDepth 100000 in
set_option maxHeartbeats 4000000 in
theorem cM_clear (E : En) (g : Mm) {p : Nat} (hp : p < 5) : Pr E 1 mX8_clear [vR 46, vI (p : Int)] g (clG g p) := by
  refine Ok_of gmX8_clear (by omega) (Nat.le_of_ble_eq_true rfl) (fun X hX => ?_)
  show V E X 0 [some (vR 46), some (vI (p : Int))] [] g
  refine k_aload_n hX.1 dX8_clear_0 rfl rfl ?_
  refine k_getr (t := 49) hX.1 dX8_clear_1 flX8_16 rfl (by decide) rfl rfl ?_
  refine k_iload_n hX.1 dX8_clear_4 rfl rfl ?_
  refine k_iconst hX.1 dX8_clear_5 ?_
  refine k_iast (j := p) hX.1 dX8_clear_6 rfl (by omega) (n := 5) rfl (by omega) (by omega) ?_
  refine k_aload_n hX.1 dX8_clear_7 rfl rfl ?_
  refine k_getr (t := 50) hX.1 dX8_clear_8 flX8_19 rfl (by decide) rfl rfl ?_
  refine k_iload_n hX.1 dX8_clear_11 rfl rfl ?_
  refine k_iconst hX.1 dX8_clear_12 ?_
  refine k_iast (j := p) hX.1 dX8_clear_13 rfl (by omega) (n := 5) rfl (by omega) (by omega) ?_
  refine k_aload_n hX.1 dX8_clear_14 rfl rfl ?_
  refine k_getr (t := 51) hX.1 dX8_clear_15 flX8_22 rfl (by decide) rfl rfl ?_
  refine k_iload_n hX.1 dX8_clear_18 rfl rfl ?_
  refine k_iconst hX.1 dX8_clear_19 ?_
  refine k_iast (j := p) hX.1 dX8_clear_20 rfl (by omega) (n := 5) rfl (by omega) (by omega) ?_
  refine k_aload_n hX.1 dX8_clear_21 rfl rfl ?_
  refine k_getr (t := 52) hX.1 dX8_clear_22 flX8_25 rfl (by decide) rfl rfl ?_
  refine k_iload_n hX.1 dX8_clear_25 rfl rfl ?_
  refine k_iconst hX.1 dX8_clear_26 ?_
  refine k_iast (j := p) hX.1 dX8_clear_27 rfl (by omega) (n := 5) rfl (by omega) (by omega) ?_
  refine k_aload_n hX.1 dX8_clear_28 rfl rfl ?_
  refine k_getr (t := 53) hX.1 dX8_clear_29 flX8_28 rfl (by decide) rfl rfl ?_
  refine k_iload_n hX.1 dX8_clear_32 rfl rfl ?_
  refine k_iconst hX.1 dX8_clear_33 ?_
  refine k_iast (j := p) hX.1 dX8_clear_34 rfl (by omega) (n := 5) rfl (by omega) (by omega) ?_
  refine k_vret hX dX8_clear_35 rfl ?_
  exact ⟨rfl, rfl⟩

theorem RM_cl {A : St} {g : Mm} (hR : RM A g) (p : Nat) : RM (clA A p) (clG g p) := by
  have h1 := RM_part (j := 2) hR (by omega) (p := p) (-1)
  have h2 := RM_part (j := 3) h1 (by omega) (p := p) (-1)
  have h3 := RM_part (j := 4) h2 (by omega) (p := p) 0
  have h4 := RM_part (j := 5) h3 (by omega) (p := p) 0
  exact RM_part (j := 6) h4 (by omega) (p := p) (-1)
theorem sameC_cl {g h : Mm} (h1 : sameC g h) (p : Nat) : sameC g (clG h p) := ((((h1.wr (by omega)).wr (by omega)).wr (by omega)).wr (by omega)).wr (by omega)
theorem RM_ls {A : St} {g : Mm} (hR : RM A g) {t : Nat} (ht : (t : Int) < A 12 2) (x : Int) : RM (lsA A t x) (if x = 0 then g else wr g 57 t (g.1 57 t + (x - 1))) := by
  obtain ⟨-, e1, e2⟩ := hR.1.2.2 t ht
  unfold lsA
  split
  · exact hR
  · rw [e2]
    exact RM_lot (j := 2) hR (by omega) _
theorem sameC_ls {g h : Mm} (h1 : sameC g h) {t : Nat} (x : Int) : sameC g (if x = 0 then h else wr h 57 t (h.1 57 t + (x - 1))) := by
  split
  · exact h1
  · exact h1.wr (by omega)
theorem lsG_off {h : Mm} {t a : Nat} (ha : a ≠ 57) (x : Int) : (if x = 0 then h else wr h 57 t (h.1 57 t + (x - 1))).1 a = h.1 a := by
  split
  · rfl
  · exact wr_off ha
set_option maxRecDepth 100000 in
set_option maxHeartbeats 4000000 in
theorem cM_back (E : En) (g : Mm) {t : Nat} (ht : t < 3) {x : Int} (hx : 0 ≤ x ∧ x ≤ 100) : Ok E 1 mX8_comeBack [vR 46, vI (t : Int), vI x] g (fun r g' => r = some (vI (if x = 0 then 0 else 1)) ∧ g' = if x = 0 then g else wr g 57 t (g.1 57 t + (x - 1))) := by
  refine Ok_of gmX8_comeBack (by omega) (Nat.le_of_ble_eq_true rfl) (fun X hX => ?_)
  show V E X 0 [some (vR 46), some (vI (t : Int)), some (vI x), none] [] g
  refine k_iload_n hX.1 dX8_comeBack_0 rfl rfl ?_
  refine k_if_le (tgt := 8) hX.1 dX8_comeBack_1 (by decide) (by omega) (fun c_1 => ?_) (fun c_1 => ?_)
  · skip
    have hx0 : x = 0 := by omega
    refine k_iconst hX.1 dX8_comeBack_8 ?_
    refine k_istore_n hX.1 dX8_comeBack_9 rfl (by decide) rfl rfl ?_
    try simp only [List.set_cons_zero, List.set_cons_succ]
    refine k_aload_n hX.1 dX8_comeBack_10 rfl rfl ?_
    refine k_getr (t := 57) hX.1 dX8_comeBack_11 flX8_40 rfl (by decide) rfl rfl ?_
    refine k_iload_n hX.1 dX8_comeBack_14 rfl rfl ?_
    refine k_dup2 hX.1 dX8_comeBack_15 ?_
    refine k_iald (j := t) hX.1 dX8_comeBack_16 rfl (by omega) (n := 3) rfl (by omega) (by omega) ?_
    refine k_iload_n hX.1 dX8_comeBack_17 rfl rfl ?_
    refine k_iload_n hX.1 dX8_comeBack_18 rfl rfl ?_
    refine k_isub hX.1 dX8_comeBack_19 ?_
    refine k_iadd hX.1 dX8_comeBack_20 ?_
    refine k_iast (j := t) hX.1 dX8_comeBack_21 rfl (by omega) (n := 3) rfl (by omega) (by omega) ?_
    refine k_iload_n hX.1 dX8_comeBack_22 rfl rfl ?_
    refine k_iret hX dX8_comeBack_23 rfl ?_
    first | (rw [if_pos hx0, if_pos hx0]; refine ⟨rfl, ?_⟩; exact wr_self g 57 t (by omega)) | (rw [if_neg hx0, if_neg hx0]; exact ⟨rfl, rfl⟩)
  · skip
    have hx0 : ¬ x = 0 := by omega
    refine k_iconst hX.1 dX8_comeBack_4 ?_
    refine k_goto (tgt := 9) hX.1 dX8_comeBack_5 (by decide) ?_
    refine k_istore_n hX.1 dX8_comeBack_9 rfl (by decide) rfl rfl ?_
    try simp only [List.set_cons_zero, List.set_cons_succ]
    refine k_aload_n hX.1 dX8_comeBack_10 rfl rfl ?_
    refine k_getr (t := 57) hX.1 dX8_comeBack_11 flX8_40 rfl (by decide) rfl rfl ?_
    refine k_iload_n hX.1 dX8_comeBack_14 rfl rfl ?_
    refine k_dup2 hX.1 dX8_comeBack_15 ?_
    refine k_iald (j := t) hX.1 dX8_comeBack_16 rfl (by omega) (n := 3) rfl (by omega) (by omega) ?_
    refine k_iload_n hX.1 dX8_comeBack_17 rfl rfl ?_
    refine k_iload_n hX.1 dX8_comeBack_18 rfl rfl ?_
    refine k_isub hX.1 dX8_comeBack_19 ?_
    refine k_iadd hX.1 dX8_comeBack_20 ?_
    refine k_iast (j := t) hX.1 dX8_comeBack_21 rfl (by omega) (n := 3) rfl (by omega) (by omega) ?_
    refine k_iload_n hX.1 dX8_comeBack_22 rfl rfl ?_
    refine k_iret hX dX8_comeBack_23 rfl ?_
    first | (rw [if_pos hx0, if_pos hx0]; refine ⟨rfl, ?_⟩; exact wr_self g 57 t (by omega)) | (rw [if_neg hx0, if_neg hx0]; exact ⟨rfl, rfl⟩)

set_option maxRecDepth 100000 in
set_option maxHeartbeats 4000000 in
theorem c8_undo (E : En) {A : St} {g : Mm} {n : Int} (hR : RM A g) (hW : Wf A n) {q : Int} (hq : bd q) : Ok E 5 mX8_undo [vR 46, vI q] g (fun r g' => r = some (vI (rUndo A q)) ∧ RM (nUndo A q) g' ∧ sameC g g') := by
  have hM0 := hR.1
  have hW0 := hW.1
  obtain ⟨⟨⟨hm1, hm2, hm3⟩, hmp, hml⟩, ⟨hg1, hg2⟩, ⟨ht1, ht2, ht3, ⟨ht4, ht5⟩, ht6⟩, hmk⟩ := id hR
  obtain ⟨⟨⟨hw1, hw2, hw3, hw4, hw5, hw6, hw7, hw8⟩, hwp, hwl⟩, ⟨hq1, hq2, hq3⟩, ⟨hz1, ⟨hz2, hz3⟩, ⟨hz4, hz5⟩⟩, hwk⟩ := id hW
  refine Ok_of gmX8_undo (by omega) (Nat.le_of_ble_eq_true rfl) (fun X hX => ?_)
  show V E X 0 [some (vR 46), some (vI q), none] [] g
  by_cases i1 : 0 ≤ q ∧ q < A 12 0
  · skip
    obtain ⟨p, rfl⟩ : ∃ m : Nat, q = (m : Int) := ⟨q.toNat, by omega⟩
    obtain ⟨e0, e1, e2, e3, e4, e5, e6, e7⟩ := hmp (p) (by omega)
    obtain ⟨⟨ek1, ek2⟩, ⟨er1, er2⟩, ew2, ew3, ew4, ew5, ew6, ew7⟩ := hwp (p) (by omega)
    by_cases h1 : A 2 p = -1
    · skip
      refine k_aload_n hX.1 dX8_undo_0 rfl rfl ?_
      refine k_iload_n hX.1 dX8_undo_1 rfl rfl ?_
      refine k_callVf (d2 := 2) (n := 1) (as := [_]) hX.1 dX8_undo_2 lkX8_148 (fit_of hX (by omega) gmX8_isPart) rfl rfl (by decide) rfl rfl rfl (Nat.le_of_ble_eq_true rfl) (cM_isPart1 E g (by omega) (by omega) (by omega)) ?_
      refine k_if_ne (tgt := 11) hX.1 dX8_undo_5 (by decide) (by omega) (fun c_5 => ?_) (fun c_5 => ?_)
      · skip
        refine k_aload_n hX.1 dX8_undo_11 rfl rfl ?_
        refine k_getr (t := 49) hX.1 dX8_undo_12 flX8_16 rfl (by decide) rfl rfl ?_
        refine k_iload_n hX.1 dX8_undo_15 rfl rfl ?_
        refine k_iald (j := p) hX.1 dX8_undo_16 rfl (by omega) (n := 5) rfl (by omega) (by omega) ?_
        refine k_iconst hX.1 dX8_undo_17 ?_
        refine k_icmp_ne (tgt := 24) hX.1 dX8_undo_18 (by decide) (by omega) (by omega) (fun c_18 => ?_) (fun c_18 => ?_)
        · skip
          exact absurd c_18 (by omega)
        · skip
          refine k_bipush hX.1 dX8_undo_21 (by decide) ?_
          refine k_iret hX dX8_undo_23 rfl ?_
          refine ⟨?_, ?_, sameC.rf g⟩
          · congr 2
            unfold rUndo
            try rw [Int.toNat_natCast]
            (repeat first | rw [if_pos (by omega)] | rw [if_neg (by omega)])
          · unfold nUndo
            try rw [Int.toNat_natCast]
            (repeat first | rw [if_pos (by omega)] | rw [if_neg (by omega)])
            exact hR
      · skip
        exact absurd c_5 (by decide)
    · skip
      obtain ⟨a, ha⟩ : ∃ m : Nat, A 2 p = (m : Int) := ⟨(A 2 p).toNat, by omega⟩
      obtain ⟨k0, k1, k2⟩ := hml (a) (by omega)
      obtain ⟨⟨ka, kb⟩, ⟨kc, kd⟩, ⟨ke, kf⟩⟩ := hwl (a) (by omega)
      by_cases h2 : A 3 p = -1
      · skip
        refine k_aload_n hX.1 dX8_undo_0 rfl rfl ?_
        refine k_iload_n hX.1 dX8_undo_1 rfl rfl ?_
        refine k_callVf (d2 := 2) (n := 1) (as := [_]) hX.1 dX8_undo_2 lkX8_148 (fit_of hX (by omega) gmX8_isPart) rfl rfl (by decide) rfl rfl rfl (Nat.le_of_ble_eq_true rfl) (cM_isPart1 E g (by omega) (by omega) (by omega)) ?_
        refine k_if_ne (tgt := 11) hX.1 dX8_undo_5 (by decide) (by omega) (fun c_5 => ?_) (fun c_5 => ?_)
        · skip
          refine k_aload_n hX.1 dX8_undo_11 rfl rfl ?_
          refine k_getr (t := 49) hX.1 dX8_undo_12 flX8_16 rfl (by decide) rfl rfl ?_
          refine k_iload_n hX.1 dX8_undo_15 rfl rfl ?_
          refine k_iald (j := p) hX.1 dX8_undo_16 rfl (by omega) (n := 5) rfl (by omega) (by omega) ?_
          refine k_iconst hX.1 dX8_undo_17 ?_
          refine k_icmp_ne (tgt := 24) hX.1 dX8_undo_18 (by decide) (by omega) (by omega) (fun c_18 => ?_) (fun c_18 => ?_)
          · skip
            refine k_aload_n hX.1 dX8_undo_24 rfl rfl ?_
            refine k_aload_n hX.1 dX8_undo_25 rfl rfl ?_
            refine k_getr (t := 49) hX.1 dX8_undo_26 flX8_16 rfl (by decide) rfl rfl ?_
            refine k_iload_n hX.1 dX8_undo_29 rfl rfl ?_
            refine k_iald (j := p) hX.1 dX8_undo_30 rfl (by omega) (n := 5) rfl (by omega) (by omega) ?_
            refine k_top (b := (a : Int)) (by omega) ?_
            refine k_aload_n hX.1 dX8_undo_31 rfl rfl ?_
            refine k_getr (t := 51) hX.1 dX8_undo_32 flX8_22 rfl (by decide) rfl rfl ?_
            refine k_iload_n hX.1 dX8_undo_35 rfl rfl ?_
            refine k_iald (j := p) hX.1 dX8_undo_36 rfl (by omega) (n := 5) rfl (by omega) (by omega) ?_
            refine k_top (b := A 4 p) e4 ?_
            refine k_callV (d2 := 1) (n := 2) (as := [_, _]) hX.1 dX8_undo_37 lkX8_175 (fit_of hX (by omega) gmX8_comeBack) rfl rfl (by decide) rfl rfl rfl (Nat.le_of_ble_eq_true rfl) (cM_back E g (t := a) (by omega) (by omega)) (fun r_37 g_37 q_37 => ?_)
            obtain ⟨rfl, rfl⟩ := q_37
            show V E X 40 _ (vI _ :: _) _
            refine k_istore_n hX.1 dX8_undo_40 rfl (by decide) rfl rfl ?_
            try simp only [List.set_cons_zero, List.set_cons_succ]
            refine k_aload_n hX.1 dX8_undo_41 rfl rfl ?_
            refine k_getr (t := 50) hX.1 dX8_undo_42 flX8_19 rfl (by decide) rfl rfl ?_
            refine k_iload_n hX.1 dX8_undo_45 rfl rfl ?_
            refine k_iald (j := p) hX.1 dX8_undo_46 rfl (by omega) (n := 5) rfl (by omega) (by omega) ?_
            refine k_top (b := -1) (by rw [lsG_off (by omega)]; omega) ?_
            refine k_iconst hX.1 dX8_undo_47 ?_
            refine k_icmp_eq (tgt := 70) hX.1 dX8_undo_48 (by decide) (by omega) (by omega) (fun c_48 => ?_) (fun c_48 => ?_)
            · skip
              refine k_aload_n hX.1 dX8_undo_70 rfl rfl ?_
              refine k_iload_n hX.1 dX8_undo_71 rfl rfl ?_
              refine k_callVp (d2 := 1) (n := 1) (as := [_]) hX.1 dX8_undo_72 lkX8_125 (fit_of hX (by omega) gmX8_clear) rfl rfl (by decide) rfl rfl rfl (Nat.le_of_ble_eq_true rfl) (cM_clear E _ (p := p) (by omega)) ?_
              refine k_iload_n hX.1 dX8_undo_75 rfl rfl ?_
              refine k_iret hX dX8_undo_76 rfl ?_
              refine ⟨?_, ?_, sameC_cl (sameC_ls (sameC.rf g) _) _⟩
              · rw [rUndo, if_pos i1, Int.toNat_natCast, if_neg h1]
                congr 2
                unfold lost
                rw [if_pos h2]
                omega
              · rw [nUndo, if_pos i1, Int.toNat_natCast, if_neg h1]
                unfold unA
                rw [if_pos h2, ha, Int.toNat_natCast]
                exact RM_cl (RM_ls hR (by omega) _) p
            · skip
              exact absurd c_48 (by omega)
          · skip
            exact absurd c_18 (by omega)
        · skip
          exact absurd c_5 (by decide)
      · skip
        obtain ⟨b, hb⟩ : ∃ m : Nat, A 3 p = (m : Int) := ⟨(A 3 p).toNat, by omega⟩
        obtain ⟨l0, l1, l2⟩ := hml (b) (by omega)
        obtain ⟨⟨la, lb⟩, ⟨lc, ld⟩, ⟨le, lf⟩⟩ := hwl (b) (by omega)
        refine k_aload_n hX.1 dX8_undo_0 rfl rfl ?_
        refine k_iload_n hX.1 dX8_undo_1 rfl rfl ?_
        refine k_callVf (d2 := 2) (n := 1) (as := [_]) hX.1 dX8_undo_2 lkX8_148 (fit_of hX (by omega) gmX8_isPart) rfl rfl (by decide) rfl rfl rfl (Nat.le_of_ble_eq_true rfl) (cM_isPart1 E g (by omega) (by omega) (by omega)) ?_
        refine k_if_ne (tgt := 11) hX.1 dX8_undo_5 (by decide) (by omega) (fun c_5 => ?_) (fun c_5 => ?_)
        · skip
          refine k_aload_n hX.1 dX8_undo_11 rfl rfl ?_
          refine k_getr (t := 49) hX.1 dX8_undo_12 flX8_16 rfl (by decide) rfl rfl ?_
          refine k_iload_n hX.1 dX8_undo_15 rfl rfl ?_
          refine k_iald (j := p) hX.1 dX8_undo_16 rfl (by omega) (n := 5) rfl (by omega) (by omega) ?_
          refine k_iconst hX.1 dX8_undo_17 ?_
          refine k_icmp_ne (tgt := 24) hX.1 dX8_undo_18 (by decide) (by omega) (by omega) (fun c_18 => ?_) (fun c_18 => ?_)
          · skip
            refine k_aload_n hX.1 dX8_undo_24 rfl rfl ?_
            refine k_aload_n hX.1 dX8_undo_25 rfl rfl ?_
            refine k_getr (t := 49) hX.1 dX8_undo_26 flX8_16 rfl (by decide) rfl rfl ?_
            refine k_iload_n hX.1 dX8_undo_29 rfl rfl ?_
            refine k_iald (j := p) hX.1 dX8_undo_30 rfl (by omega) (n := 5) rfl (by omega) (by omega) ?_
            refine k_top (b := (a : Int)) (by omega) ?_
            refine k_aload_n hX.1 dX8_undo_31 rfl rfl ?_
            refine k_getr (t := 51) hX.1 dX8_undo_32 flX8_22 rfl (by decide) rfl rfl ?_
            refine k_iload_n hX.1 dX8_undo_35 rfl rfl ?_
            refine k_iald (j := p) hX.1 dX8_undo_36 rfl (by omega) (n := 5) rfl (by omega) (by omega) ?_
            refine k_top (b := A 4 p) e4 ?_
            refine k_callV (d2 := 1) (n := 2) (as := [_, _]) hX.1 dX8_undo_37 lkX8_175 (fit_of hX (by omega) gmX8_comeBack) rfl rfl (by decide) rfl rfl rfl (Nat.le_of_ble_eq_true rfl) (cM_back E g (t := a) (by omega) (by omega)) (fun r_37 g_37 q_37 => ?_)
            obtain ⟨rfl, rfl⟩ := q_37
            show V E X 40 _ (vI _ :: _) _
            refine k_istore_n hX.1 dX8_undo_40 rfl (by decide) rfl rfl ?_
            try simp only [List.set_cons_zero, List.set_cons_succ]
            refine k_aload_n hX.1 dX8_undo_41 rfl rfl ?_
            refine k_getr (t := 50) hX.1 dX8_undo_42 flX8_19 rfl (by decide) rfl rfl ?_
            refine k_iload_n hX.1 dX8_undo_45 rfl rfl ?_
            refine k_iald (j := p) hX.1 dX8_undo_46 rfl (by omega) (n := 5) rfl (by omega) (by omega) ?_
            refine k_top (b := (b : Int)) (by rw [lsG_off (by omega)]; omega) ?_
            refine k_iconst hX.1 dX8_undo_47 ?_
            refine k_icmp_eq (tgt := 70) hX.1 dX8_undo_48 (by decide) (by omega) (by omega) (fun c_48 => ?_) (fun c_48 => ?_)
            · skip
              exact absurd c_48 (by omega)
            · skip
              refine k_iload_n hX.1 dX8_undo_51 rfl rfl ?_
              refine k_aload_n hX.1 dX8_undo_52 rfl rfl ?_
              refine k_aload_n hX.1 dX8_undo_53 rfl rfl ?_
              refine k_getr (t := 50) hX.1 dX8_undo_54 flX8_19 rfl (by decide) rfl rfl ?_
              refine k_iload_n hX.1 dX8_undo_57 rfl rfl ?_
              refine k_iald (j := p) hX.1 dX8_undo_58 rfl (by omega) (n := 5) rfl (by omega) (by omega) ?_
              refine k_top (b := (b : Int)) (by rw [lsG_off (by omega)]; omega) ?_
              refine k_aload_n hX.1 dX8_undo_59 rfl rfl ?_
              refine k_getr (t := 52) hX.1 dX8_undo_60 flX8_25 rfl (by decide) rfl rfl ?_
              refine k_iload_n hX.1 dX8_undo_63 rfl rfl ?_
              refine k_iald (j := p) hX.1 dX8_undo_64 rfl (by omega) (n := 5) rfl (by omega) (by omega) ?_
              refine k_top (b := A 5 p) (by rw [lsG_off (by omega)]; exact e5) ?_
              refine k_callV (d2 := 1) (n := 2) (as := [_, _]) hX.1 dX8_undo_65 lkX8_175 (fit_of hX (by omega) gmX8_comeBack) rfl rfl (by decide) rfl rfl rfl (Nat.le_of_ble_eq_true rfl) (cM_back E _ (t := b) (by omega) (by omega)) (fun r_65 g_65 q_65 => ?_)
              obtain ⟨rfl, rfl⟩ := q_65
              show V E X 68 _ (vI _ :: _) _
              refine k_iadd hX.1 dX8_undo_68 ?_
              refine k_istore_n hX.1 dX8_undo_69 rfl (by decide) rfl rfl ?_
              try simp only [List.set_cons_zero, List.set_cons_succ]
              refine k_aload_n hX.1 dX8_undo_70 rfl rfl ?_
              refine k_iload_n hX.1 dX8_undo_71 rfl rfl ?_
              refine k_callVp (d2 := 1) (n := 1) (as := [_]) hX.1 dX8_undo_72 lkX8_125 (fit_of hX (by omega) gmX8_clear) rfl rfl (by decide) rfl rfl rfl (Nat.le_of_ble_eq_true rfl) (cM_clear E _ (p := p) (by omega)) ?_
              refine k_iload_n hX.1 dX8_undo_75 rfl rfl ?_
              refine k_iret hX dX8_undo_76 rfl ?_
              refine ⟨?_, ?_, sameC_cl (sameC_ls (sameC_ls (sameC.rf g) _) _) _⟩
              · rw [rUndo, if_pos i1, Int.toNat_natCast, if_neg h1]
                congr 2
                unfold lost
                rw [if_neg h2]
              · rw [nUndo, if_pos i1, Int.toNat_natCast, if_neg h1]
                unfold unA
                rw [if_neg h2, ha, hb, Int.toNat_natCast, Int.toNat_natCast]
                exact RM_cl (RM_ls (RM_ls hR (by omega) _) (by rw [lsA_12]; omega) _) p
          · skip
            exact absurd c_18 (by omega)
        · skip
          exact absurd c_5 (by decide)
  · skip
    refine k_aload_n hX.1 dX8_undo_0 rfl rfl ?_
    refine k_iload_n hX.1 dX8_undo_1 rfl rfl ?_
    refine k_callVf (d2 := 2) (n := 1) (as := [_]) hX.1 dX8_undo_2 lkX8_148 (fit_of hX (by omega) gmX8_isPart) rfl rfl (by decide) rfl rfl rfl (Nat.le_of_ble_eq_true rfl) (cM_isPart0 E g (by omega) (by omega) (by omega)) ?_
    refine k_if_ne (tgt := 11) hX.1 dX8_undo_5 (by decide) (by omega) (fun c_5 => ?_) (fun c_5 => ?_)
    · skip
      exact absurd rfl c_5
    · skip
      refine k_bipush hX.1 dX8_undo_8 (by decide) ?_
      refine k_iret hX dX8_undo_10 rfl ?_
      refine ⟨?_, ?_, sameC.rf g⟩
      · congr 2
        unfold rUndo
        (repeat first | rw [if_pos (by omega)] | rw [if_neg (by omega)])
      · unfold nUndo
        (repeat first | rw [if_pos (by omega)] | rw [if_neg (by omega)])
        exact hR
