theorem Pl_bd {A : St} (h : nl_ A ≤ 3) : ∀ r, Pl A r ≤ 9 ^ r
  | 0 => by rw [Pl, Nat.pow_zero]; exact Nat.le_refl 1
  | r + 1 => by
    have ih := Pl_bd h r
    have hm : nl_ A * nl_ A ≤ 9 := by
      rcases (show nl_ A = 0 ∨ nl_ A = 1 ∨ nl_ A = 2 ∨ nl_ A = 3 by omega) with e | e | e | e <;> rw [e] <;> decide
    rw [Pl, Nat.pow_succ]
    split
    · have := Nat.mul_le_mul hm ih
      rw [Nat.mul_comm (9 ^ r)]; exact this
    · omega
theorem Pl_bd5 {A : St} {n : Int} (hW : WW A n) : Pl A (A 12 0).toNat ≤ 59049 := by
  have h1 := Pl_bd (A := A) (by unfold nl_; have := hW.1.2.2.2.1; omega) (A 12 0).toNat
  have h2 := Nat.pow_le_pow_right (show 0 < 9 by omega) (show (A 12 0).toNat ≤ 5 by have := hW.1.2.1; omega)
  have h3 : (9 : Nat) ^ 5 = 59049 := rfl
  omega
def cnt (A : St) : Nat → Nat
  | 0 => 0
  | r + 1 => cnt A r + (if A 2 (rp A r) = -1 then 1 else 0)
theorem Pl_cnt (A : St) : ∀ r, Pl A r = (nl_ A * nl_ A) ^ cnt A r
  | 0 => by rw [Pl, cnt, Nat.pow_zero]
  | r + 1 => by
    rw [Pl, cnt]
    by_cases h : A 2 ((A 12 0).toNat - 1 - r) = -1
    · rw [if_pos h, if_pos h, Nat.pow_succ, Pl_cnt A r, Nat.mul_comm]
    · rw [if_neg h, if_neg h, Nat.add_zero]; exact Pl_cnt A r
theorem cnt_sm (A : St) : ∀ r, r ≤ (A 12 0).toNat → sm (fun p => if A 2 p = -1 then 1 else 0) ((A 12 0).toNat - r) + (cnt A r : Int) = sm (fun p => if A 2 p = -1 then 1 else 0) (A 12 0).toNat
  | 0, _ => by rw [cnt]; simp
  | r + 1, h => by
    have ih := cnt_sm A r (by omega)
    rw [← ih, cnt, show (A 12 0).toNat - r = ((A 12 0).toNat - (r + 1)) + 1 by omega, sm]
    have e : rp A r = (A 12 0).toNat - (r + 1) := by unfold rp; omega
    rw [e]
    split <;> omega
theorem oP_cnt (A : St) : oP A = (cnt A (A 12 0).toNat : Int) := by
  have h := cnt_sm A (A 12 0).toNat (Nat.le_refl _)
  rw [Nat.sub_self, sm] at h
  unfold oP
  omega
theorem cnt_le (A : St) : ∀ r, cnt A r ≤ r
  | 0 => Nat.le_refl 0
  | r + 1 => by rw [cnt]; have := cnt_le A r; split <;> omega
set_option maxRecDepth 100000 in
set_option maxHeartbeats 4000000 in
theorem lpM_plans (E : En) {A : St} {g : Mm} {n : Int} (hM : MW A g) (hW : WW A n) {X : Cx} (hX : Wk E mX8_plans X 2 (fun r g' => r = some (vI ((Pl A (A 12 0).toNat : Nat) : Int)) ∧ g' = g)) : ∀ (m : Nat) (k : Nat) (x : Int), m + k = cnt A (A 12 0).toNat ∧ x = (m : Int) → V E X 7 [some (vR 46), some (vI (((nl_ A * nl_ A) ^ k : Nat) : Int)), some (vI x)] [] g := by
  obtain ⟨⟨hm1, hm2, hm3⟩, hmp, hml⟩ := id hM
  obtain ⟨⟨hw1, hw2, hw3, hw4, hw5, hw6, hw7, hw8⟩, hwp, hwl⟩ := id hW
  have hnl : ((nl_ A : Nat) : Int) = A 12 2 := by unfold nl_; omega
  have hcl := cnt_le A (A 12 0).toNat
  intro m
  induction m with
  | zero =>
    intro k x ⟨hm, hx⟩
    refine k_iload_n hX.1 dX8_plans_7 rfl rfl ?_
    refine k_if_le (tgt := 29) hX.1 dX8_plans_8 (by decide) (by omega) (fun c_8 => ?_) (fun c_8 => ?_)
    · skip
      refine k_iload_n hX.1 dX8_plans_29 rfl rfl ?_
      refine k_iret hX dX8_plans_30 rfl ?_
      refine ⟨?_, rfl⟩
      rw [Pl_cnt, show k = cnt A (A 12 0).toNat by omega]
    · skip
      exact absurd c_8 (by omega)
  | succ m ih =>
    intro k x ⟨hm, hx⟩
    refine k_iload_n hX.1 dX8_plans_7 rfl rfl ?_
    refine k_if_le (tgt := 29) hX.1 dX8_plans_8 (by decide) (by omega) (fun c_8 => ?_) (fun c_8 => ?_)
    · skip
      exact absurd c_8 (by omega)
    · skip
      refine k_iload_n hX.1 dX8_plans_11 rfl rfl ?_
      refine k_aload_n hX.1 dX8_plans_12 rfl rfl ?_
      refine k_geti hX.1 dX8_plans_13 flX8_132 rfl (by decide) rfl ?_
      refine k_top (b := ((nl_ A : Nat) : Int)) (by omega) ?_
      refine k_aload_n hX.1 dX8_plans_16 rfl rfl ?_
      refine k_geti hX.1 dX8_plans_17 flX8_132 rfl (by decide) rfl ?_
      refine k_top (b := ((nl_ A : Nat) : Int)) (by omega) ?_
      refine k_imul hX.1 dX8_plans_20 ?_
      refine k_imul hX.1 dX8_plans_21 ?_
      refine k_top (b := (((nl_ A * nl_ A) ^ (k + 1) : Nat) : Int)) (by rw [Nat.pow_succ, Int.natCast_mul, Int.natCast_mul]) ?_
      refine k_istore_n hX.1 dX8_plans_22 rfl (by decide) rfl rfl ?_
      try simp only [List.set_cons_zero, List.set_cons_succ]
      refine k_iinc hX.1 dX8_plans_23 rfl (by decide) rfl rfl ?_
      try simp only [List.set_cons_zero, List.set_cons_succ]
      refine k_goto (tgt := 7) hX.1 dX8_plans_26 (by decide) ?_
      exact ih (k + 1) _ ⟨by omega, by omega⟩

set_option maxRecDepth 100000 in
set_option maxHeartbeats 4000000 in
theorem cM_plans (E : En) {A : St} {g : Mm} {n : Int} (hM : MW A g) (hW : WW A n) : Fn E 2 mX8_plans [vR 46] g (vI ((Pl A (A 12 0).toNat : Nat) : Int)) := by
  obtain ⟨⟨hm1, hm2, hm3⟩, hmp, hml⟩ := id hM
  obtain ⟨⟨hw1, hw2, hw3, hw4, hw5, hw6, hw7, hw8⟩, hwp, hwl⟩ := id hW
  have hnl : ((nl_ A : Nat) : Int) = A 12 2 := by unfold nl_; omega
  refine Ok_of gmX8_plans (by omega) (Nat.le_of_ble_eq_true rfl) (fun X hX => ?_)
  show V E X 0 [some (vR 46), none, none] [] g
  refine k_iconst hX.1 dX8_plans_0 ?_
  refine k_istore_n hX.1 dX8_plans_1 rfl (by decide) rfl rfl ?_
  try simp only [List.set_cons_zero, List.set_cons_succ]
  refine k_aload_n hX.1 dX8_plans_2 rfl rfl ?_
  refine k_callVf (d2 := 1) (n := 0) (as := []) hX.1 dX8_plans_3 lkX8_181 (fit_of hX (by omega) gmX8_openParts) rfl rfl (by decide) rfl rfl rfl (Nat.le_of_ble_eq_true rfl) (cM_openParts E hM hW) ?_
  refine k_istore_n hX.1 dX8_plans_6 rfl (by decide) rfl rfl ?_
  try simp only [List.set_cons_zero, List.set_cons_succ]
  exact lpM_plans E hM hW hX (cnt A (A 12 0).toNat) 0 _ ⟨by omega, oP_cnt A⟩

/-- the plan's rows alone are changed -/
def qF (g h : Mm) : Prop := h.2 = g.2 ∧ ∀ a, a < 59 ∨ 61 < a → h.1 a = g.1 a
theorem qF_rf (g : Mm) : qF g g := ⟨rfl, fun _ _ => rfl⟩
theorem qF_tr {g h k : Mm} (h1 : qF g h) (h2 : qF h k) : qF g k := ⟨h2.1.trans h1.1, fun a ha => (h2.2 a ha).trans (h1.2 a ha)⟩
theorem qF_w {g h : Mm} (h1 : qF g h) {i j : Nat} {v : Int} (hi : 59 ≤ i ∧ i ≤ 61) : qF g (wr h i j v) := ⟨h1.1, fun a ha => by rw [wr_off (by omega)]; exact h1.2 a ha⟩
theorem MW_qF {A : St} {g h : Mm} (hM : MW A g) (hy : qF g h) : MW A h := MW_fr hM (fun a h1 h2 => hy.2 a (by omega)) ⟨by rw [hy.2 46 (by omega)], by rw [hy.2 46 (by omega)], by rw [hy.2 46 (by omega)]⟩ ⟨rfl, rfl, rfl⟩ (fun _ _ _ _ => rfl) (fun _ _ _ _ _ => rfl)
theorem RM_qF {A : St} {g h : Mm} (hR : RM A g) (hy : qF g h) : RM A h := RM_scr hR (fun a h1 h2 h3 => hy.2 a (by omega)) (fun j _ _ => by rw [hy.2 46 (by omega)])
theorem sameC_qF {g h : Mm} (hy : qF g h) : sameC g h := fun a ha => ⟨hy.2 a (by omega), by rw [hy.1]⟩
def qN (A : St) (g : Mm) (c : Nat) (h : Mm) : Prop := qF g h ∧ ∀ q : Nat, (q : Int) < A 12 0 → h.1 59 q = pt A c q ∧ h.1 60 q = pcd A c q
def okI (A : St) (c : Nat) : Nat → Int
  | 0 => 1
  | t + 1 => if okI A c t = 1 ∧ ndS A c t (A 12 0).toNat ≤ rws A t then 1 else 0
theorem okI_01 (A : St) (c : Nat) : ∀ t, okI A c t = 0 ∨ okI A c t = 1
  | 0 => Or.inr rfl
  | t + 1 => by rw [okI]; split <;> omega
theorem okI_iff (A : St) (c : Nat) : ∀ n, okI A c n = 1 ↔ ∀ t, t < n → ndS A c t (A 12 0).toNat ≤ rws A t
  | 0 => ⟨fun _ q hq => by omega, fun _ => rfl⟩
  | n + 1 => by
    have ih := okI_iff A c n
    rw [okI]
    constructor
    · intro h q hq
      by_cases z : okI A c n = 1 ∧ ndS A c n (A 12 0).toNat ≤ rws A n
      · by_cases y : q = n
        · rw [y]; exact z.2
        · exact ih.1 z.1 q (by omega)
      · rw [if_neg z] at h; omega
    · intro h
      rw [if_pos ⟨ih.2 (fun q hq => h q (by omega)), h n (by omega)⟩]
theorem adc_bd {A : St} {n : Int} (hW : WW A n) {p : Nat} (hp : (p : Int) < A 12 0) (c t : Nat) : 0 ≤ adc A c p t ∧ adc A c p t ≤ 9 := by
  refine ⟨adc_nn hW hp c t, ?_⟩
  obtain ⟨-, h1, -⟩ := hW.2.1 p hp
  unfold adc
  split
  · have h := hf_bd hW hp (pa A (rp A p) c) (pb A (rp A p) c)
    unfold ad
    split <;> split <;> omega
  · omega
theorem nd_bd {A : St} {n : Int} (hW : WW A n) (c t : Nat) : ∀ r : Nat, r ≤ (A 12 0).toNat → 0 ≤ ndS A c t r ∧ ndS A c t r ≤ 9 * (r : Int)
  | 0, _ => by rw [ndS]; omega
  | r + 1, h => by
    rw [ndS]
    have h1 := nd_bd hW c t r (by omega)
    have h2 := adc_bd hW (p := rp A r) (by unfold rp; omega) c t
    omega
theorem dig_lt {A : St} (h : 0 < nl_ A) (r c : Nat) : pa A r c < nl_ A ∧ pb A r c < nl_ A := ⟨Nat.mod_lt _ h, Nat.mod_lt _ h⟩
theorem pt_bd {A : St} {n : Int} (hW : WW A n) (hl : ∀ p : Nat, (p : Int) < A 12 0 → A 2 p = -1 → 0 < nl_ A) {p : Nat} (hp : (p : Int) < A 12 0) (c : Nat) : 0 ≤ pt A c p ∧ pt A c p ≤ 40 := by
  unfold pt
  by_cases h : A 2 p = -1
  · rw [if_pos h]
    obtain ⟨d1, d2⟩ := dig_lt (hl p hp h) (rp A p) c
    have hn : ((nl_ A : Nat) : Int) = A 12 2 := by unfold nl_; have := hW.1.2.2.1; omega
    have h1 := (hW.2.2 (pa A (rp A p) c) (by omega)).1
    have h2 := (hW.2.2 (pb A (rp A p) c) (by omega)).1
    omega
  · rw [if_neg h]; exact (tn_bd hW hp).2 h
theorem pl_a (A : St) (k c : Nat) : ((c / Pl A k : Nat) : Int) / ((nl_ A : Nat) : Int) % ((nl_ A : Nat) : Int) = ((pa A k c : Nat) : Int) := rfl
theorem pl_b (A : St) (k c : Nat) : ((c / Pl A k : Nat) : Int) % ((nl_ A : Nat) : Int) = ((pb A k c : Nat) : Int) := rfl
theorem pl_d {A : St} {k c : Nat} (h : A 2 (rp A k) = -1) : ((c / Pl A k : Nat) : Int) / ((nl_ A * nl_ A : Nat) : Int) = ((c / Pl A (k + 1) : Nat) : Int) := by
  rw [Pl, if_pos h, Nat.mul_comm (nl_ A * nl_ A) (Pl A k), ← Nat.div_div_eq_div_mul]; rfl
theorem pl_n {A : St} {k : Nat} (h : ¬ A 2 (rp A k) = -1) : Pl A (k + 1) = Pl A k := by rw [Pl, if_neg h]
/-- after k parts from the last one on -/
def lI2 (A : St) (g : Mm) (c k : Nat) (h : Mm) : Prop := qF g h ∧ (∀ t, t < 3 → h.1 61 t = ndS A c t k) ∧ ∀ q, (A 12 0).toNat - k ≤ q → q < (A 12 0).toNat → h.1 59 q = pt A c q ∧ h.1 60 q = pcd A c q
theorem lI2_n {A : St} {g h : Mm} {c k p : Nat} (hI : lI2 A g c k h) (hp : p + 1 + k = (A 12 0).toNat) (ho : ¬ A 2 p = -1) : lI2 A g c (k + 1) (wr (wr h 60 p (-1)) 59 p (tn A p)) := by
  obtain ⟨h1, h2, h3⟩ := hI
  have hr : rp A k = p := by unfold rp; omega
  refine ⟨qF_w (qF_w h1 (by omega)) (by omega), fun t ht => ?_, fun q hq hq2 => ?_⟩
  · rw [wr_off (by omega), wr_off (by omega), h2 t ht, ndS, hr]; unfold adc; rw [if_neg ho, Int.zero_add]
  · by_cases z : q = p
    · subst z
      rw [wr_at, wr_off (by omega), wr_at]; unfold pt pcd; rw [if_neg ho, if_neg ho]; exact ⟨rfl, rfl⟩
    · rw [wr_1, if_neg (by omega), wr_off (a := 59) (by omega), wr_off (a := 60) (by omega), wr_1, if_neg (by omega)]
      exact h3 q (by omega) hq2
theorem lI2_o {A : St} {g h : Mm} {c k p a d : Nat} (hI : lI2 A g c k h) (hp : p + 1 + k = (A 12 0).toNat) (ho : A 2 p = -1) (ha : a = pa A k c) (hd : d = pb A k c) (h3a : a < 3) (h3d : d < 3) : lI2 A g c (k + 1) (wr (wr (wr (wr (wr (wr h 60 p (-1)) 59 p (tn A p)) 60 p (4 * (a : Int) + (d : Int))) 59 p (A 8 a + A 8 d)) 61 a (ndS A c a k + hf A p a d)) 61 d ((wr (wr (wr (wr (wr h 60 p (-1)) 59 p (tn A p)) 60 p (4 * (a : Int) + (d : Int))) 59 p (A 8 a + A 8 d)) 61 a (ndS A c a k + hf A p a d)).1 61 d + (A 1 p - hf A p a d))) := by
  obtain ⟨h1, h2, h3⟩ := hI
  have hr : rp A k = p := by unfold rp; omega
  have hr2 : rp A p = k := by unfold rp; omega
  refine ⟨qF_w (qF_w (qF_w (qF_w (qF_w (qF_w h1 (by omega)) (by omega)) (by omega)) (by omega)) (by omega)) (by omega), fun t ht => ?_, fun q hq hq2 => ?_⟩
  · have e : ndS A c t (k + 1) = ad A p a d t + ndS A c t k := by rw [ndS, hr]; unfold adc; rw [if_pos ho, hr2, ← ha, ← hd]
    have o1 : ∀ t, (wr (wr (wr (wr h 60 p (-1)) 59 p (tn A p)) 60 p (4 * (a : Int) + (d : Int))) 59 p (A 8 a + A 8 d)).1 61 t = h.1 61 t := fun t => by
      rw [wr_off (by omega), wr_off (by omega), wr_off (by omega), wr_off (by omega)]
    rw [e]
    unfold ad
    generalize wr (wr (wr (wr h 60 p (-1)) 59 p (tn A p)) 60 p (4 * (a : Int) + (d : Int))) 59 p (A 8 a + A 8 d) = H at o1 ⊢
    simp only [wr_1]
    rw [o1 t, o1 d, h2 t ht, h2 d h3d]
    by_cases y : t = d
    · subst y
      rw [if_pos ⟨trivial, rfl⟩, if_pos (rfl : t = t)]
      by_cases z : t = a
      · subst z; rw [if_pos ⟨trivial, rfl⟩, if_pos (rfl : t = t)]; omega
      · rw [if_neg (by omega), if_neg z]; omega
    · rw [if_neg (by omega), if_neg y]
      by_cases z : t = a
      · subst z; rw [if_pos ⟨trivial, rfl⟩, if_pos (rfl : t = t)]; omega
      · rw [if_neg (by omega), if_neg z]; omega
  · rw [wr_off (by omega), wr_off (by omega), wr_off (a := 60) (by omega), wr_off (a := 60) (by omega), wr_off (a := 60) (by omega)]
    by_cases z : q = p
    · subst z
      rw [wr_at, wr_at]; unfold pt pcd; rw [if_pos ho, if_pos ho, hr2, ← ha, ← hd]; exact ⟨rfl, rfl⟩
    · rw [wr_1, if_neg (by omega), wr_off (a := 59) (by omega), wr_1, if_neg (by omega), wr_off (a := 59) (by omega), wr_1, if_neg (by omega), wr_off (a := 60) (by omega), wr_1, if_neg (by omega)]
      exact h3 q (by omega) hq2
set_option maxRecDepth 100000 in
set_option maxHeartbeats 4000000 in
theorem lpM_lay3 (E : En) {A : St} {g : Mm} {n : Int} (hM : MW A g) (hW : WW A n) {c : Nat} (hc : c < 100000) (hl : ∀ p : Nat, (p : Int) < A 12 0 → A 2 p = -1 → 0 < nl_ A) {h : Mm} (hI : lI2 A g c (A 12 0).toNat h) {x : Int} {X : Cx} (hX : Wk E mX8_layPlan X 2 (fun r g' => r = some (vI (okI A c (nl_ A))) ∧ qN A g c g')) : ∀ (m : Nat) (t : Nat), m + t = nl_ A → V E X 197 [some (vR 46), some (vI (c : Int)), some (vI x), some (vI (okI A c t)), some (vI (t : Int)), none, none] [] h := by
  obtain ⟨⟨hm1, hm2, hm3⟩, hmp, hml⟩ := id hM
  obtain ⟨⟨hw1, hw2, hw3, hw4, hw5, hw6, hw7, hw8⟩, hwp, hwl⟩ := id hW
  have hnl : ((nl_ A : Nat) : Int) = A 12 2 := by unfold nl_; omega
  have hy := hI.1
  intro m
  induction m with
  | zero =>
    intro t hm
    refine k_iload hX.1 dX8_layPlan_197 rfl ?_
    refine k_aload_n hX.1 dX8_layPlan_199 rfl rfl ?_
    refine k_geti hX.1 dX8_layPlan_200 flX8_132 rfl (by decide) rfl ?_
    refine k_top (b := A 12 2) (by rw [hy.2 46 (by omega)]; exact hm2) ?_
    refine k_icmp_ge (tgt := 238) hX.1 dX8_layPlan_203 (by decide) (by omega) (by omega) (fun c_203 => ?_) (fun c_203 => ?_)
    · skip
      refine k_iload_n hX.1 dX8_layPlan_238 rfl rfl ?_
      refine k_zret hX dX8_layPlan_239 rfl (okI_01 A c t) ?_
      refine ⟨?_, hy, fun q hq => hI.2.2 q (by omega) (by omega)⟩
      rw [show t = nl_ A by omega]
    · skip
      exact absurd c_203 (by omega)
  | succ m ih =>
    intro t hm
    have v1 := okI_01 A c t
    have b1 := nd_bd hW c t (A 12 0).toNat (Nat.le_refl _)
    have t1 := hI.2.1 t (by omega)
    obtain ⟨e1, ⟨e2, e3⟩, ⟨e4, e5⟩⟩ := hwl t (by omega)
    have r1 : rws A t = 4 * A 9 t + A 10 t := rfl
    refine k_iload hX.1 dX8_layPlan_197 rfl ?_
    refine k_aload_n hX.1 dX8_layPlan_199 rfl rfl ?_
    refine k_geti hX.1 dX8_layPlan_200 flX8_132 rfl (by decide) rfl ?_
    refine k_top (b := A 12 2) (by rw [hy.2 46 (by omega)]; exact hm2) ?_
    refine k_icmp_ge (tgt := 238) hX.1 dX8_layPlan_203 (by decide) (by omega) (by omega) (fun c_203 => ?_) (fun c_203 => ?_)
    · skip
      exact absurd c_203 (by omega)
    · skip
      refine k_iload_n hX.1 dX8_layPlan_206 rfl rfl ?_
      refine k_join1 231 (fun z => z = okI A c (t + 1)) (fun x1 hx1 => ?_) (fun jn_207 => ?_)
      · skip
        subst hx1
        refine k_istore_n hX.1 dX8_layPlan_231 rfl (by decide) rfl rfl ?_
        try simp only [List.set_cons_zero, List.set_cons_succ]
        refine k_iinc hX.1 dX8_layPlan_232 rfl (by decide) rfl rfl ?_
        try simp only [List.set_cons_zero, List.set_cons_succ]
        refine k_goto (tgt := 197) hX.1 dX8_layPlan_235 (by decide) ?_
        exact ih (t + 1) (by omega)
      · refine k_if_eq (tgt := 230) hX.1 dX8_layPlan_207 (by decide) (by omega) (fun c_207 => ?_) (fun c_207 => ?_)
        · skip
          refine k_iconst hX.1 dX8_layPlan_230 ?_
          exact jn_207 _ (by rw [okI]; first | rw [if_pos ⟨by omega, by omega⟩] | rw [if_neg (fun z => by omega)])
        · skip
          refine k_aload_n hX.1 dX8_layPlan_210 rfl rfl ?_
          refine k_getr (t := 61) hX.1 dX8_layPlan_211 flX8_53 rfl (by decide) rfl rfl ?_
          refine k_iload hX.1 dX8_layPlan_214 rfl ?_
          refine k_iald (j := t) hX.1 dX8_layPlan_216 rfl (by omega) (n := 3) rfl (by omega) (by omega) ?_
          refine k_top t1 ?_
          refine k_aload_n hX.1 dX8_layPlan_217 rfl rfl ?_
          refine k_iload hX.1 dX8_layPlan_218 rfl ?_
          refine k_callVf (d2 := 1) (n := 1) (as := [_]) hX.1 dX8_layPlan_220 lkX8_165 (fit_of hX (by omega) gmX8_rowsIn) rfl rfl (by decide) rfl rfl rfl (Nat.le_of_ble_eq_true rfl) (cM_rowsIn E (MW_qF hM hy) hW (t := t) (by omega)) ?_
          refine k_icmp_gt (tgt := 230) hX.1 dX8_layPlan_223 (by decide) (by omega) (by omega) (fun c_223 => ?_) (fun c_223 => ?_)
          · skip
            refine k_iconst hX.1 dX8_layPlan_230 ?_
            exact jn_207 _ (by rw [okI]; first | rw [if_pos ⟨by omega, by omega⟩] | rw [if_neg (fun z => by omega)])
          · skip
            refine k_iconst hX.1 dX8_layPlan_226 ?_
            refine k_goto (tgt := 231) hX.1 dX8_layPlan_227 (by decide) ?_
            exact jn_207 _ (by rw [okI]; first | rw [if_pos ⟨by omega, by omega⟩] | rw [if_neg (fun z => by omega)])

set_option maxRecDepth 100000 in
set_option maxHeartbeats 4000000 in
theorem lpM_lay2 (E : En) {A : St} {g : Mm} {n : Int} (hM : MW A g) (hW : WW A n) {c : Nat} (hc : c < 100000) (hl : ∀ p : Nat, (p : Int) < A 12 0 → A 2 p = -1 → 0 < nl_ A) {X : Cx} (hX : Wk E mX8_layPlan X 2 (fun r g' => r = some (vI (okI A c (nl_ A))) ∧ qN A g c g')) : ∀ (m : Nat) (k : Nat) (x : Int) (h : Mm), m + k = (A 12 0).toNat ∧ x = (m : Int) - 1 ∧ lI2 A g c k h → V E X 29 [some (vR 46), some (vI (c : Int)), some (vI ((c / Pl A k : Nat) : Int)), some (vI x), none, none, none] [] h := by
  obtain ⟨⟨hm1, hm2, hm3⟩, hmp, hml⟩ := id hM
  obtain ⟨⟨hw1, hw2, hw3, hw4, hw5, hw6, hw7, hw8⟩, hwp, hwl⟩ := id hW
  have hnl : ((nl_ A : Nat) : Int) = A 12 2 := by unfold nl_; omega
  intro m
  induction m with
  | zero =>
    intro k x h ⟨hm, hx, hI⟩
    obtain rfl : k = (A 12 0).toNat := by omega
    obtain rfl : x = -1 := by omega
    refine k_iload_n hX.1 dX8_layPlan_29 rfl rfl ?_
    refine k_if_lt (tgt := 192) hX.1 dX8_layPlan_30 (by decide) (by omega) (fun c_30 => ?_) (fun c_30 => ?_)
    · skip
      refine k_iconst hX.1 dX8_layPlan_192 ?_
      refine k_istore_n hX.1 dX8_layPlan_193 rfl (by decide) rfl rfl ?_
      try simp only [List.set_cons_zero, List.set_cons_succ]
      refine k_iconst hX.1 dX8_layPlan_194 ?_
      refine k_istore hX.1 dX8_layPlan_195 (by decide) rfl rfl ?_
      try simp only [List.set_cons_zero, List.set_cons_succ]
      exact k_sub (by repeat first | exact trivial | refine And.intro rfl ?_) (lpM_lay3 E hM hW hc hl hI hX (nl_ A) 0 (by omega))
    · skip
      exact absurd c_30 (by omega)
  | succ m ih =>
    intro k x h ⟨hm, hx, hI⟩
    have hx2 : x = (m : Int) := by omega
    subst hx2
    have hy := hI.1
    obtain ⟨e0, e1, e2, -⟩ := hmp m (by omega)
    obtain ⟨-, er, -⟩ := hwp m (by omega)
    have hd0 := Int.natCast_nonneg (c / Pl A k)
    have hd1 := Nat.div_le_self c (Pl A k)
    have hrk : rp A k = m := by unfold rp; omega
    refine k_iload_n hX.1 dX8_layPlan_29 rfl rfl ?_
    refine k_if_lt (tgt := 192) hX.1 dX8_layPlan_30 (by decide) (by omega) (fun c_30 => ?_) (fun c_30 => ?_)
    · skip
      exact absurd c_30 (by omega)
    · skip
      refine k_aload_n hX.1 dX8_layPlan_33 rfl rfl ?_
      refine k_getr (t := 60) hX.1 dX8_layPlan_34 flX8_50 rfl (by decide) rfl rfl ?_
      refine k_iload_n hX.1 dX8_layPlan_37 rfl rfl ?_
      refine k_iconst hX.1 dX8_layPlan_38 ?_
      refine k_iast (j := m) hX.1 dX8_layPlan_39 rfl (by omega) (n := 5) rfl (by omega) (by omega) ?_
      refine k_aload_n hX.1 dX8_layPlan_40 rfl rfl ?_
      refine k_getr (t := 59) hX.1 dX8_layPlan_41 flX8_47 rfl (by decide) rfl rfl ?_
      refine k_iload_n hX.1 dX8_layPlan_44 rfl rfl ?_
      refine k_aload_n hX.1 dX8_layPlan_45 rfl rfl ?_
      refine k_iload_n hX.1 dX8_layPlan_46 rfl rfl ?_
      refine k_callVf (d2 := 1) (n := 1) (as := [_]) hX.1 dX8_layPlan_47 lkX8_138 (fit_of hX (by omega) gmX8_toneOf) rfl rfl (by decide) rfl rfl rfl (Nat.le_of_ble_eq_true rfl) (cM_toneOf E (MW_qF hM (qF_w hy (by omega))) hW (p := m) (by omega)) ?_
      refine k_iast (j := m) hX.1 dX8_layPlan_50 rfl (by omega) (n := 5) rfl (by omega) (by omega) ?_
      refine k_aload_n hX.1 dX8_layPlan_51 rfl rfl ?_
      refine k_getr (t := 49) hX.1 dX8_layPlan_52 flX8_16 rfl (by decide) rfl rfl ?_
      refine k_iload_n hX.1 dX8_layPlan_55 rfl rfl ?_
      refine k_iald (j := m) hX.1 dX8_layPlan_56 rfl (by omega) (n := 5) rfl (by omega) (by omega) ?_
      refine k_top (b := A 2 m) (by (repeat rw [wr_off (by omega)]); rw [hy.2 49 (by omega)]; exact e2) ?_
      refine k_iconst hX.1 dX8_layPlan_57 ?_
      refine k_icmp_ne (tgt := 186) hX.1 dX8_layPlan_58 (by decide) (by have := (hwp m (by omega)).2.2.1; omega) (by omega) (fun c_58 => ?_) (fun c_58 => ?_)
      · skip
        have ho : ¬ A 2 m = -1 := by omega
        have hP := pl_n (A := A) (k := k) (by rw [hrk]; exact ho)
        refine k_iinc hX.1 dX8_layPlan_186 rfl (by decide) rfl rfl ?_
        try simp only [List.set_cons_zero, List.set_cons_succ]
        refine k_goto (tgt := 29) hX.1 dX8_layPlan_189 (by decide) ?_
        first
          | (have hq := ih (k + 1) ((m : Int) + -1) _ ⟨by omega, by omega, lI2_n hI (by omega) ho⟩; rw [hP] at hq; exact k_sub (by repeat first | exact trivial | refine And.intro rfl ?_) hq)
          | (have hq := da; exact k_sub (by repeat first | exact trivial | refine And.intro rfl ?_) (ih (k + 1) _ _ ⟨by omega, by omega, lI2_o hI (by omega) ho rfl rfl (by omega) (by omega)⟩))
      · skip
        have ho : A 2 m = -1 := by omega
        have hn0 := hl m (by omega) ho
        obtain ⟨da, db⟩ := dig_lt hn0 k c
        have hmm : 0 < nl_ A * nl_ A ∧ nl_ A * nl_ A ≤ 9 := by
          rcases (show nl_ A = 1 ∨ nl_ A = 2 ∨ nl_ A = 3 by omega) with z | z | z <;> rw [z] <;> decide
        have hda : ((c / Pl A k : Nat) : Int) / ((nl_ A : Nat) : Int) = ((c / Pl A k / nl_ A : Nat) : Int) := rfl
        have hdb := Nat.div_le_self (c / Pl A k) (nl_ A)
        have hdz := Int.natCast_nonneg (c / Pl A k / nl_ A)
        have hhb := hf_bd hW (p := m) (by omega) (pa A k c) (pb A k c)
        refine k_iload_n hX.1 dX8_layPlan_61 rfl rfl ?_
        refine k_aload_n hX.1 dX8_layPlan_62 rfl rfl ?_
        refine k_geti hX.1 dX8_layPlan_63 flX8_132 rfl (by decide) rfl ?_
        refine k_top (b := ((nl_ A : Nat) : Int)) (by (repeat rw [wr_off (by omega)]); rw [hy.2 46 (by omega)]; omega) ?_
        refine k_top (b := ((nl_ A : Nat) : Int)) rfl ?_
        refine k_idiv hX.1 dX8_layPlan_66 (by omega) (by omega) ?_
        refine k_top hda ?_
        refine k_aload_n hX.1 dX8_layPlan_67 rfl rfl ?_
        refine k_geti hX.1 dX8_layPlan_68 flX8_132 rfl (by decide) rfl ?_
        refine k_top (b := ((nl_ A : Nat) : Int)) (by (repeat rw [wr_off (by omega)]); rw [hy.2 46 (by omega)]; omega) ?_
        refine k_irem hX.1 dX8_layPlan_71 (by omega) (by omega) ?_
        refine k_top (b := ((pa A k c : Nat) : Int)) rfl ?_
        refine k_istore hX.1 dX8_layPlan_72 (by decide) rfl rfl ?_
        try simp only [List.set_cons_zero, List.set_cons_succ]
        refine k_iload_n hX.1 dX8_layPlan_74 rfl rfl ?_
        refine k_aload_n hX.1 dX8_layPlan_75 rfl rfl ?_
        refine k_geti hX.1 dX8_layPlan_76 flX8_132 rfl (by decide) rfl ?_
        refine k_top (b := ((nl_ A : Nat) : Int)) (by (repeat rw [wr_off (by omega)]); rw [hy.2 46 (by omega)]; omega) ?_
        refine k_irem hX.1 dX8_layPlan_79 (by omega) (by omega) ?_
        refine k_top (pl_b A k c) ?_
        refine k_istore hX.1 dX8_layPlan_80 (by decide) rfl rfl ?_
        try simp only [List.set_cons_zero, List.set_cons_succ]
        refine k_iload_n hX.1 dX8_layPlan_82 rfl rfl ?_
        refine k_aload_n hX.1 dX8_layPlan_83 rfl rfl ?_
        refine k_geti hX.1 dX8_layPlan_84 flX8_132 rfl (by decide) rfl ?_
        refine k_top (b := ((nl_ A : Nat) : Int)) (by (repeat rw [wr_off (by omega)]); rw [hy.2 46 (by omega)]; omega) ?_
        refine k_aload_n hX.1 dX8_layPlan_87 rfl rfl ?_
        refine k_geti hX.1 dX8_layPlan_88 flX8_132 rfl (by decide) rfl ?_
        refine k_top (b := ((nl_ A : Nat) : Int)) (by (repeat rw [wr_off (by omega)]); rw [hy.2 46 (by omega)]; omega) ?_
        refine k_imul hX.1 dX8_layPlan_91 ?_
        refine k_top (b := ((nl_ A * nl_ A : Nat) : Int)) (by rw [Int.natCast_mul]) ?_
        refine k_idiv hX.1 dX8_layPlan_92 (by omega) (by omega) ?_
        refine k_top (pl_d (A := A) (k := k) (c := c) (by rw [hrk]; exact ho)) ?_
        refine k_istore_n hX.1 dX8_layPlan_93 rfl (by decide) rfl rfl ?_
        try simp only [List.set_cons_zero, List.set_cons_succ]
        refine k_aload_n hX.1 dX8_layPlan_94 rfl rfl ?_
        refine k_getr (t := 60) hX.1 dX8_layPlan_95 flX8_50 rfl (by decide) rfl rfl ?_
        refine k_iload_n hX.1 dX8_layPlan_98 rfl rfl ?_
        refine k_iconst hX.1 dX8_layPlan_99 ?_
        refine k_iload hX.1 dX8_layPlan_100 rfl ?_
        refine k_imul hX.1 dX8_layPlan_102 ?_
        refine k_iload hX.1 dX8_layPlan_103 rfl ?_
        refine k_iadd hX.1 dX8_layPlan_105 ?_
        refine k_iast (j := m) hX.1 dX8_layPlan_106 rfl (by omega) (n := 5) rfl (by omega) (by omega) ?_
        refine k_aload_n hX.1 dX8_layPlan_107 rfl rfl ?_
        refine k_getr (t := 59) hX.1 dX8_layPlan_108 flX8_47 rfl (by decide) rfl rfl ?_
        refine k_iload_n hX.1 dX8_layPlan_111 rfl rfl ?_
        refine k_aload_n hX.1 dX8_layPlan_112 rfl rfl ?_
        refine k_getr (t := 55) hX.1 dX8_layPlan_113 flX8_34 rfl (by decide) rfl rfl ?_
        refine k_iload hX.1 dX8_layPlan_116 rfl ?_
        refine k_iald (j := pa A k c) hX.1 dX8_layPlan_118 rfl (by omega) (n := 3) rfl (by omega) (by omega) ?_
        refine k_top (b := A 8 (pa A k c)) (by (repeat rw [wr_off (by omega)]); rw [hy.2 55 (by omega)]; exact (hml _ (by omega)).1) ?_
        refine k_aload_n hX.1 dX8_layPlan_119 rfl rfl ?_
        refine k_getr (t := 55) hX.1 dX8_layPlan_120 flX8_34 rfl (by decide) rfl rfl ?_
        refine k_iload hX.1 dX8_layPlan_123 rfl ?_
        refine k_iald (j := pb A k c) hX.1 dX8_layPlan_125 rfl (by omega) (n := 3) rfl (by omega) (by omega) ?_
        refine k_top (b := A 8 (pb A k c)) (by (repeat rw [wr_off (by omega)]); rw [hy.2 55 (by omega)]; exact (hml _ (by omega)).1) ?_
        refine k_iadd hX.1 dX8_layPlan_126 ?_
        refine k_iast (j := m) hX.1 dX8_layPlan_127 rfl (by omega) (n := 5) rfl (by omega) (by omega) ?_
        refine k_iload hX.1 dX8_layPlan_128 rfl ?_
        refine k_iload hX.1 dX8_layPlan_130 rfl ?_
        refine k_join2 153 (fun z => z = hf A m (pa A k c) (pb A k c)) (fun x1 hx1 => ?_) (fun jn_132 => ?_)
        · skip
          subst hx1
          refine k_istore hX.1 dX8_layPlan_153 (by decide) rfl rfl ?_
          try simp only [List.set_cons_zero, List.set_cons_succ]
          refine k_aload_n hX.1 dX8_layPlan_155 rfl rfl ?_
          refine k_getr (t := 61) hX.1 dX8_layPlan_156 flX8_53 rfl (by decide) rfl rfl ?_
          refine k_iload hX.1 dX8_layPlan_159 rfl ?_
          refine k_dup2 hX.1 dX8_layPlan_161 ?_
          refine k_iald (j := pa A k c) hX.1 dX8_layPlan_162 rfl (by omega) (n := 3) rfl (by omega) (by omega) ?_
          refine k_top (b := ndS A c (pa A k c) k) (by (repeat rw [wr_off (by omega)]); exact hI.2.1 _ (by omega)) ?_
          refine k_iload hX.1 dX8_layPlan_163 rfl ?_
          refine k_iadd hX.1 dX8_layPlan_165 ?_
          refine k_iast (j := pa A k c) hX.1 dX8_layPlan_166 rfl (by omega) (n := 3) rfl (by omega) (by omega) ?_
          refine k_aload_n hX.1 dX8_layPlan_167 rfl rfl ?_
          refine k_getr (t := 61) hX.1 dX8_layPlan_168 flX8_53 rfl (by decide) rfl rfl ?_
          refine k_iload hX.1 dX8_layPlan_171 rfl ?_
          refine k_dup2 hX.1 dX8_layPlan_173 ?_
          refine k_iald (j := pb A k c) hX.1 dX8_layPlan_174 rfl (by omega) (n := 3) rfl (by omega) (by omega) ?_
          refine k_aload_n hX.1 dX8_layPlan_175 rfl rfl ?_
          refine k_getr (t := 48) hX.1 dX8_layPlan_176 flX8_13 rfl (by decide) rfl rfl ?_
          refine k_iload_n hX.1 dX8_layPlan_179 rfl rfl ?_
          refine k_iald (j := m) hX.1 dX8_layPlan_180 rfl (by omega) (n := 5) rfl (by omega) (by omega) ?_
          refine k_top (b := A 1 m) (by (repeat rw [wr_off (by omega)]); rw [hy.2 48 (by omega)]; exact e1) ?_
          refine k_iload hX.1 dX8_layPlan_181 rfl ?_
          refine k_isub hX.1 dX8_layPlan_183 ?_
          refine k_iadd hX.1 dX8_layPlan_184 ?_
          refine k_iast (j := pb A k c) hX.1 dX8_layPlan_185 rfl (by omega) (n := 3) rfl (by omega) (by omega) ?_
          refine k_iinc hX.1 dX8_layPlan_186 rfl (by decide) rfl rfl ?_
          try simp only [List.set_cons_zero, List.set_cons_succ]
          refine k_goto (tgt := 29) hX.1 dX8_layPlan_189 (by decide) ?_
          first
            | (have hq := ih (k + 1) ((m : Int) + -1) _ ⟨by omega, by omega, lI2_n hI (by omega) ho⟩; rw [hP] at hq; exact k_sub (by repeat first | exact trivial | refine And.intro rfl ?_) hq)
            | (have hq := da; exact k_sub (by repeat first | exact trivial | refine And.intro rfl ?_) (ih (k + 1) _ _ ⟨by omega, by omega, lI2_o hI (by omega) ho rfl rfl (by omega) (by omega)⟩))
        · refine k_icmp_ne (tgt := 144) hX.1 dX8_layPlan_132 (by decide) (by omega) (by omega) (fun c_132 => ?_) (fun c_132 => ?_)
          · skip
            refine k_aload_n hX.1 dX8_layPlan_144 rfl rfl ?_
            refine k_getr (t := 48) hX.1 dX8_layPlan_145 flX8_13 rfl (by decide) rfl rfl ?_
            refine k_iload_n hX.1 dX8_layPlan_148 rfl rfl ?_
            refine k_iald (j := m) hX.1 dX8_layPlan_149 rfl (by omega) (n := 5) rfl (by omega) (by omega) ?_
            refine k_top (b := A 1 m) (by (repeat rw [wr_off (by omega)]); rw [hy.2 48 (by omega)]; exact e1) ?_
            refine k_callSf (d2 := 1) (n := 1) (as := [_]) hX.1 dX8_layPlan_150 lkX8_162 (fit_of hX (by omega) gmX8_firstHalf) rfl rfl (Nat.le_of_ble_eq_true rfl) (cM_half E _ (by omega)) ?_
            exact jn_132 _ (by unfold hf; first | rw [if_pos (by omega)] | rw [if_neg (by omega)])
          · skip
            refine k_aload_n hX.1 dX8_layPlan_135 rfl rfl ?_
            refine k_getr (t := 48) hX.1 dX8_layPlan_136 flX8_13 rfl (by decide) rfl rfl ?_
            refine k_iload_n hX.1 dX8_layPlan_139 rfl rfl ?_
            refine k_iald (j := m) hX.1 dX8_layPlan_140 rfl (by omega) (n := 5) rfl (by omega) (by omega) ?_
            refine k_top (b := A 1 m) (by (repeat rw [wr_off (by omega)]); rw [hy.2 48 (by omega)]; exact e1) ?_
            refine k_goto (tgt := 153) hX.1 dX8_layPlan_141 (by decide) ?_
            exact jn_132 _ (by unfold hf; first | rw [if_pos (by omega)] | rw [if_neg (by omega)])
