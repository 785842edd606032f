/-! ===== all plans by their codes ===== -/
theorem fN_congr {f h : Nat → BS → BS} : ∀ {n : Nat} {b : BS}, (∀ i b, i < n → f i b = h i b) → fN f n b = fN h n b
  | 0, _, _ => rfl
  | n + 1, b, e => by rw [fN, fN, fN_congr (fun i b hi => e i b (by omega)), e n _ (by omega)]
theorem fN_add (f : Nat → BS → BS) (a : Nat) (b0 : BS) : ∀ b, fN f (a + b) b0 = fN (fun k => f (a + k)) b (fN f a b0)
  | 0 => rfl
  | b + 1 => by rw [← Nat.add_assoc, fN, fN_add f a b0 b, fN]
theorem fN_mul (f : Nat → BS → BS) (P : Nat) (b0 : BS) : ∀ m, fN f (m * P) b0 = fN (fun e b1 => fN (fun k b2 => f (e * P + k) b2) P b1) m b0
  | 0 => by rw [Nat.zero_mul]; rfl
  | m + 1 => by rw [Nat.succ_mul, fN_add, fN_mul f P b0 m, fN]
def nl_ (A : St) : Nat := (A 12 2).toNat
/-- how many codes the last r parts have -/
def Pl (A : St) : Nat → Nat
  | 0 => 1
  | r + 1 => if A 2 ((A 12 0).toNat - 1 - r) = -1 then nl_ A * nl_ A * Pl A r else Pl A r
def pa (A : St) (r c : Nat) : Nat := c / Pl A r / nl_ A % nl_ A
def pb (A : St) (r c : Nat) : Nat := c / Pl A r % nl_ A
abbrev rp (A : St) (p : Nat) : Nat := (A 12 0).toNat - 1 - p
def pt (A : St) (c p : Nat) : Int := if A 2 p = -1 then A 8 (pa A (rp A p) c) + A 8 (pb A (rp A p) c) else tn A p
def pcd (A : St) (c p : Nat) : Int := if A 2 p = -1 then 4 * (pa A (rp A p) c : Int) + (pb A (rp A p) c : Int) else -1
def ad (A : St) (p a d t : Nat) : Int := (if t = a then hf A p a d else 0) + (if t = d then A 1 p - hf A p a d else 0)
def adc (A : St) (c p t : Nat) : Int := if A 2 p = -1 then ad A p (pa A (rp A p) c) (pb A (rp A p) c) t else 0
/-- what the last r parts need of lot t -/
def ndS (A : St) (c t : Nat) : Nat → Int
  | 0 => 0
  | r + 1 => adc A c (rp A r) t + ndS A c t r
def snT (A : St) (c : Nat) : Nat → Int → Int
  | 0, _ => 0
  | r + 1, x => sw A (rp A r) x (pt A c (rp A r)) + snT A c r (pt A c (rp A r))
def cdT (A : St) (c : Nat) : Nat → (Nat → Int) → (Nat → Int)
  | 0, c0 => c0
  | r + 1, c0 => cdT A c r (fu c0 (rp A r) (pcd A c (rp A r)))
/-- one code tried -/
def FP (A : St) (r : Nat) (x : Int) (l : Nat → Int) (s : Int) (c0 : Nat → Int) (k : Nat) (b : BS) : BS := if ∀ t, t < nl_ A → ndS A k t r ≤ l t then ub b (s + snT A k r x) (cdT A k r c0) else b
theorem Pl_dvd (A : St) (r1 : Nat) : ∀ r, r1 ≤ r → ∃ z, Pl A r = z * Pl A r1
  | r, h => by
    by_cases e : r = r1
    · subst e; exact ⟨1, by rw [Nat.one_mul]⟩
    · cases r with
      | zero => omega
      | succ r =>
        obtain ⟨z, hz⟩ := Pl_dvd A r1 r (by omega)
        rw [Pl]
        split
        · exact ⟨nl_ A * nl_ A * z, by rw [hz, Nat.mul_assoc (nl_ A * nl_ A)]⟩
        · exact ⟨z, hz⟩
theorem dig_inv {A : St} {r1 r : Nat} (hr : r1 < r) (ho : A 2 (rp A r1) = -1) (hP : 0 < Pl A r) (e k : Nat) : pa A r1 (e * Pl A r + k) = pa A r1 k ∧ pb A r1 (e * Pl A r + k) = pb A r1 k := by
  obtain ⟨z, hz⟩ := Pl_dvd A (r1 + 1) r hr
  rw [Pl, if_pos ho] at hz
  have h1 : 0 < Pl A r1 := by
    rcases Nat.eq_zero_or_pos (Pl A r1) with q | q
    · rw [q, Nat.mul_zero, Nat.mul_zero] at hz; omega
    · exact q
  have h2 : 0 < nl_ A := by
    rcases Nat.eq_zero_or_pos (nl_ A) with q | q
    · rw [q] at hz; simp at hz; omega
    · exact q
  have e1 : (e * Pl A r + k) / Pl A r1 = (e * z * nl_ A) * nl_ A + k / Pl A r1 := by
    rw [hz, show e * (z * (nl_ A * nl_ A * Pl A r1)) + k = k + Pl A r1 * ((e * z * nl_ A) * nl_ A) by
      rw [Nat.add_comm]; congr 1; simp only [Nat.mul_assoc, Nat.mul_comm, Nat.mul_left_comm]]
    rw [Nat.add_mul_div_left _ _ h1, Nat.add_comm]
  constructor
  · unfold pa
    rw [e1, Nat.add_comm, Nat.add_mul_div_right _ _ h2, Nat.add_mul_mod_self_right]
  · unfold pb
    rw [e1, Nat.add_comm, Nat.add_mul_mod_self_right]
theorem dig_top {A : St} {r a d k : Nat} (hk : k < Pl A r) (ha : a < nl_ A) (hd : d < nl_ A) : pa A r ((a * nl_ A + d) * Pl A r + k) = a ∧ pb A r ((a * nl_ A + d) * Pl A r + k) = d := by
  have e1 : ((a * nl_ A + d) * Pl A r + k) / Pl A r = a * nl_ A + d := by
    rw [Nat.add_comm, Nat.add_mul_div_right _ _ (by omega), Nat.div_eq_of_lt hk, Nat.zero_add]
  constructor
  · unfold pa
    rw [e1, Nat.add_comm, Nat.add_mul_div_right _ _ (by omega), Nat.div_eq_of_lt hd, Nat.zero_add, Nat.mod_eq_of_lt ha]
  · unfold pb
    rw [e1, Nat.add_comm, Nat.add_mul_mod_self_right, Nat.mod_eq_of_lt hd]
theorem rp_rp {A : St} {r : Nat} (h : r < (A 12 0).toNat) : rp A (rp A r) = r := by unfold rp; omega
theorem pt_inv {A : St} {r1 r : Nat} (hr : r1 < r) (hN : r ≤ (A 12 0).toNat) (hP : 0 < Pl A r) (e k t : Nat) : pt A (e * Pl A r + k) (rp A r1) = pt A k (rp A r1) ∧ pcd A (e * Pl A r + k) (rp A r1) = pcd A k (rp A r1) ∧ adc A (e * Pl A r + k) (rp A r1) t = adc A k (rp A r1) t := by
  unfold pt pcd adc
  rw [rp_rp (by omega)]
  by_cases ho : A 2 (rp A r1) = -1
  · obtain ⟨q1, q2⟩ := dig_inv hr ho hP e k
    rw [if_pos ho, if_pos ho, if_pos ho, if_pos ho, if_pos ho, if_pos ho, q1, q2]
    exact ⟨rfl, rfl, rfl⟩
  · rw [if_neg ho, if_neg ho, if_neg ho, if_neg ho, if_neg ho, if_neg ho]
    exact ⟨rfl, rfl, rfl⟩
theorem nd_inv {A : St} {r : Nat} (hN : r ≤ (A 12 0).toNat) (hP : 0 < Pl A r) (e k t : Nat) : ∀ r1, r1 ≤ r → ndS A (e * Pl A r + k) t r1 = ndS A k t r1
  | 0, _ => rfl
  | r1 + 1, h => by rw [ndS, ndS, nd_inv hN hP e k t r1 (by omega), (pt_inv (r1 := r1) (by omega) hN hP e k t).2.2]
theorem sn_inv {A : St} {r : Nat} (hN : r ≤ (A 12 0).toNat) (hP : 0 < Pl A r) (e k : Nat) : ∀ r1 x, r1 ≤ r → snT A (e * Pl A r + k) r1 x = snT A k r1 x
  | 0, _, _ => rfl
  | r1 + 1, x, h => by rw [snT, snT, (pt_inv (r1 := r1) (by omega) hN hP e k 0).1, sn_inv hN hP e k r1 _ (by omega)]
theorem cd_inv {A : St} {r : Nat} (hN : r ≤ (A 12 0).toNat) (hP : 0 < Pl A r) (e k : Nat) : ∀ r1 c0, r1 ≤ r → cdT A (e * Pl A r + k) r1 c0 = cdT A k r1 c0
  | 0, _, _ => rfl
  | r1 + 1, c0, h => by rw [cdT, cdT, (pt_inv (r1 := r1) (by omega) hN hP e k 0).2.1, cd_inv hN hP e k r1 _ (by omega)]
theorem hf_bd {A : St} {n : Int} (hW : WW A n) {p : Nat} (hp : (p : Int) < A 12 0) (a d : Nat) : 0 ≤ hf A p a d ∧ hf A p a d ≤ A 1 p ∧ (a = d → hf A p a d = A 1 p) := by
  obtain ⟨-, h1, -⟩ := hW.2.1 p hp
  unfold hf
  refine ⟨by split <;> omega, by split <;> omega, fun e => by rw [if_pos (by omega)]⟩
theorem adc_nn {A : St} {n : Int} (hW : WW A n) {p : Nat} (hp : (p : Int) < A 12 0) (c t : Nat) : 0 ≤ adc A c p t := by
  unfold adc
  split
  · have h := hf_bd hW hp (pa A (rp A p) c) (pb A (rp A p) c)
    unfold ad
    split <;> split <;> omega
  · omega
theorem nd_nn {A : St} {n : Int} (hW : WW A n) (c t : Nat) : ∀ r, r ≤ (A 12 0).toNat → 0 ≤ ndS A c t r
  | 0, _ => by rw [ndS]; omega
  | r + 1, h => by
    rw [ndS]
    have h1 := nd_nn hW c t r (by omega)
    have h2 := adc_nn hW (p := rp A r) (by unfold rp; omega) c t
    omega
theorem lf_ad {A : St} {p a d : Nat} {l : Nat → Int} (t : Nat) (hh : a = d → hf A p a d = A 1 p) : lf A p a d l t = l t - ad A p a d t := by
  unfold lf ad fu
  by_cases z : a = d
  · subst z
    by_cases y : t = a
    · subst y; simp; omega
    · simp [y]
  · by_cases y : t = d
    · subst y
      rw [if_pos rfl, if_neg (by omega), if_neg (by omega), if_pos rfl]; omega
    · rw [if_neg y]
      by_cases w : t = a
      · subst w; simp; omega
      · simp [w]; omega
theorem need_iff {A : St} {n : Int} (hW : WW A n) {p a d : Nat} (hp : (p : Int) < A 12 0) {l m : Nat → Int} (ha : a < nl_ A) (hd : d < nl_ A) (hm : ∀ t, 0 ≤ m t) : ((hf A p a d ≤ l a ∧ A 1 p - hf A p a d ≤ l d) ∧ ∀ t, t < nl_ A → m t ≤ lf A p a d l t) ↔ ∀ t, t < nl_ A → ad A p a d t + m t ≤ l t := by
  obtain ⟨h1, h2, h3⟩ := hf_bd hW hp a d
  constructor
  · rintro ⟨-, h⟩ t ht
    have := h t ht
    rw [lf_ad t h3] at this
    omega
  · intro h
    have ea := h a ha
    have ed := h d hd
    have ma := hm a
    have md := hm d
    refine ⟨⟨?_, ?_⟩, fun t ht => by rw [lf_ad t h3]; have := h t ht; omega⟩
    · have : hf A p a d ≤ ad A p a d a := by unfold ad; rw [if_pos rfl]; split <;> omega
      omega
    · have : A 1 p - hf A p a d ≤ ad A p a d d := by unfold ad; rw [if_pos (rfl : d = d)]; split <;> omega
      omega
theorem FP_top {A : St} {n : Int} (hW : WW A n) {r p a d k : Nat} {x : Int} {l : Nat → Int} {s : Int} {c0 : Nat → Int} {b : BS} (hp : p + (r + 1) = (A 12 0).toNat) (ho : A 2 p = -1) (ha : a < nl_ A) (hd : d < nl_ A) (hk : k < Pl A r) : FP A (r + 1) x l s c0 ((a * nl_ A + d) * Pl A r + k) b = if hf A p a d ≤ l a ∧ A 1 p - hf A p a d ≤ l d then FP A r (A 8 a + A 8 d) (lf A p a d l) (s + sw A p x (A 8 a + A 8 d)) (fu c0 p (4 * (a : Int) + d)) k b else b := by
  have hpr : rp A r = p := by unfold rp; omega
  have hrp : rp A p = r := by unfold rp; omega
  have hP : 0 < Pl A r := by omega
  obtain ⟨q1, q2⟩ := dig_top (A := A) (r := r) hk ha hd
  have e1 : pt A ((a * nl_ A + d) * Pl A r + k) p = A 8 a + A 8 d := by unfold pt; rw [if_pos ho, hrp, q1, q2]
  have e2 : pcd A ((a * nl_ A + d) * Pl A r + k) p = 4 * (a : Int) + d := by unfold pcd; rw [if_pos ho, hrp, q1, q2]
  have e3 : ∀ t, ndS A ((a * nl_ A + d) * Pl A r + k) t (r + 1) = ad A p a d t + ndS A k t r := fun t => by
    rw [ndS, nd_inv (by omega) hP _ k t r (Nat.le_refl r), hpr]; unfold adc; rw [if_pos ho, hrp, q1, q2]
  have e4 : snT A ((a * nl_ A + d) * Pl A r + k) (r + 1) x = sw A p x (A 8 a + A 8 d) + snT A k r (A 8 a + A 8 d) := by
    rw [snT, hpr, e1, sn_inv (by omega) hP _ k r _ (Nat.le_refl r)]
  have e5 : cdT A ((a * nl_ A + d) * Pl A r + k) (r + 1) c0 = cdT A k r (fu c0 p (4 * (a : Int) + d)) := by
    rw [cdT, hpr, e2, cd_inv (by omega) hP _ k r _ (Nat.le_refl r)]
  have hi := need_iff hW (p := p) (a := a) (d := d) (by omega) (l := l) (m := fun t => ndS A k t r) ha hd (fun t => nd_nn hW k t r (by omega))
  unfold FP
  rw [e4, e5]
  by_cases hc : ∀ t, t < nl_ A → ad A p a d t + ndS A k t r ≤ l t
  · obtain ⟨c1, c2⟩ := hi.2 hc
    rw [if_pos (fun t ht => by rw [e3]; exact hc t ht), if_pos c1, if_pos c2, Int.add_assoc]
  · rw [if_neg (fun h => hc (fun t ht => by rw [← e3]; exact h t ht))]
    by_cases c1 : hf A p a d ≤ l a ∧ A 1 p - hf A p a d ≤ l d
    · rw [if_pos c1, if_neg (fun c2 => hc (hi.1 ⟨c1, c2⟩))]
    · rw [if_neg c1]
theorem FP_closed {A : St} {r p k : Nat} {x : Int} {l : Nat → Int} {s : Int} {c0 : Nat → Int} {b : BS} (hp : p + (r + 1) = (A 12 0).toNat) (ho : ¬ A 2 p = -1) : FP A (r + 1) x l s c0 k b = FP A r (tn A p) l (s + sw A p x (tn A p)) (fu c0 p (-1)) k b := by
  have hpr : rp A r = p := by unfold rp; omega
  have e1 : pt A k p = tn A p := if_neg ho
  have e2 : pcd A k p = -1 := if_neg ho
  have e3 : ∀ t, ndS A k t (r + 1) = ndS A k t r := fun t => by
    rw [ndS, hpr]; unfold adc; rw [if_neg ho, Int.zero_add]
  unfold FP
  rw [snT, cdT, hpr, e1, e2, Int.add_assoc]
  by_cases hc : ∀ t, t < nl_ A → ndS A k t r ≤ l t
  · rw [if_pos (fun t ht => by rw [e3]; exact hc t ht), if_pos hc]
  · rw [if_neg (fun h => hc (fun t ht => by rw [← e3]; exact h t ht)), if_neg hc]
theorem lf_nn {A : St} {n : Int} (hW : WW A n) {p a d : Nat} (hp : (p : Int) < A 12 0) {l : Nat → Int} (h1 : hf A p a d ≤ l a) (h2 : A 1 p - hf A p a d ≤ l d) {t : Nat} (ht : 0 ≤ l t) : 0 ≤ lf A p a d l t := by
  obtain ⟨b1, b2, b3⟩ := hf_bd hW hp a d
  rw [lf_ad t b3]
  unfold ad
  by_cases z : t = a
  · by_cases y : t = d
    · have := b3 (by omega)
      rw [if_pos z, if_pos y]
      subst z
      omega
    · rw [if_pos z, if_neg y, z]; omega
  · by_cases y : t = d
    · rw [if_neg z, if_pos y, y]; omega
    · rw [if_neg z, if_neg y]; omega
theorem tr_FP {A : St} {n : Int} (hW : WW A n) : ∀ (r p : Nat) (x : Int) (l : Nat → Int) (s : Int) (c0 : Nat → Int) (b : BS), p + r = (A 12 0).toNat → (∀ t, t < nl_ A → 0 ≤ l t) → tr A r p x l s c0 b = fN (FP A r x l s c0) (Pl A r) b
  | 0, p, x, l, s, c0, b, hp, hl => by
    rw [tr, Pl, fN, fN]
    unfold FP
    rw [if_pos (fun t ht => by rw [ndS]; exact hl t ht), snT, cdT, Int.add_zero]
  | r + 1, p, x, l, s, c0, b, hp, hl => by
    have hpr : (A 12 0).toNat - 1 - r = p := by omega
    rw [tr, Pl, hpr]
    by_cases ho : A 2 p = -1
    · rw [if_pos ho, if_pos ho, fN_mul, fN_mul]
      refine fN_congr (fun a b1 ha => fN_congr (fun d b2 hd => ?_))
      by_cases hc : hf A p a d ≤ l a ∧ A 1 p - hf A p a d ≤ l d
      · rw [if_pos hc, tr_FP hW r (p + 1) _ _ _ _ _ (by omega) (fun t ht => lf_nn hW (by omega) hc.1 hc.2 (hl t ht))]
        refine fN_congr (fun k b3 hk => ?_)
        rw [FP_top hW hp ho ha hd hk, if_pos hc]
      · rw [if_neg hc]
        refine (fN_id (fun k hk => ?_)).symm
        rw [FP_top hW hp ho ha hd hk, if_neg hc]
    · rw [if_neg ho, if_neg ho, tr_FP hW r (p + 1) _ _ _ _ _ (by omega) hl]
      exact fN_congr (fun k b3 hk => (FP_closed hp ho).symm)
/-- what the whole code c gives -/
def snC (A : St) (c : Nat) : Int := sm (fun q => s2 A q (pt A c q) (pt A c (q + 1))) ((A 12 0).toNat - 1)
abbrev okC (A : St) (c : Nat) : Prop := ∀ t, t < nl_ A → ndS A c t (A 12 0).toNat ≤ rws A t
theorem snT_sum (A : St) (c : Nat) : ∀ (r p : Nat), p + 1 + r = (A 12 0).toNat → sm (fun q => s2 A q (pt A c q) (pt A c (q + 1))) p + snT A c r (pt A c p) = snC A c
  | 0, p, h => by
    unfold snC
    rw [snT, Int.add_zero, show (A 12 0).toNat - 1 = p by omega]
  | r + 1, p, h => by
    have ih := snT_sum A c r (p + 1) (by omega)
    have hpr : rp A r = p + 1 := by unfold rp; omega
    rw [snT, hpr, ← ih, sm]
    unfold sw
    rw [if_neg (by omega), show p + 1 - 1 = p by omega]
    omega
theorem cdT_lt (A : St) (c : Nat) : ∀ (r : Nat) (c0 : Nat → Int) (q : Nat), r ≤ (A 12 0).toNat → q < (A 12 0).toNat → cdT A c r c0 q = if q < (A 12 0).toNat - r then c0 q else pcd A c q
  | 0, c0, q, h, hq => by rw [cdT, if_pos (by omega)]
  | r + 1, c0, q, h, hq => by
    have hpr : rp A r = (A 12 0).toNat - 1 - r := rfl
    rw [cdT, cdT_lt A c r _ q (by omega) hq]
    by_cases z : q < (A 12 0).toNat - (r + 1)
    · rw [if_pos (by omega), if_pos z, fu_ne _ _ (by omega)]
    · rw [if_neg z]
      by_cases y : q < (A 12 0).toNat - r
      · rw [if_pos y]
        have : q = rp A r := by omega
        rw [this, fu_at]
      · rw [if_neg y]
/-- the best of the codes below c, as the reference keeps it: its code, and what is seen by it -/
def mb (A : St) : Nat → Int × Int
  | 0 => (-1, 268435456)
  | c + 1 => if okC A c ∧ snC A c < (mb A c).2 then ((c : Int), snC A c) else mb A c