/-! ===== all the codes: their digits, and the ways counted along them ===== -/
def tM (A : St) (i : Nat) : Int := if (i : Int) < A 12 2 then A 8 i + A 8 i else A 8 (if (i : Int) - A 12 2 = 2 then 1 else 0) + A 8 (if (i : Int) - A 12 2 = 0 then 1 else 2)
theorem tM_perm {A : St} (h0 : 0 ≤ A 12 2) (h3 : A 12 2 ≤ 3) (f : Int → Int) : sm (fun j => f (tC A j)) (nM_ A) = sm (fun j => f (tM A j)) (nM_ A) := by
  rcases (show A 12 2 = 0 ∨ A 12 2 = 1 ∨ A 12 2 = 2 ∨ A 12 2 = 3 by omega) with e | e | e | e
  · have : nM_ A = 0 := by simp [nM_, nmT, e]
    rw [this]; rfl
  · have : nM_ A = 1 := by simp [nM_, nmT, e]
    rw [this]
    simp [sm, tC, tM, pcA, pcB, e]
  · have : nM_ A = 3 := by simp [nM_, nmT, e]
    rw [this]
    simp [sm, tC, tM, pcA, pcB, e]
    omega
  · have : nM_ A = 6 := by simp [nM_, nmT, e]
    rw [this]
    simp [sm, tC, tM, pcA, pcB, e]
    omega
theorem bhd_tM {A : St} (h0 : 0 ≤ A 12 2) (h3 : A 12 2 ≤ 3) : ∀ (r p : Nat) (x : Int), bhd A (tC A) (nM_ A) r p x = bhd A (tM A) (nM_ A) r p x
  | 0, _, _ => rfl
  | r + 1, p, x => by
    rw [bhd, bhd, tM_perm h0 h3 (fun v => if mmI A p x v = 1 then bhd A (tC A) (nM_ A) r (p + 1) v else 0)]
    exact sm_congr (fun j hj => by simp only [bhd_tM h0 h3 r (p + 1) (tM A j)])
theorem sm_pos {f : Nat → Int} : ∀ {n : Nat}, (∀ j, j < n → 0 ≤ f j) → (0 < sm f n ↔ ∃ j, j < n ∧ 0 < f j)
  | 0, _ => ⟨fun h => by simp [sm] at h, fun ⟨j, hj, _⟩ => by omega⟩
  | n + 1, h => by
    have ih := sm_pos (f := f) (n := n) (fun j hj => h j (by omega))
    have h1 := h n (by omega)
    have h2 : 0 ≤ sm f n := by
      have := (sm_bd (f := fun j => f j) (a := 0) (b := 0) (n := 0) (fun p hp => by omega))
      clear this
      by_cases z : 0 ≤ sm f n
      · exact z
      · exfalso
        have : ∀ m, m ≤ n → 0 ≤ sm f m := by
          intro m
          induction m with
          | zero => intro _; simp [sm]
          | succ m im => intro hm; rw [sm]; have := im (by omega); have := h m (by omega); omega
        exact z (this n (Nat.le_refl n))
    rw [sm]
    constructor
    · intro k
      by_cases z : 0 < f n
      · exact ⟨n, by omega, z⟩
      · obtain ⟨j, hj, hf⟩ := ih.1 (by omega)
        exact ⟨j, by omega, hf⟩
    · rintro ⟨j, hj, hf⟩
      by_cases z : j = n
      · subst z; omega
      · have := ih.2 ⟨j, by omega, hf⟩; omega
theorem tM_set {A : St} (h0 : 0 ≤ A 12 2) (h3 : A 12 2 ≤ 3) (x : Int) : (∃ j, j < nM_ A ∧ tC A j = x) ↔ ∃ j, j < nM_ A ∧ tM A j = x := by
  have k := tM_perm h0 h3 (fun v => if v = x then 1 else 0)
  have k1 := sm_pos (f := fun j => if tC A j = x then 1 else 0) (n := nM_ A) (fun j _ => by split <;> omega)
  have k2 := sm_pos (f := fun j => if tM A j = x then 1 else 0) (n := nM_ A) (fun j _ => by split <;> omega)
  constructor
  · rintro ⟨j, hj, e⟩
    obtain ⟨i, hi, h⟩ := k2.1 (by rw [← k]; exact k1.2 ⟨j, hj, by rw [if_pos e]; omega⟩)
    refine ⟨i, hi, ?_⟩
    by_cases z : tM A i = x
    · exact z
    · rw [if_neg z] at h; omega
  · rintro ⟨j, hj, e⟩
    obtain ⟨i, hi, h⟩ := k1.1 (by rw [k]; exact k2.2 ⟨j, hj, by rw [if_pos e]; omega⟩)
    refine ⟨i, hi, ?_⟩
    by_cases z : tC A i = x
    · exact z
    · rw [if_neg z] at h; omega
def vq (A : St) (f : Nat → Int) : Nat → Int
  | 0 => 1
  | q + 1 => if vq A f q = 1 ∧ mmI A q (f q) (f (q + 1)) = 1 then 1 else 0
theorem vq_01 (A : St) (f : Nat → Int) : ∀ n, vq A f n = 0 ∨ vq A f n = 1
  | 0 => Or.inr rfl
  | n + 1 => by rw [vq]; split <;> omega
theorem vq_iff (A : St) (f : Nat → Int) : ∀ n, vq A f n = 1 ↔ ∀ q, q < n → mmI A q (f q) (f (q + 1)) = 1
  | 0 => ⟨fun _ q hq => by omega, fun _ => rfl⟩
  | n + 1 => by
    have ih := vq_iff A f n
    rw [vq]
    constructor
    · intro h q hq
      by_cases z : vq A f n = 1 ∧ mmI A n (f n) (f (n + 1)) = 1
      · by_cases y : q = n
        · rw [y]; exact z.2
        · exact ih.1 z.1 q (by omega)
      · rw [if_neg z] at h; omega
    · intro h
      rw [if_pos ⟨ih.2 (fun q hq => h q (by omega)), h n (by omega)⟩]
def dgt (S c q : Nat) : Nat := c / S ^ q % S
theorem dgt_0 (S c : Nat) : dgt S c 0 = c % S := by unfold dgt; rw [Nat.pow_zero, Nat.div_one]
theorem dgt_s (S c q : Nat) : dgt S c (q + 1) = dgt S (c / S) q := by unfold dgt; rw [Nat.pow_succ, Nat.mul_comm, ← Nat.div_div_eq_div_mul]
theorem dgt_lt {S : Nat} (h : 0 < S) (c q : Nat) : dgt S c q < S := Nat.mod_lt _ h
theorem dg_ex {S : Nat} : ∀ (n : Nat) (d : Nat → Nat), (∀ q, q < n → d q < S) → ∃ c, c < S ^ n ∧ ∀ q, q < n → dgt S c q = d q
  | 0, d, _ => ⟨0, by simp, fun q hq => by omega⟩
  | n + 1, d, h => by
    obtain ⟨c, hc, hd⟩ := dg_ex n (fun q => d (q + 1)) (fun q hq => h (q + 1) (by omega))
    have h0 := h 0 (by omega)
    have e1 : (d 0 + S * c) % S = d 0 := by rw [Nat.add_mul_mod_self_left, Nat.mod_eq_of_lt h0]
    have e2 : (d 0 + S * c) / S = c := by rw [Nat.add_mul_div_left _ _ (by omega), Nat.div_eq_of_lt h0, Nat.zero_add]
    refine ⟨d 0 + S * c, ?_, fun q hq => ?_⟩
    · rw [Nat.pow_succ, Nat.mul_comm (S ^ n)]
      have : S * (c + 1) ≤ S * S ^ n := Nat.mul_le_mul_left S hc
      rw [Nat.mul_add, Nat.mul_one] at this
      omega
    · cases q with
      | zero => rw [dgt_0, e1]
      | succ q => rw [dgt_s, e2]; exact hd q (by omega)
theorem sm_app (f : Nat → Int) (a : Nat) : ∀ b, sm f (a + b) = sm f a + sm (fun i => f (a + i)) b
  | 0 => by simp [sm]
  | b + 1 => by rw [← Nat.add_assoc, sm, sm_app f a b, sm]; omega
theorem sm_two (f h : Nat → Int) : ∀ n, sm (fun i => f i + h i) n = sm f n + sm h n
  | 0 => rfl
  | n + 1 => by rw [sm, sm_two f h n, sm, sm]; omega
theorem sm_zero : ∀ n, sm (fun _ => 0) n = 0
  | 0 => rfl
  | n + 1 => by rw [sm, sm_zero n]; rfl
theorem sm_dig {S : Nat} (F : Nat → Nat → Int) : ∀ N, sm (fun c => F (c % S) (c / S)) (S * N) = sm (fun j => sm (fun k => F j k) N) S
  | 0 => by
    rw [Nat.mul_zero, sm]
    exact (sm_zero S).symm
  | N + 1 => by
    rw [Nat.mul_add, Nat.mul_one, sm_app, sm_dig F N]
    have e : sm (fun i => F ((S * N + i) % S) ((S * N + i) / S)) S = sm (fun i => F i N) S := sm_congr (fun i hi => by
      rw [Nat.mul_add_mod, Nat.mod_eq_of_lt hi, Nat.mul_add_div (by omega), Nat.div_eq_of_lt hi, Nat.add_zero])
    rw [e, ← sm_two]
    exact sm_congr (fun i hi => by rw [sm])
def wz (A : St) (T : Nat → Int) (S : Nat) : Nat → Nat → Int → Nat → Int
  | 0, _, _, _ => 1
  | r + 1, p, x, c => if mmI A p x (T (c % S)) = 1 then wz A T S r (p + 1) (T (c % S)) (c / S) else 0
theorem wz_01 (A : St) (T : Nat → Int) (S : Nat) : ∀ (r p : Nat) (x : Int) (c : Nat), wz A T S r p x c = 0 ∨ wz A T S r p x c = 1
  | 0, _, _, _ => Or.inr rfl
  | r + 1, p, x, c => by
    rw [wz]
    split
    · exact wz_01 A T S r (p + 1) _ _
    · exact Or.inl rfl
theorem wz_sum (A : St) (T : Nat → Int) (S : Nat) : ∀ (r p : Nat) (x : Int), sm (wz A T S r p x) (S ^ r) = bhd A T S r p x
  | 0, p, x => by rw [Nat.pow_zero, sm, sm]; rfl
  | r + 1, p, x => by
    rw [Nat.pow_succ, Nat.mul_comm, bhd]
    have e : wz A T S (r + 1) p x = fun c => (fun j k => if mmI A p x (T j) = 1 then wz A T S r (p + 1) (T j) k else 0) (c % S) (c / S) := by funext c; rw [wz]
    rw [e]
    refine (sm_dig (S := S) (fun j k => if mmI A p x (T j) = 1 then wz A T S r (p + 1) (T j) k else 0) (S ^ r)).trans ?_
    refine sm_congr (fun j hj => ?_)
    by_cases z : mmI A p x (T j) = 1
    · simp only [if_pos z]
      exact wz_sum A T S r (p + 1) (T j)
    · simp only [if_neg z]
      exact sm_zero _
theorem wz_iff (A : St) (T : Nat → Int) (S : Nat) : ∀ (r p c : Nat), wz A T S r p (T (c % S)) (c / S) = 1 ↔ ∀ q, q < r → mmI A (p + q) (T (dgt S c q)) (T (dgt S c (q + 1))) = 1
  | 0, p, c => ⟨fun _ q hq => by omega, fun _ => rfl⟩
  | r + 1, p, c => by
    have ih := wz_iff A T S r (p + 1) (c / S)
    have d1 : dgt S c 1 = c / S % S := by rw [dgt_s, dgt_0]
    rw [wz]
    constructor
    · intro h q hq
      by_cases z : mmI A p (T (c % S)) (T (c / S % S)) = 1
      · rw [if_pos z] at h
        cases q with
        | zero => rw [dgt_0, d1]; exact z
        | succ q =>
          have := ih.1 h q (by omega)
          rw [← dgt_s, ← dgt_s] at this
          rw [show p + (q + 1) = p + 1 + q by omega]
          exact this
      · rw [if_neg z] at h; omega
    · intro h
      have z := h 0 (by omega)
      rw [dgt_0, d1, Nat.add_zero] at z
      rw [if_pos z]
      refine ih.2 (fun q hq => ?_)
      rw [← dgt_s, ← dgt_s, show p + 1 + q = p + (q + 1) by omega]
      exact h (q + 1) (by omega)
theorem vq_wz (A : St) (T : Nat → Int) (S r c : Nat) : vq A (fun q => T (dgt S c q)) r = wz A T S r 0 (T (c % S)) (c / S) := by
  have h1 := vq_iff A (fun q => T (dgt S c q)) r
  have h2 := wz_iff A T S r 0 c
  have h3 := vq_01 A (fun q => T (dgt S c q)) r
  have h4 := wz_01 A T S r 0 (T (c % S)) (c / S)
  have e : (∀ q, q < r → mmI A q (T (dgt S c q)) (T (dgt S c (q + 1))) = 1) ↔ ∀ q, q < r → mmI A (0 + q) (T (dgt S c q)) (T (dgt S c (q + 1))) = 1 := by simp
  have h5 := h1.trans (e.trans h2.symm)
  omega
theorem vq_sum (A : St) (T : Nat → Int) (S r : Nat) : sm (fun c => vq A (fun q => T (dgt S c q)) r) (S ^ (r + 1)) = sm (fun i => bhd A T S r 0 (T i)) S := by
  have e : (fun c => vq A (fun q => T (dgt S c q)) r) = fun c => (fun j k => wz A T S r 0 (T j) k) (c % S) (c / S) := by funext c; exact vq_wz A T S r c
  rw [Nat.pow_succ, Nat.mul_comm, e]
  refine (sm_dig (S := S) (fun j k => wz A T S r 0 (T j) k) (S ^ r)).trans ?_
  exact sm_congr (fun j _ => wz_sum A T S r 0 (T j))
/-- the tones that code c gives -/
def fcd (A : St) (c : Nat) : Nat → Int := fun q => tM A (dgt (nM_ A) c q)
theorem fits_eq {A : St} (h0 : 0 ≤ A 12 2) (h3 : A 12 2 ≤ 3) (hp : 1 ≤ A 12 0) : sm (fun c => vq A (fcd A c) ((A 12 0).toNat - 1)) (nM_ A ^ (A 12 0).toNat) = wyC A := by
  obtain ⟨r, hr⟩ : ∃ r, (A 12 0).toNat = r + 1 := ⟨(A 12 0).toNat - 1, by omega⟩
  unfold wyC
  rw [hr, Nat.add_sub_cancel, tM_perm h0 h3 (fun v => bhd A (tC A) (nM_ A) r 0 v)]
  rw [show (fun c => vq A (fcd A c) r) = fun c => vq A (fun q => tM A (dgt (nM_ A) c q)) r from rfl, vq_sum]
  exact sm_congr (fun j _ => (bhd_tM h0 h3 r 0 (tM A j)).symm)
theorem ahd_pos (A : St) (T : Nat → Int) (S : Nat) (hS : S ≤ 6) : ∀ (p : Nat) (x : Int), 0 < ahd A T S p x ↔ ∃ F : Nat → Int, F p = x ∧ (∀ q, q < p → ∃ j, j < S ∧ T j = F q) ∧ ∀ q, q < p → mmI A q (F q) (F (q + 1)) = 1
  | 0, x => ⟨fun _ => ⟨fun _ => x, rfl, fun q hq => by omega, fun q hq => by omega⟩, fun _ => by rw [ahd]; omega⟩
  | p + 1, x => by
    have nn : ∀ j, j < S → 0 ≤ (if mmI A p (T j) x = 1 then ahd A T S p (T j) else 0) := fun j _ => by
      split
      · exact (ahd_bd A T hS p (T j)).1
      · omega
    rw [ahd, sm_pos nn]
    constructor
    · rintro ⟨j, hj, h⟩
      by_cases z : mmI A p (T j) x = 1
      · rw [if_pos z] at h
        obtain ⟨F, f1, f2, f3⟩ := (ahd_pos A T S hS p (T j)).1 h
        refine ⟨fun q => if q = p + 1 then x else F q, if_pos rfl, fun q hq => ?_, fun q hq => ?_⟩
        · simp only [if_neg (show ¬ q = p + 1 by omega)]
          by_cases y : q = p
          · rw [y]; exact ⟨j, hj, f1.symm⟩
          · exact f2 q (by omega)
        · simp only [if_neg (show ¬ q = p + 1 by omega)]
          by_cases y : q = p
          · rw [y, if_pos rfl, f1]; exact z
          · rw [if_neg (by omega)]; exact f3 q (by omega)
      · rw [if_neg z] at h; omega
    · rintro ⟨F, f1, f2, f3⟩
      obtain ⟨j, hj, e⟩ := f2 p (by omega)
      refine ⟨j, hj, ?_⟩
      have z := f3 p (by omega)
      rw [f1, ← e] at z
      rw [if_pos z]
      exact (ahd_pos A T S hS p (T j)).2 ⟨F, e.symm, fun q hq => f2 q (by omega), fun q hq => f3 q (by omega)⟩
theorem bhd_pos (A : St) (T : Nat → Int) (S : Nat) (hS : S ≤ 6) : ∀ (r p : Nat) (x : Int), 0 < bhd A T S r p x ↔ ∃ F : Nat → Int, F p = x ∧ (∀ q, p < q → q ≤ p + r → ∃ j, j < S ∧ T j = F q) ∧ ∀ q, p ≤ q → q < p + r → mmI A q (F q) (F (q + 1)) = 1
  | 0, p, x => ⟨fun _ => ⟨fun _ => x, rfl, fun q h1 hq => by omega, fun q h1 hq => by omega⟩, fun _ => by rw [bhd]; omega⟩
  | r + 1, p, x => by
    have nn : ∀ j, j < S → 0 ≤ (if mmI A p x (T j) = 1 then bhd A T S r (p + 1) (T j) else 0) := fun j _ => by
      split
      · exact (bhd_bd A T hS r (p + 1) (T j)).1
      · omega
    rw [bhd, sm_pos nn]
    constructor
    · rintro ⟨j, hj, h⟩
      by_cases z : mmI A p x (T j) = 1
      · rw [if_pos z] at h
        obtain ⟨F, f1, f2, f3⟩ := (bhd_pos A T S hS r (p + 1) (T j)).1 h
        refine ⟨fun q => if q = p then x else F q, if_pos rfl, fun q h1 hq => ?_, fun q h1 hq => ?_⟩
        · simp only [if_neg (show ¬ q = p by omega)]
          by_cases y : q = p + 1
          · rw [y]; exact ⟨j, hj, f1.symm⟩
          · exact f2 q (by omega) (by omega)
        · simp only [if_neg (show ¬ q + 1 = p by omega)]
          by_cases y : q = p
          · rw [y, if_pos rfl, f1]; exact z
          · rw [if_neg (by omega)]; exact f3 q (by omega) (by omega)
      · rw [if_neg z] at h; omega
    · rintro ⟨F, f1, f2, f3⟩
      obtain ⟨j, hj, e⟩ := f2 (p + 1) (by omega) (by omega)
      refine ⟨j, hj, ?_⟩
      have z := f3 p (by omega) (by omega)
      rw [f1, ← e] at z
      rw [if_pos z]
      exact (bhd_pos A T S hS r (p + 1) (T j)).2 ⟨F, e.symm, fun q h1 hq => f2 q (by omega) (by omega), fun q h1 hq => f3 q (by omega) (by omega)⟩
theorem LC_iff {A : St} {n : Int} (hW : WW A n) {p : Nat} (hp : (p : Int) < A 12 0) (x : Int) : LC A p x ↔ ∃ c, c < nM_ A ^ (A 12 0).toNat ∧ vq A (fcd A c) ((A 12 0).toNat - 1) = 1 ∧ fcd A c p = x := by
  obtain ⟨b1, b2, b3, b4⟩ := nm_bd hW
  have h0 := hW.1.2.2.1
  have h3 := hW.1.2.2.2.1
  unfold LC
  rw [ahd_pos A (tC A) (nM_ A) b3, bhd_pos A (tC A) (nM_ A) b3]
  constructor
  · rintro ⟨i, hi, hx, ⟨F1, a1, a2, a3⟩, ⟨F2, c1, c2, c3⟩⟩
    have hF : ∀ q, ∃ j, q < (A 12 0).toNat → j < nM_ A ∧ tM A j = if q < p then F1 q else F2 q := by
      intro q
      by_cases z : q < (A 12 0).toNat
      · have : ∃ j, j < nM_ A ∧ tM A j = if q < p then F1 q else F2 q := by
          refine (tM_set h0 h3 _).1 ?_
          by_cases y : q < p
          · rw [if_pos y]; exact a2 q y
          · rw [if_neg y]
            by_cases w : q = p
            · rw [w, c1]; exact ⟨i, by omega, hx⟩
            · exact c2 q (by omega) (by omega)
        obtain ⟨j, hj⟩ := this
        exact ⟨j, fun _ => hj⟩
      · exact ⟨0, fun y => absurd y z⟩
    obtain ⟨d, hd⟩ := Classical.axiomOfChoice hF
    obtain ⟨c, hc, hg⟩ := dg_ex (A 12 0).toNat d (fun q hq => (hd q hq).1)
    have hf : ∀ q, q < (A 12 0).toNat → fcd A c q = if q < p then F1 q else F2 q := fun q hq => by
      unfold fcd; rw [hg q hq]; exact (hd q hq).2
    refine ⟨c, hc, (vq_iff A _ _).2 (fun q hq => ?_), ?_⟩
    · rw [hf q (by omega), hf (q + 1) (by omega)]
      by_cases y : q + 1 < p
      · rw [if_pos (by omega), if_pos y]; exact a3 q (by omega)
      · by_cases w : q + 1 = p
        · rw [if_pos (by omega), if_neg (by omega)]
          have := a3 q (by omega)
          rw [w, a1] at this
          rw [w, c1]; exact this
        · rw [if_neg (by omega), if_neg (by omega)]; exact c3 q (by omega) (by omega)
    · rw [hf p (by omega), if_neg (by omega)]; exact c1
  · rintro ⟨c, hc, hv, hx⟩
    have hv := (vq_iff A _ _).1 hv
    have hS : 0 < nM_ A := by
      rcases Nat.eq_zero_or_pos (nM_ A) with z | z
      · rw [z, Nat.zero_pow (by omega)] at hc; omega
      · exact z
    have hs : ∀ q, ∃ j, j < nM_ A ∧ tC A j = fcd A c q := fun q => (tM_set h0 h3 _).2 ⟨_, dgt_lt hS c q, rfl⟩
    obtain ⟨i, hi, he⟩ := hs p
    exact ⟨i, by omega, he.trans hx, ⟨fcd A c, hx, fun q _ => hs q, fun q hq => hv q (by omega)⟩, ⟨fcd A c, hx, fun q _ _ => hs q, fun q _ hq => hv q (by omega)⟩⟩