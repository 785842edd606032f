/-! ===== the page ===== -/
def msI (x i e : Int) : Int := if ¬ e = -1 then (if i = e + 1 ∧ 48 ≤ x ∧ x ≤ 51 then 1 else 0) else if i % 3 = 0 then (if 0 ≤ kix x then 1 else 0) else if i % 3 = 1 then (if 49 ≤ x ∧ x ≤ 57 then 1 else 0) else if x = 44 then (if (i + 1) / 3 < 5 then 1 else 0) else (if x = 59 ∧ 2 ≤ (i + 1) / 3 then 1 else 0)
theorem msI_01 (x i e : Int) : msI x i e = 0 ∨ msI x i e = 1 := by
  unfold msI
  (repeat' split) <;> first | exact Or.inl rfl | exact Or.inr rfl
/-- the place of the first fault: m letters yet, at place i, ';' stood at e -/
def ffr (c : Nat → Int) : Nat → Nat → Int → Int
  | 0, i, _ => (i : Int)
  | m + 1, i, e => if msI (c i) (i : Int) e = 1 then ffr c m (i + 1) (if c i = 59 then (i : Int) else e) else (i : Int)
theorem ffr_bd (c : Nat → Int) : ∀ (m i : Nat) (e : Int), (i : Int) ≤ ffr c m i e ∧ ffr c m i e ≤ (i : Int) + m
  | 0, i, e => by simp [ffr]
  | m + 1, i, e => by
    have h := ffr_bd c m (i + 1) (if c i = 59 then (i : Int) else e)
    unfold ffr
    split <;> omega
def rFault (A : St) : Int := ffr (A 11) (A 12 3).toNat 0 (-1)
def wh (A : St) : Prop := 2 ≤ A 12 3 ∧ A 11 (A 12 3 - 2).toNat = 59 ∧ rFault A = A 12 3
theorem kix_bd (x : Int) : -1 ≤ kix x ∧ kix x ≤ 4 := by
  unfold kix
  (repeat' split) <;> omega
theorem kix_ne {x : Int} (h : 0 ≤ kix x) : x = 112 ∨ x = 98 ∨ x = 115 ∨ x = 99 ∨ x = 104 := by
  unfold kix at h
  (repeat' split at h) <;> omega
theorem ms_0 {x i : Int} (h : i % 3 = 0) : msI x i (-1) = if 0 ≤ kix x then 1 else 0 := by
  unfold msI; rw [if_neg (by omega), if_pos h]
theorem ms_1 {x i : Int} (h : i % 3 = 1) : msI x i (-1) = if 49 ≤ x ∧ x ≤ 57 then 1 else 0 := by
  unfold msI; rw [if_neg (by omega), if_neg (by omega), if_pos h]
theorem ms_2 {x i : Int} (h : i % 3 = 2) : msI x i (-1) = if x = 44 then (if (i + 1) / 3 < 5 then 1 else 0) else (if x = 59 ∧ 2 ≤ (i + 1) / 3 then 1 else 0) := by
  unfold msI; rw [if_neg (by omega), if_neg (by omega), if_neg (by omega)]
theorem ms_e {x i e : Int} (h : ¬ e = -1) : msI x i e = if i = e + 1 ∧ 48 ≤ x ∧ x ≤ 51 then 1 else 0 := by
  unfold msI; rw [if_pos h]
theorem ffr_s {c : Nat → Int} {m i : Nat} {e : Int} (h : msI (c i) (i : Int) e = 1) : ffr c (m + 1) i e = ffr c m (i + 1) (if c i = 59 then (i : Int) else e) := by rw [ffr, if_pos h]
theorem ffr_n {c : Nat → Int} {m i : Nat} {e : Int} (h : ¬ msI (c i) (i : Int) e = 1) : ffr c (m + 1) i e = (i : Int) := by rw [ffr, if_neg h]
/-- a part's three letters, each in its place -/
theorem ffr_k {c : Nat → Int} {m q : Nat} (h : 0 ≤ kix (c (3 * q))) : ffr c (m + 1) (3 * q) (-1) = ffr c m (3 * q + 1) (-1) := by
  have hn := kix_ne h
  rw [ffr_s (by rw [ms_0 (by omega), if_pos h]), if_neg (by omega)]
theorem ffr_kn {c : Nat → Int} {m q : Nat} (h : ¬ 0 ≤ kix (c (3 * q))) : ffr c (m + 1) (3 * q) (-1) = ((3 * q : Nat) : Int) :=
  ffr_n (by rw [ms_0 (by omega), if_neg h]; decide)
theorem ffr_r {c : Nat → Int} {m q : Nat} (h : 49 ≤ c (3 * q + 1) ∧ c (3 * q + 1) ≤ 57) : ffr c (m + 1) (3 * q + 1) (-1) = ffr c m (3 * q + 2) (-1) := by
  rw [ffr_s (by rw [ms_1 (by omega), if_pos h]), if_neg (by omega)]
theorem ffr_rn {c : Nat → Int} {m q : Nat} (h : ¬ (49 ≤ c (3 * q + 1) ∧ c (3 * q + 1) ≤ 57)) : ffr c (m + 1) (3 * q + 1) (-1) = ((3 * q + 1 : Nat) : Int) :=
  ffr_n (by rw [ms_1 (by omega), if_neg h]; decide)
theorem ffr_c {c : Nat → Int} {m q : Nat} (h : c (3 * q + 2) = 44) (hq : q < 4) : ffr c (m + 1) (3 * q + 2) (-1) = ffr c m (3 * (q + 1)) (-1) := by
  rw [ffr_s (by rw [ms_2 (by omega), if_pos h, if_pos (by omega)]), if_neg (by omega)]
  rfl
theorem ffr_f {c : Nat → Int} {m q : Nat} (h : c (3 * q + 2) = 59) (hq : 1 ≤ q) : ffr c (m + 1) (3 * q + 2) (-1) = ffr c m (3 * q + 3) ((3 * q + 2 : Nat) : Int) := by
  rw [ffr_s (by rw [ms_2 (by omega), if_neg (by omega), if_pos ⟨h, by omega⟩]), if_pos h]
theorem ffr_sn {c : Nat → Int} {m q : Nat} (h : ¬ (c (3 * q + 2) = 44 ∧ q < 4)) (h2 : ¬ (c (3 * q + 2) = 59 ∧ 1 ≤ q)) : ffr c (m + 1) (3 * q + 2) (-1) = ((3 * q + 2 : Nat) : Int) :=
  ffr_n (by
    rw [ms_2 (by omega)]
    by_cases e : c (3 * q + 2) = 44
    · rw [if_pos e, if_neg (by omega)]; decide
    · rw [if_neg e, if_neg (by omega)]; decide)
theorem ffr_d {c : Nat → Int} {m i : Nat} (h : 48 ≤ c (i + 1) ∧ c (i + 1) ≤ 51) : ffr c (m + 1) (i + 1) (i : Int) = ffr c m (i + 2) (i : Int) := by
  rw [ffr_s (by rw [ms_e (by omega), if_pos ⟨by omega, h⟩]), if_neg (by omega)]
theorem ffr_dn {c : Nat → Int} {m i : Nat} (h : ¬ (48 ≤ c (i + 1) ∧ c (i + 1) ≤ 51)) : ffr c (m + 1) (i + 1) (i : Int) = ((i + 1 : Nat) : Int) :=
  ffr_n (by rw [ms_e (by omega), if_neg (by omega)]; decide)
theorem ffr_e {c : Nat → Int} {m i : Nat} : ffr c (m + 1) (i + 2) (i : Int) = ((i + 2 : Nat) : Int) :=
  ffr_n (by rw [ms_e (by omega), if_neg (by omega)]; decide)
/-- q parts are read: then one more, and the end, or a comma -/
theorem page_step {c : Nat → Int} {n q : Nat} (h59 : c (n - 2) = 59) (h2 : 2 ≤ n) (hq4 : q ≤ 4) (hq : 3 * q ≤ n) (hf : ffr c (n - 3 * q) (3 * q) (-1) = (n : Int)) (hn : ∀ i, i < 3 * q → c i ≠ 59) :
    (0 ≤ kix (c (3 * q)) ∧ 49 ≤ c (3 * q + 1) ∧ c (3 * q + 1) ≤ 57) ∧ ((1 ≤ q ∧ n = 3 * (q + 1) + 1 ∧ 48 ≤ c (3 * (q + 1)) ∧ c (3 * (q + 1)) ≤ 51) ∨ (q < 4 ∧ 3 * (q + 1) ≤ n ∧ ffr c (n - 3 * (q + 1)) (3 * (q + 1)) (-1) = (n : Int) ∧ ∀ i, i < 3 * (q + 1) → c i ≠ 59)) := by
  have e : ¬ n - 2 < 3 * q := fun z => hn _ z h59
  obtain ⟨m, hm⟩ : ∃ m, n - 3 * q = m + 1 + 1 := ⟨n - 3 * q - 2, by omega⟩
  rw [hm] at hf
  by_cases h0 : 0 ≤ kix (c (3 * q))
  · rw [ffr_k h0] at hf
    have n0 := kix_ne h0
    have e0 : ¬ n - 2 = 3 * q := fun z => by rw [z] at h59; omega
    by_cases h1 : 49 ≤ c (3 * q + 1) ∧ c (3 * q + 1) ≤ 57
    · refine ⟨⟨h0, h1⟩, ?_⟩
      rw [ffr_r h1] at hf
      have e1 : ¬ n - 2 = 3 * q + 1 := fun z => by rw [z] at h59; omega
      obtain ⟨m2, hm2⟩ : ∃ m2, m = m2 + 1 + 1 := ⟨m - 2, by omega⟩
      rw [hm2] at hf
      by_cases h3 : c (3 * q + 2) = 59 ∧ 1 ≤ q
      · rw [ffr_f h3.1 h3.2] at hf
        by_cases h4 : 48 ≤ c (3 * q + 2 + 1) ∧ c (3 * q + 2 + 1) ≤ 51
        · rw [ffr_d (i := 3 * q + 2) h4] at hf
          cases m2 with
          | zero => exact Or.inl ⟨h3.2, by omega, h4⟩
          | succ m3 => rw [ffr_e (i := 3 * q + 2)] at hf; omega
        · rw [ffr_dn (i := 3 * q + 2) h4] at hf; omega
      · by_cases h4 : c (3 * q + 2) = 44 ∧ q < 4
        · rw [ffr_c h4.1 h4.2] at hf
          refine Or.inr ⟨h4.2, by omega, ?_, fun i hi => ?_⟩
          · rw [show n - 3 * (q + 1) = m2 + 1 by omega]; exact hf
          · by_cases z : i < 3 * q
            · exact hn i z
            · rcases (show i = 3 * q ∨ i = 3 * q + 1 ∨ i = 3 * q + 2 by omega) with rfl | rfl | rfl <;> omega
        · rw [ffr_sn h4 h3] at hf; omega
    · rw [ffr_rn h1] at hf; omega
  · rw [ffr_kn h0] at hf; omega
/-- what a page that is a garment looks like -/
theorem page_shape {c : Nat → Int} {n : Nat} (h59 : c (n - 2) = 59) (h2 : 2 ≤ n) : ∀ (k q : Nat), k + q = 4 → 3 * q ≤ n → ffr c (n - 3 * q) (3 * q) (-1) = (n : Int) → (∀ i, i < 3 * q → c i ≠ 59) → (∀ p, p < q → 0 ≤ kix (c (3 * p)) ∧ 49 ≤ c (3 * p + 1) ∧ c (3 * p + 1) ≤ 57) → ∃ m, 2 ≤ m ∧ m ≤ 5 ∧ n = 3 * m + 1 ∧ (∀ p, p < m → 0 ≤ kix (c (3 * p)) ∧ 49 ≤ c (3 * p + 1) ∧ c (3 * p + 1) ≤ 57) ∧ 48 ≤ c (3 * m) ∧ c (3 * m) ≤ 51 := by
  intro k
  induction k with
  | zero =>
    intro q hk hq hf hn hp
    obtain ⟨h0, h1⟩ := page_step h59 h2 (by omega) hq hf hn
    rcases h1 with ⟨a, b, d⟩ | ⟨a, -⟩
    · exact ⟨q + 1, by omega, by omega, b, fun p hp' => by
        by_cases e : p = q
        · rw [e]; exact h0
        · exact hp p (by omega), d⟩
    · omega
  | succ k ih =>
    intro q hk hq hf hn hp
    obtain ⟨h0, h1⟩ := page_step h59 h2 (by omega) hq hf hn
    have hp' : ∀ p, p < q + 1 → 0 ≤ kix (c (3 * p)) ∧ 49 ≤ c (3 * p + 1) ∧ c (3 * p + 1) ≤ 57 := fun p hp' => by
      by_cases e : p = q
      · rw [e]; exact h0
      · exact hp p (by omega)
    rcases h1 with ⟨a, b, d⟩ | ⟨a, b, d, e⟩
    · exact ⟨q + 1, by omega, by omega, b, hp', d⟩
    · exact ih (q + 1) (by omega) b d e hp'
theorem wh_shape {A : St} (hq : 0 ≤ A 12 3) (h : wh A) : ∃ m : Nat, 2 ≤ m ∧ m ≤ 5 ∧ A 12 3 = 3 * (m : Int) + 1 ∧ (∀ p, p < m → 0 ≤ kix (A 11 (3 * p)) ∧ 49 ≤ A 11 (3 * p + 1) ∧ A 11 (3 * p + 1) ≤ 57) ∧ 48 ≤ A 11 (3 * m) ∧ A 11 (3 * m) ≤ 51 := by
  obtain ⟨h1, h2, h3⟩ := h
  obtain ⟨n, hn⟩ : ∃ n : Nat, A 12 3 = (n : Int) := ⟨(A 12 3).toNat, by omega⟩
  unfold rFault at h3
  rw [hn] at h1 h2 h3
  rw [Int.toNat_natCast] at h3
  rw [show ((n : Int) - 2).toNat = n - 2 by omega] at h2
  obtain ⟨m, a, b, d, e⟩ := page_shape (c := A 11) h2 (by omega) 4 0 (by omega) (by omega) h3 (fun i hi => by omega) (fun p hp => by omega)
  exact ⟨m, a, b, by omega, e⟩
