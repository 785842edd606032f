/-! ===== the relations, and what writes do to them ===== -/
def up (A : St) (i j : Nat) (v : Int) : St := fun a b => if a = i ∧ b = j then v else A a b
theorem up_1 (A : St) (i j : Nat) (v : Int) (a b : Nat) : up A i j v a b = if a = i ∧ b = j then v else A a b := rfl
def CPg (A : St) (g : Mm) : Prop := g.1 1 1 = A 12 3 ∧ ∀ k : Nat, (k : Int) < A 12 3 → g.1 2 k = A 11 k
def WPg (A : St) : Prop := 0 ≤ A 12 3 ∧ A 12 3 ≤ 18 ∧ ∀ k : Nat, (k : Int) < A 12 3 → 32 ≤ A 11 k ∧ A 11 k ≤ 126
def CT (A : St) (g : Mm) : Prop := g.1 0 6 = A 12 6 ∧ g.1 0 7 = A 12 4 ∧ g.1 0 8 = A 12 5
def WT (A : St) (n : Int) : Prop := (A 12 6 = 0 ∨ A 12 6 = 1) ∧ (0 ≤ A 12 4 ∧ A 12 4 ≤ n) ∧ (0 ≤ A 12 5 ∧ A 12 5 ≤ 20)
def CK (A : St) (g : Mm) : Prop := (g.1 14 2 = A 12 0 ∧ g.1 14 3 = A 12 7 ∧ g.1 14 4 = A 12 1) ∧ (∀ p : Nat, (p : Int) < A 12 0 → cPtK A p g) ∧ ∀ t : Nat, (t : Int) < A 12 7 → cLtK A t g
def WK (A : St) (n : Int) : Prop := (0 ≤ A 12 7 ∧ A 12 7 ≤ 3) ∧ (∀ p : Nat, (p : Int) < A 12 0 → wPtK A (A 12 7) p) ∧ ∀ t : Nat, (t : Int) < A 12 7 → wLtK A n t
def CB (g : Mm) : Prop := ∀ p : Nat, p < 5 → (g.1 (6 + p) 6 = 0 ∨ g.1 (6 + p) 6 = 1) ∧ (g.1 (17 + p) 6 = 0 ∨ g.1 (17 + p) 6 = 1)
def RC (A : St) (g : Mm) : Prop := CW A g ∧ CPg A g ∧ CT A g ∧ (A 12 6 = 1 → CK A g) ∧ CB g
def Wf (A : St) (n : Int) : Prop := WW A n ∧ WPg A ∧ WT A n ∧ (A 12 6 = 1 → WK A n)
/-- the least that is needed of a state -/
def Wb (A : St) : Prop := (0 ≤ A 12 0 ∧ A 12 0 ≤ 5) ∧ (0 ≤ A 12 2 ∧ A 12 2 ≤ 3) ∧ (A 12 6 = 1 → 0 ≤ A 12 7 ∧ A 12 7 ≤ 3)
theorem Wf.b {A : St} {n : Int} (h : Wf A n) : Wb A := ⟨⟨h.1.1.1, h.1.1.2.1⟩, ⟨h.1.1.2.2.1, h.1.1.2.2.2.1⟩, fun k => (h.2.2.2 k).1⟩
def MPg (A : St) (g : Mm) : Prop := g.1 46 16 = A 12 3 ∧ ∀ k : Nat, (k : Int) < A 12 3 → g.1 58 k = A 11 k
def MT_ (A : St) (g : Mm) : Prop := g.1 46 0 = A 12 4 ∧ g.1 46 15 = A 12 5 ∧ (g.1 46 25 = 0 ∨ g.1 46 25 = 1) ∧ (0 ≤ g.1 46 26 ∧ g.1 46 26 ≤ A 12 4) ∧ (A 12 6 = 1 ↔ g.1 46 25 = 1 ∧ g.1 46 26 = A 12 4)
def MK (A : St) (g : Mm) : Prop := g.1 46 27 = A 12 7 ∧ (∀ p : Nat, (p : Int) < A 12 0 → g.1 63 p = A 13 p ∧ g.1 64 p = A 14 p ∧ g.1 65 p = A 15 p ∧ g.1 66 p = A 16 p ∧ g.1 67 p = A 17 p ∧ g.1 68 p = A 18 p) ∧ ∀ t : Nat, (t : Int) < A 12 7 → g.1 69 t = A 19 t ∧ g.1 70 t = A 20 t ∧ g.1 71 t = A 21 t
def RM (A : St) (g : Mm) : Prop := MW A g ∧ MPg A g ∧ MT_ A g ∧ (A 12 6 = 1 → MK A g)
theorem Wb_up {A : St} (h : Wb A) {i j : Nat} {v : Int} (hi : i ≠ 12) : Wb (up A i j v) := by
  have e : ∀ q, up A i j v 12 q = A 12 q := fun q => by rw [up_1, if_neg (fun z => hi z.1.symm)]
  unfold Wb
  rw [e, e, e, e]
  exact h
/-- what the class leaves, what the model leaves -/
def sameM (g g' : Mm) : Prop := ∀ a, 46 ≤ a → g'.1 a = g.1 a ∧ g'.2 a = g.2 a
def sameC (g g' : Mm) : Prop := ∀ a, a < 46 → g'.1 a = g.1 a ∧ g'.2 a = g.2 a
theorem sameM.rf (g : Mm) : sameM g g := fun _ _ => ⟨rfl, rfl⟩
theorem sameC.rf (g : Mm) : sameC g g := fun _ _ => ⟨rfl, rfl⟩
theorem sameM.tr {g h k : Mm} (h1 : sameM g h) (h2 : sameM h k) : sameM g k := fun a ha => ⟨(h2 a ha).1.trans (h1 a ha).1, (h2 a ha).2.trans (h1 a ha).2⟩
theorem sameC.tr {g h k : Mm} (h1 : sameC g h) (h2 : sameC h k) : sameC g k := fun a ha => ⟨(h2 a ha).1.trans (h1 a ha).1, (h2 a ha).2.trans (h1 a ha).2⟩
theorem sameM.wr {g h : Mm} (h1 : sameM g h) {k j : Nat} {v : Int} (hk : k < 46) : sameM g (wr h k j v) := fun a ha => ⟨by funext b; rw [wr_1, if_neg (by omega), (h1 a ha).1], (h1 a ha).2⟩
theorem sameC.wr {g h : Mm} (h1 : sameC g h) {k j : Nat} {v : Int} (hk : 46 ≤ k) : sameC g (wr h k j v) := fun a ha => ⟨by funext b; rw [wr_1, if_neg (by omega), (h1 a ha).1], (h1 a ha).2⟩
theorem CW_part {A : St} {g : Mm} (hC : CW A g) {j p : Nat} (hj : j < 8) (h6 : j ≠ 6) (v : Int) (hp : p < 5) : CW (up A j p v) (wr g (6 + p) j v) := by
  obtain ⟨h1, h2, h3⟩ := hC
  rcases (show j = 0 ∨ j = 1 ∨ j = 2 ∨ j = 3 ∨ j = 4 ∨ j = 5 ∨ j = 7 by omega) with rfl | rfl | rfl | rfl | rfl | rfl | rfl
  all_goals
    have e3 : ¬ (3 = 6 + p) := by omega
    refine ⟨by simpa [up, wr, e3] using h1, fun q hq => ?_, fun t ht => ?_⟩
    · have h4 := h2 q (by simpa [up] using hq)
      by_cases e : q = p
      · subst e
        simp only [cPt0] at h4
        simp [cPt0, up, wr, h4]
      · simp only [cPt0] at h4
        simp [cPt0, up, wr, e, h4]
    · obtain ⟨a, b, c⟩ := h3 t (by simpa [up] using ht)
      exact ⟨by rw [wr_1, if_neg (by omega)]; simpa [up] using a, by rw [wr_1, if_neg (by omega)]; simpa [up] using b, by rw [wr_1, if_neg (by omega)]; simpa [up] using c⟩
theorem CW_told {A : St} {g : Mm} (hC : CW A g) {p : Nat} (v w : Int) (hp : p < 5) (hw : w = if v = -1 then 0 else 1) : CW (up A 6 p v) (wr g (6 + p) 6 w) := by
  obtain ⟨h1, h2, h3⟩ := hC
  refine ⟨by simpa [up, wr] using h1, fun q hq => ?_, fun t ht => ?_⟩
  · have h4 := h2 q (by simpa [up] using hq)
    by_cases e : q = p
    · subst e
      simp only [cPt0] at h4
      simp [cPt0, up, wr, h4, hw]
    · simp only [cPt0] at h4
      simp [cPt0, up, wr, e, h4]
  · obtain ⟨a, b, c⟩ := h3 t (by simpa [up] using ht)
    exact ⟨by rw [wr_1, if_neg (by omega)]; simpa [up] using a, by rw [wr_1, if_neg (by omega)]; simpa [up] using b, by rw [wr_1, if_neg (by omega)]; simpa [up] using c⟩
theorem CW_lot {A : St} {g : Mm} (w2 : A 12 0 ≤ 5) (hC : CW A g) {j t : Nat} (hj : j < 3) (v : Int) : CW (up A (8 + j) t v) (wr g (11 + t) j v) := by
  obtain ⟨h1, h2, h3⟩ := hC
  rcases (show j = 0 ∨ j = 1 ∨ j = 2 by omega) with rfl | rfl | rfl
  all_goals
    have e3 : ¬ (3 = 11 + t) := by omega
    refine ⟨by simpa [up, wr, e3] using h1, fun q hq => ?_, fun s hs => ?_⟩
    · have hq' : (q : Int) < A 12 0 := by simpa [up] using hq
      obtain ⟨a, b, c, d, e, f, k, l⟩ := h2 q hq'
      exact ⟨by rw [wr_1, if_neg (by omega)]; simpa [up] using a, by rw [wr_1, if_neg (by omega)]; simpa [up] using b, by rw [wr_1, if_neg (by omega)]; simpa [up] using c, by rw [wr_1, if_neg (by omega)]; simpa [up] using d, by rw [wr_1, if_neg (by omega)]; simpa [up] using e, by rw [wr_1, if_neg (by omega)]; simpa [up] using f, by rw [wr_1, if_neg (by omega)]; simpa [up] using k, by rw [wr_1, if_neg (by omega)]; simpa [up] using l⟩
    · have h4 := h3 s (by simpa [up] using hs)
      by_cases e : s = t
      · subst e
        simp only [cLt0] at h4
        simp [cLt0, up, wr, h4]
      · simp only [cLt0] at h4
        simp [cLt0, up, wr, e, h4]
/-- the work's cells alone count -/
theorem CW_fr {A A' : St} {g g' : Mm} (hC : CW A g) (hg : ∀ a, 3 ≤ a → a < 14 → g'.1 a = g.1 a) (hn : A' 12 0 = A 12 0 ∧ A' 12 2 = A 12 2 ∧ A' 12 1 = A 12 1) (hp : ∀ i p : Nat, i < 8 → (p : Int) < A 12 0 → A' i p = A i p) (hl : ∀ i t : Nat, 8 ≤ i → i < 11 → (t : Int) < A 12 2 → A' i t = A i t) (h5 : A 12 0 ≤ 5) (h3 : A 12 2 ≤ 3) : CW A' g' := by
  obtain ⟨h1, h2, h4⟩ := hC
  obtain ⟨n1, n2, n3⟩ := hn
  refine ⟨by rw [hg 3 (by omega) (by omega), n1, n2, n3]; exact h1, fun q hq => ?_, fun t ht => ?_⟩
  · rw [n1] at hq
    have e := h2 q hq
    simp only [cPt0] at e ⊢
    rw [hg (6 + q) (by omega) (by omega), hp 0 q (by omega) hq, hp 1 q (by omega) hq, hp 2 q (by omega) hq, hp 3 q (by omega) hq, hp 4 q (by omega) hq, hp 5 q (by omega) hq, hp 6 q (by omega) hq, hp 7 q (by omega) hq]
    exact e
  · rw [n2] at ht
    have e := h4 t ht
    simp only [cLt0] at e ⊢
    rw [hg (11 + t) (by omega) (by omega), hl 8 t (by omega) (by omega) ht, hl 9 t (by omega) (by omega) ht, hl 10 t (by omega) (by omega) ht]
    exact e
theorem MW_part {A : St} {g : Mm} (hC : MW A g) {j p : Nat} (hj : j < 8) (v : Int) : MW (up A j p v) (wr g (47 + j) p v) := by
  obtain ⟨h1, h2, h3⟩ := hC
  rcases (show j = 0 ∨ j = 1 ∨ j = 2 ∨ j = 3 ∨ j = 4 ∨ j = 5 ∨ j = 6 ∨ j = 7 by omega) with rfl | rfl | rfl | rfl | rfl | rfl | rfl | rfl
  all_goals
    refine ⟨by simpa [up, wr] using h1, fun q hq => ?_, fun t ht => ?_⟩
    · have h4 := h2 q (by simpa [up] using hq)
      by_cases e : q = p
      · subst e
        simp [up, wr, h4]
      · simp [up, wr, e, h4]
    · have h5 := h3 t (by simpa [up] using ht)
      simpa [up, wr] using h5
theorem MW_lot {A : St} {g : Mm} (hC : MW A g) {j t : Nat} (hj : j < 3) (v : Int) : MW (up A (8 + j) t v) (wr g (55 + j) t v) := by
  obtain ⟨h1, h2, h3⟩ := hC
  rcases (show j = 0 ∨ j = 1 ∨ j = 2 by omega) with rfl | rfl | rfl
  all_goals
    refine ⟨by simpa [up, wr] using h1, fun q hq => ?_, fun s hs => ?_⟩
    · have h4 := h2 q (by simpa [up] using hq)
      simpa [up, wr] using h4
    · have h5 := h3 s (by simpa [up] using hs)
      by_cases e : s = t
      · subst e
        simp [up, wr, h5]
      · simp [up, wr, e, h5]
theorem MW_fr {A A' : St} {g g' : Mm} (hC : MW A g) (hg : ∀ a, 47 ≤ a → a < 58 → g'.1 a = g.1 a) (h0 : g'.1 46 1 = g.1 46 1 ∧ g'.1 46 11 = g.1 46 11 ∧ g'.1 46 2 = g.1 46 2) (hn : A' 12 0 = A 12 0 ∧ A' 12 2 = A 12 2 ∧ A' 12 1 = A 12 1) (hp : ∀ i p : Nat, i < 8 → (p : Int) < A 12 0 → A' i p = A i p) (hl : ∀ i t : Nat, 8 ≤ i → i < 11 → (t : Int) < A 12 2 → A' i t = A i t) : MW A' g' := by
  obtain ⟨h1, h2, h4⟩ := hC
  obtain ⟨n1, n2, n3⟩ := hn
  obtain ⟨z1, z2, z3⟩ := h0
  refine ⟨by rw [z1, z2, z3, n1, n2, n3]; exact h1, fun q hq => ?_, fun t ht => ?_⟩
  · rw [n1] at hq
    have e := h2 q hq
    rw [hg 47 (by omega) (by omega), hg 48 (by omega) (by omega), hg 49 (by omega) (by omega), hg 50 (by omega) (by omega), hg 51 (by omega) (by omega), hg 52 (by omega) (by omega), hg 53 (by omega) (by omega), hg 54 (by omega) (by omega), hp 0 q (by omega) hq, hp 1 q (by omega) hq, hp 2 q (by omega) hq, hp 3 q (by omega) hq, hp 4 q (by omega) hq, hp 5 q (by omega) hq, hp 6 q (by omega) hq, hp 7 q (by omega) hq]
    exact e
  · rw [n2] at ht
    have e := h4 t ht
    rw [hg 55 (by omega) (by omega), hg 56 (by omega) (by omega), hg 57 (by omega) (by omega), hl 8 t (by omega) (by omega) ht, hl 9 t (by omega) (by omega) ht, hl 10 t (by omega) (by omega) ht]
    exact e
