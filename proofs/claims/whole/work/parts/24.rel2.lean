/-! ===== frames of the relations; single writes ===== -/
theorem CK_fr {A A' : St} {g g' : Mm} (h : CK A g) (hg : ∀ a, 14 ≤ a → a < 25 → g'.1 a = g.1 a) (hn : A' 12 0 = A 12 0 ∧ A' 12 7 = A 12 7 ∧ A' 12 1 = A 12 1) (h01 : ∀ i p : Nat, i < 2 → A' i p = A i p) (hk : ∀ i p : Nat, 13 ≤ i → i < 22 → A' i p = A i p) (h5 : A 12 0 ≤ 5) (h3 : A 12 7 ≤ 3) : CK A' g' := by
  obtain ⟨h1, h2, h4⟩ := h
  obtain ⟨n1, n2, n3⟩ := hn
  refine ⟨by rw [hg 14 (by omega) (by omega), n1, n2, n3]; exact h1, fun q hq => ?_, fun t ht => ?_⟩
  · rw [n1] at hq
    have e := h2 q hq
    simp only [cPtK] at e ⊢
    rw [hg (17 + q) (by omega) (by omega), h01 0 q (by omega), h01 1 q (by omega), hk 13 q (by omega) (by omega), hk 14 q (by omega) (by omega), hk 15 q (by omega) (by omega), hk 16 q (by omega) (by omega), hk 17 q (by omega) (by omega), hk 18 q (by omega) (by omega)]
    exact e
  · rw [n2] at ht
    have e := h4 t ht
    simp only [cLtK] at e ⊢
    rw [hg (22 + t) (by omega) (by omega), hk 19 t (by omega) (by omega), hk 20 t (by omega) (by omega), hk 21 t (by omega) (by omega)]
    exact e
theorem MK_fr {A A' : St} {g g' : Mm} (h : MK A g) (hg : ∀ a, 63 ≤ a → a < 72 → g'.1 a = g.1 a) (h0 : g'.1 46 27 = g.1 46 27) (hn : A' 12 0 = A 12 0 ∧ A' 12 7 = A 12 7) (hk : ∀ i p : Nat, 13 ≤ i → i < 22 → A' i p = A i p) : MK A' g' := by
  obtain ⟨h1, h2, h4⟩ := h
  obtain ⟨n1, n2⟩ := hn
  refine ⟨by rw [h0, n2]; exact h1, fun q hq => ?_, fun t ht => ?_⟩
  · rw [n1] at hq
    have e := h2 q hq
    rw [hg 63 (by omega) (by omega), hg 64 (by omega) (by omega), hg 65 (by omega) (by omega), hg 66 (by omega) (by omega), hg 67 (by omega) (by omega), hg 68 (by omega) (by omega), hk 13 q (by omega) (by omega), hk 14 q (by omega) (by omega), hk 15 q (by omega) (by omega), hk 16 q (by omega) (by omega), hk 17 q (by omega) (by omega), hk 18 q (by omega) (by omega)]
    exact e
  · rw [n2] at ht
    have e := h4 t ht
    rw [hg 69 (by omega) (by omega), hg 70 (by omega) (by omega), hg 71 (by omega) (by omega), hk 19 t (by omega) (by omega), hk 20 t (by omega) (by omega), hk 21 t (by omega) (by omega)]
    exact e
theorem wr_off {g : Mm} {k j : Nat} {v : Int} {a : Nat} (h : a ≠ k) : (wr g k j v).1 a = g.1 a := by funext b; rw [wr_1, if_neg (fun q => h q.1)]
theorem up_off {A : St} {i j : Nat} {v : Int} {a b : Nat} (h : a ≠ i ∨ b ≠ j) : up A i j v a b = A a b := by rw [up_1, if_neg (fun q => by omega)]
theorem up_at {A : St} {i j : Nat} {v : Int} : up A i j v i j = v := by simp [up]
theorem wr_at {g : Mm} {k j : Nat} {v : Int} : (wr g k j v).1 k j = v := by simp [wr]
/-- one write in the work: the rest of the relation stays -/
theorem RC_w {A A' : St} {g : Mm} {k j : Nat} {v : Int} (hR : RC A g) (hW : Wb A) (hk : 3 ≤ k ∧ k < 14) (h6 : 6 ≤ k → k < 11 → j = 6 → v = 0 ∨ v = 1) (hA : ∀ i p : Nat, (i = 11 ∨ i = 12 ∨ i < 2 ∨ (13 ≤ i ∧ i < 22)) → A' i p = A i p) (hC : CW A' (wr g k j v)) : RC A' (wr g k j v) := by
  obtain ⟨-, h2, h3, h4, h5⟩ := hR
  obtain ⟨⟨w1, w2⟩, -, wk⟩ := hW
  refine ⟨hC, ⟨?_, fun q hq => ?_⟩, ⟨?_, ?_, ?_⟩, fun hK => ?_, fun p hp => ⟨?_, ?_⟩⟩
  · rw [wr_off (by omega), hA 12 3 (by omega)]; exact h2.1
  · rw [hA 12 3 (by omega)] at hq
    rw [wr_off (by omega), hA 11 q (by omega)]; exact h2.2 q hq
  · rw [wr_off (by omega), hA 12 6 (by omega)]; exact h3.1
  · rw [wr_off (by omega), hA 12 4 (by omega)]; exact h3.2.1
  · rw [wr_off (by omega), hA 12 5 (by omega)]; exact h3.2.2
  · rw [hA 12 6 (by omega)] at hK
    have wk1 := wk hK
    exact CK_fr (h4 hK) (fun a h1 h2 => wr_off (by omega)) ⟨hA 12 0 (by omega), hA 12 7 (by omega), hA 12 1 (by omega)⟩ (fun i p h => hA i p (by omega)) (fun i p h1 h2 => hA i p (by omega)) w2 (by omega)
  · by_cases e : 6 + p = k ∧ 6 = j
    · rw [wr_1, if_pos e]; exact h6 (by omega) (by omega) e.2.symm
    · rw [wr_1, if_neg e]; exact (h5 p hp).1
  · rw [wr_off (by omega)]; exact (h5 p hp).2
theorem RC_part {A : St} {g : Mm} (hR : RC A g) (hW : Wb A) {j p : Nat} (hj : 2 ≤ j ∧ j < 8 ∧ j ≠ 6) (v : Int) (hp : p < 5) : RC (up A j p v) (wr g (6 + p) j v) :=
  RC_w hR hW (by omega) (fun _ _ h => by omega) (fun i q h => up_off (by omega)) (CW_part hR.1 (by omega) (by omega) v hp)
theorem RC_told {A : St} {g : Mm} (hR : RC A g) (hW : Wb A) {p : Nat} (v w : Int) (hp : p < 5) (hw : w = if v = -1 then 0 else 1) : RC (up A 6 p v) (wr g (6 + p) 6 w) :=
  RC_w hR hW (by omega) (fun _ _ h => by rw [hw]; split <;> omega) (fun i q h => up_off (by omega)) (CW_told hR.1 v w hp hw)
theorem RC_lot {A : St} {g : Mm} (hR : RC A g) (hW : Wb A) {j t : Nat} (hj : j < 3) (v : Int) (ht : t < 3) : RC (up A (8 + j) t v) (wr g (11 + t) j v) :=
  RC_w hR hW (by omega) (fun _ _ h => by omega) (fun i q h => up_off (by omega)) (CW_lot hW.1.2 hR.1 hj v)
/-- writes outside the work (the page, the top object, the helpers): the work and what is kept stay -/
theorem RC_o {A A' : St} {g g' : Mm} (hR : RC A g) (hW : Wb A) (hg : ∀ a, 3 ≤ a → a < 25 → g'.1 a = g.1 a) (hA : ∀ i p : Nat, (i < 11 ∨ (13 ≤ i ∧ i < 22) ∨ (i = 12 ∧ (p < 3 ∨ p = 7))) → A' i p = A i p) (hK : A' 12 6 = 1 → A 12 6 = 1) (hP : CPg A' g') (hT : CT A' g') : RC A' g' := by
  obtain ⟨h1, h2, h3, h4, h5⟩ := hR
  obtain ⟨⟨w1, w2⟩, ⟨w3, w4⟩, wk⟩ := hW
  refine ⟨CW_fr h1 (fun a ha hb => hg a ha (by omega)) ⟨hA 12 0 (by omega), hA 12 2 (by omega), hA 12 1 (by omega)⟩ (fun i p h _ => hA i p (by omega)) (fun i t ha hb _ => hA i t (by omega)) w2 w4, hP, hT, fun hk => ?_, fun p hp => ?_⟩
  · have wk1 := wk (hK hk)
    exact CK_fr (h4 (hK hk)) (fun a ha hb => hg a (by omega) hb) ⟨hA 12 0 (by omega), hA 12 7 (by omega), hA 12 1 (by omega)⟩ (fun i p h => hA i p (by omega)) (fun i p ha hb => hA i p (by omega)) w2 (by omega)
  · rw [hg (6 + p) (by omega) (by omega), hg (17 + p) (by omega) (by omega)]; exact h5 p hp
/-- the helpers' cells (25 to 45) don't count -/
theorem RC_help {A : St} {g g' : Mm} (hR : RC A g) (hg : ∀ a, a < 25 → g'.1 a = g.1 a) (h5 : A 12 0 ≤ 5) (h3 : A 12 2 ≤ 3) (h7 : A 12 6 = 1 → A 12 7 ≤ 3) : RC A g' := by
  obtain ⟨h1, h2, h3', h4, h6⟩ := hR
  refine ⟨CW_fr h1 (fun a ha hb => hg a (by omega)) ⟨rfl, rfl, rfl⟩ (fun _ _ _ _ => rfl) (fun _ _ _ _ _ => rfl) h5 h3, ?_, ?_, fun hk => CK_fr (h4 hk) (fun a ha hb => hg a (by omega)) ⟨rfl, rfl, rfl⟩ (fun _ _ _ => rfl) (fun _ _ _ _ => rfl) h5 (h7 hk), fun p hp => ?_⟩
  · unfold CPg; rw [hg 1 (by omega), hg 2 (by omega)]; exact h2
  · unfold CT; rw [hg 0 (by omega)]; exact h3'
  · rw [hg (6 + p) (by omega), hg (17 + p) (by omega)]; exact h6 p hp
theorem RC_same {A : St} {g g' : Mm} {n : Int} (hR : RC A g) (hW : Wf A n) (hs : sameC g g') : RC A g' := RC_help hR (fun a ha => (hs a (by omega)).1) hW.1.1.2.1 hW.1.1.2.2.2.1 (fun hk => (hW.2.2.2 hk).1.2)
/-- one write in the model's work -/
theorem RM_w {A A' : St} {g : Mm} {k j : Nat} {v : Int} (hR : RM A g) (hk : 47 ≤ k ∧ k < 58) (hA : ∀ i p : Nat, (i = 11 ∨ i = 12 ∨ (13 ≤ i ∧ i < 22)) → A' i p = A i p) (hC : MW A' (wr g k j v)) : RM A' (wr g k j v) := by
  obtain ⟨-, h2, h3, h4⟩ := hR
  refine ⟨hC, ⟨?_, fun q hq => ?_⟩, ?_, fun hK => ?_⟩
  · rw [wr_off (by omega), hA 12 3 (by omega)]; exact h2.1
  · rw [hA 12 3 (by omega)] at hq
    rw [wr_off (by omega), hA 11 q (by omega)]; exact h2.2 q hq
  · unfold MT_
    rw [wr_off (by omega), hA 12 4 (by omega), hA 12 5 (by omega), hA 12 6 (by omega)]
    exact h3
  · rw [hA 12 6 (by omega)] at hK
    exact MK_fr (h4 hK) (fun a h1 h2 => wr_off (by omega)) (by rw [wr_off (by omega)]) ⟨hA 12 0 (by omega), hA 12 7 (by omega)⟩ (fun i p h1 h2 => hA i p (by omega))
theorem RM_part {A : St} {g : Mm} (hR : RM A g) {j p : Nat} (hj : j < 8) (v : Int) : RM (up A j p v) (wr g (47 + j) p v) :=
  RM_w hR (by omega) (fun i q h => up_off (by omega)) (MW_part hR.1 hj v)
theorem RM_lot {A : St} {g : Mm} (hR : RM A g) {j t : Nat} (hj : j < 3) (v : Int) : RM (up A (8 + j) t v) (wr g (55 + j) t v) :=
  RM_w hR (by omega) (fun i q h => up_off (by omega)) (MW_lot hR.1 hj v)
theorem RM_o {A A' : St} {g g' : Mm} (hR : RM A g) (hg : ∀ a, 47 ≤ a → a < 72 → a ≠ 58 → (a < 59 ∨ 62 < a) → g'.1 a = g.1 a) (h0 : g'.1 46 1 = g.1 46 1 ∧ g'.1 46 11 = g.1 46 11 ∧ g'.1 46 2 = g.1 46 2 ∧ g'.1 46 27 = g.1 46 27) (hA : ∀ i p : Nat, (i < 11 ∨ (13 ≤ i ∧ i < 22) ∨ (i = 12 ∧ (p < 3 ∨ p = 7))) → A' i p = A i p) (hK : A' 12 6 = 1 → A 12 6 = 1) (hP : MPg A' g') (hT : MT_ A' g') : RM A' g' := by
  obtain ⟨h1, h2, h3, h4⟩ := hR
  refine ⟨MW_fr h1 (fun a ha hb => hg a ha (by omega) (by omega) (by omega)) ⟨h0.1, h0.2.1, h0.2.2.1⟩ ⟨hA 12 0 (by omega), hA 12 2 (by omega), hA 12 1 (by omega)⟩ (fun i p h _ => hA i p (by omega)) (fun i t ha hb _ => hA i t (by omega)), hP, hT, fun hk => ?_⟩
  exact MK_fr (h4 (hK hk)) (fun a ha hb => hg a (by omega) hb (by omega) (by omega)) h0.2.2.2 ⟨hA 12 0 (by omega), hA 12 7 (by omega)⟩ (fun i p ha hb => hA i p (by omega))
theorem RM_same {A : St} {g g' : Mm} (hR : RM A g) (hs : sameM g g') : RM A g' := by
  refine RM_o hR (fun a h1 h2 _ _ => (hs a (by omega)).1) ?_ (fun _ _ _ => rfl) (fun h => h) ?_ ?_
  · have := (hs 46 (by omega)).1
    rw [this]; exact ⟨rfl, rfl, rfl, rfl⟩
  · unfold MPg; rw [(hs 46 (by omega)).1, (hs 58 (by omega)).1]; exact hR.2.1
  · unfold MT_; rw [(hs 46 (by omega)).1]; exact hR.2.2.1
/-- the model's scratch cells (59 to 62) and its scratch fields don't count -/
theorem RM_scr {A : St} {g g' : Mm} (hR : RM A g) (hg : ∀ a, 47 ≤ a → a < 72 → (a < 59 ∨ 62 < a) → g'.1 a = g.1 a) (h0 : ∀ j, j ≠ 18 → j ≠ 19 → g'.1 46 j = g.1 46 j) : RM A g' := by
  refine RM_o hR (fun a h1 h2 _ h => hg a h1 h2 h) ⟨h0 1 (by omega) (by omega), h0 11 (by omega) (by omega), h0 2 (by omega) (by omega), h0 27 (by omega) (by omega)⟩ (fun _ _ _ => rfl) (fun h => h) ?_ ?_
  · unfold MPg; rw [h0 16 (by omega) (by omega), hg 58 (by omega) (by omega) (by omega)]; exact hR.2.1
  · unfold MT_; rw [h0 0 (by omega) (by omega), h0 15 (by omega) (by omega), h0 25 (by omega) (by omega), h0 26 (by omega) (by omega)]; exact hR.2.2.1
