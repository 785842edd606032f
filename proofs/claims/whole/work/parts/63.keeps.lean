/-! ===== what every call keeps ===== -/
def Wx (A : St) : Prop := (∀ p : Nat, (p : Int) < A 12 0 → A 3 p ≠ -1 → A 2 p ≠ A 3 p) ∧ (A 12 6 = 1 → ∀ p : Nat, (p : Int) < A 12 0 → A 14 p ≠ -1 → A 13 p ≠ A 14 p)
def WZ (A : St) (n : Int) : Prop := Wf A n ∧ Wx A
theorem wL_mono {A : St} {n m : Int} {t : Nat} (h : wLt0 A n t) (hm : n ≤ m) : wLt0 A m t := by unfold wLt0 at *; omega
theorem wLK_mono {A : St} {n m : Int} {t : Nat} (h : wLtK A n t) (hm : n ≤ m) : wLtK A m t := by unfold wLtK at *; omega
theorem WZ_w {A A' : St} {n : Int} (h : WZ A n) (hn : n + 1 ≤ 512) (h12 : ∀ j, A' 12 j = A 12 j) (h0 : ∀ i p : Nat, i = 0 ∨ i = 1 ∨ i = 11 ∨ (13 ≤ i ∧ i < 22) → A' i p = A i p) (hp : ∀ p : Nat, (p : Int) < A 12 0 → wPt0 A' (A 12 2) p ∧ (A' 3 p ≠ -1 → A' 2 p ≠ A' 3 p)) (hl : ∀ t : Nat, (t : Int) < A 12 2 → wLt0 A' (n + 1) t) : WZ A' (n + 1) := by
  obtain ⟨⟨⟨⟨w1, w2, w3, w4, w5, w6, w7, w8⟩, w9, w10⟩, ⟨q1, q2, q3⟩, ⟨z1, z2, z3⟩, k⟩, ⟨x1, x2⟩⟩ := h
  refine ⟨⟨⟨?_, fun p hp' => ?_, fun t ht => ?_⟩, ⟨?_, ?_, fun k hk => ?_⟩, ⟨?_, ?_, ?_⟩, fun hk => ?_⟩, fun p hp' => ?_, fun hk p hp' => ?_⟩
  · rw [h12, h12, h12]; omega
  · rw [h12] at hp'
    rw [h0 0 p (by omega), h0 1 p (by omega), h12]
    exact ⟨(w9 p hp').1, (w9 p hp').2.1, (hp p hp').1⟩
  · rw [h12] at ht; exact hl t ht
  · rw [h12]; exact q1
  · rw [h12]; exact q2
  · rw [h12] at hk; rw [h0 11 k (by omega)]; exact q3 k hk
  · rw [h12]; exact z1
  · rw [h12]; omega
  · rw [h12]; exact z3
  · rw [h12] at hk
    obtain ⟨k1, k2, k3⟩ := k hk
    refine ⟨by rw [h12]; exact k1, fun p hp' => ?_, fun t ht => ?_⟩
    · rw [h12] at hp'
      have := k2 p hp'
      unfold wPtK at *
      rw [h12, h0 13 p (by omega), h0 14 p (by omega), h0 15 p (by omega), h0 16 p (by omega), h0 17 p (by omega), h0 18 p (by omega)]
      exact this
    · rw [h12] at ht
      have := wLK_mono (k3 t ht) (show n ≤ n + 1 by omega)
      unfold wLtK at *
      rw [h0 19 t (by omega), h0 20 t (by omega), h0 21 t (by omega)]
      exact this
  · rw [h12] at hp'; exact (hp p hp').2
  · rw [h12] at hk hp'; rw [h0 13 p (by omega), h0 14 p (by omega)]; exact x2 hk p hp'
theorem WZ_P {A : St} {n : Int} (h : WZ A n) {p : Nat} (hp : (p : Int) < A 12 0) : wPt0 A (A 12 2) p ∧ (A 3 p ≠ -1 → A 2 p ≠ A 3 p) := ⟨(h.1.1.2.1 p hp).2.2, h.2.1 p hp⟩
theorem WZ_L {A : St} {n : Int} (h : WZ A n) {t : Nat} (ht : (t : Int) < A 12 2) : wLt0 A (n + 1) t := wL_mono (h.1.1.2.2 t ht) (by omega)
theorem WZ_same {A : St} {n : Int} (h : WZ A n) (hn : n + 1 ≤ 512) : WZ A (n + 1) := WZ_w h hn (fun _ => rfl) (fun _ _ _ => rfl) (fun p hp => WZ_P h hp) (fun t ht => WZ_L h ht)
/-- a write in one lot's row -/
theorem WZ_lot {A : St} {n : Int} (h : WZ A n) (hn : n + 1 ≤ 512) {t : Nat} {v : Int} (hv : 0 ≤ v ∧ v ≤ 40) : WZ (up A 9 t v) (n + 1) := by
  refine WZ_w h hn (fun j => up_off (by omega)) (fun i p _ => up_off (by omega)) (fun p hp => ?_) (fun q hq => ?_)
  · have := WZ_P h hp
    unfold wPt0 at *
    rw [up_off (by omega), up_off (by omega), up_off (by omega), up_off (by omega), up_off (by omega), up_off (by omega)]
    exact this
  · have := WZ_L h hq
    unfold wLt0 at *
    rw [up_off (a := 8) (by omega), up_off (a := 10) (by omega), up_1]
    split <;> omega
theorem WZ_buy {A : St} {n : Int} (h : WZ A n) (hn : n + 1 ≤ 512) (t b : Int) : WZ (nBuy A t b) (n + 1) := by
  unfold nBuy
  split
  · rename_i h1
    split
    · split
      · exact WZ_same h hn
      · have := h.1.1.2.2 t.toNat (by omega)
        unfold wLt0 at this
        exact WZ_lot h hn (by omega)
    · exact WZ_same h hn
  · exact WZ_same h hn
theorem WZ_back {A : St} {n : Int} (h : WZ A n) (hn : n + 1 ≤ 512) (t b : Int) : WZ (nBack A t b) (n + 1) := by
  unfold nBack
  split
  · rename_i h1
    split
    · split
      · exact WZ_same h hn
      · have := h.1.1.2.2 t.toNat (by omega)
        unfold wLt0 at this
        exact WZ_lot h hn (by omega)
    · exact WZ_same h hn
  · exact WZ_same h hn
theorem WZ_found {A : St} {n : Int} (h : WZ A n) (hn : n + 1 ≤ 512) (p s : Int) : WZ (nFound A p s) (n + 1) := by
  unfold nFound
  split
  · split
    · refine WZ_w h hn (fun j => up_off (by omega)) (fun i p _ => up_off (by omega)) (fun q hq => ?_) (fun q hq => ?_)
      · have := WZ_P h hq
        unfold wPt0 at *
        rw [up_off (a := 2) (by omega), up_off (a := 3) (by omega), up_off (a := 4) (by omega), up_off (a := 5) (by omega), up_off (a := 6) (by omega), up_1]
        refine ⟨⟨this.1.1, this.1.2.1, this.1.2.2.1, this.1.2.2.2.1, this.1.2.2.2.2.1, ?_⟩, this.2⟩
        split <;> omega
      · have := WZ_L h hq
        unfold wLt0 at *
        rw [up_off (by omega), up_off (by omega), up_off (by omega)]
        exact this
    · exact WZ_same h hn
  · exact WZ_same h hn
theorem WZ_wash {A : St} {n : Int} (h : WZ A n) (hn : n + 1 ≤ 512) : WZ (nWash A) (n + 1) := by
  unfold nWash
  split
  · exact WZ_same h hn
  · refine WZ_w h hn (fun j => waA_off A (by omega)) (fun i p _ => waA_off A (by omega)) (fun q hq => ?_) (fun q hq => ?_)
    · have := WZ_P h hq
      unfold wPt0 at *
      rw [waA_off A (by omega), waA_off A (by omega), waA_off A (by omega), waA_off A (by omega), waA_off A (by omega), waA_off A (by omega)]
      exact this
    · have := WZ_L h hq
      unfold wLt0 at *
      have e : waA A 8 q = fdd (A 8 q) (A 12 1) := if_pos ⟨rfl, hq⟩
      rw [e, waA_off A (i := 9) (by omega), waA_off A (i := 10) (by omega)]
      exact ⟨fdd_bd this.1 ⟨h.1.1.1.2.2.2.2.1, h.1.1.1.2.2.2.2.2.1⟩, this.2⟩
theorem tk_9 (A : St) (t : Nat) (x : Int) (j : Nat) : tkA A t x 9 j = if j = t then A 9 t - bgn (A 10 t) x else A 9 j := by
  unfold tkA; rw [up_off (by omega), up_1]; by_cases z : j = t <;> simp [z]
theorem tk_10 (A : St) (t : Nat) (x : Int) (j : Nat) : tkA A t x 10 j = if j = t then A 10 t + (4 * bgn (A 10 t) x - x) else A 10 j := by
  unfold tkA; rw [up_1, up_off (by omega)]; by_cases z : j = t <;> simp [z]
theorem tk_off (A : St) (t : Nat) (x : Int) {i j : Nat} (h : i ≠ 9 ∧ i ≠ 10) : tkA A t x i j = A i j := by
  unfold tkA; rw [up_off (by omega), up_off (by omega)]
theorem tk_ok {b lo x : Int} (hb : 0 ≤ b ∧ b ≤ 40) (hl : 0 ≤ lo) (hx : x ≤ 4 * b + lo) (hx2 : x ≤ 100) : 0 ≤ b - bgn lo x ∧ b - bgn lo x ≤ 40 ∧ 0 ≤ lo + (4 * bgn lo x - x) ∧ (lo + (4 * bgn lo x - x) ≤ lo - x ∨ lo + (4 * bgn lo x - x) ≤ 3) ∧ 4 * (b - bgn lo x) + (lo + (4 * bgn lo x - x)) = 4 * b + lo - x := by
  unfold bgn; omega
theorem WZ_gauge {A : St} {n : Int} (h : WZ A n) (hn : n + 1 ≤ 512) (p r : Int) : WZ (nGauge A p r) (n + 1) := by
  unfold nGauge
  split
  · rename_i h1
    split
    · rename_i h2
      split
      · rename_i h3
        obtain ⟨a1, a2, a3⟩ := h3
        obtain ⟨m, rfl⟩ : ∃ m : Nat, p = (m : Int) := ⟨p.toNat, by omega⟩
        rw [Int.toNat_natCast] at *
        have hP := (WZ_P h (p := m) (by omega)).1
        unfold wPt0 at hP
        have hL := h.1.1.2.2 (A 2 m).toNat (by omega)
        unfold wLt0 at hL
        have ht := tk_ok (b := A 9 (A 2 m).toNat) (lo := A 10 (A 2 m).toNat) (x := r - A 4 m) (by omega) (by omega) (by have : rws A (A 2 m).toNat = 4 * A 9 (A 2 m).toNat + A 10 (A 2 m).toNat := rfl; omega) (by omega)
        unfold gaA
        refine WZ_w h hn (fun j => by rw [up_off (by omega), up_off (by omega), tk_off _ _ _ (by omega)]) (fun i q _ => by rw [up_off (by omega), up_off (by omega), tk_off _ _ _ (by omega)]) (fun q hq => ?_) (fun q hq => ?_)
        · have hQ := WZ_P h hq
          unfold wPt0 at hQ
          unfold wPt0
          have e4 : up (up (tkA A (A 2 m).toNat (r - A 4 m)) 4 m r) 6 m r 4 q = if q = m then r else A 4 q := by
            rw [up_off (by omega), up_1, tk_off _ _ _ (by omega)]; by_cases z : q = m <;> simp [z]
          have e6 : up (up (tkA A (A 2 m).toNat (r - A 4 m)) 4 m r) 6 m r 6 q = if q = m then r else A 6 q := by
            rw [up_1, up_off (by omega), tk_off _ _ _ (by omega)]; by_cases z : q = m <;> simp [z]
          have eo : ∀ i, i ≠ 4 → i ≠ 6 → i ≠ 9 → i ≠ 10 → up (up (tkA A (A 2 m).toNat (r - A 4 m)) 4 m r) 6 m r i q = A i q := fun i i1 i2 i3 i4 => by
            rw [up_off (by omega), up_off (by omega), tk_off _ _ _ (by omega)]
          rw [e4, e6, eo 2 (by omega) (by omega) (by omega) (by omega), eo 3 (by omega) (by omega) (by omega) (by omega), eo 5 (by omega) (by omega) (by omega) (by omega), eo 7 (by omega) (by omega) (by omega) (by omega)]
          by_cases z : q = m
          · subst z
            rw [if_pos rfl, if_pos rfl]
            exact ⟨⟨hQ.1.1, hQ.1.2.1, by omega, hQ.1.2.2.2.1, Or.inr ⟨rfl, a1⟩, hQ.1.2.2.2.2.2⟩, hQ.2⟩
          · rw [if_neg z, if_neg z]; exact hQ
        · have hQ := WZ_L h hq
          unfold wLt0 at hQ
          unfold wLt0
          rw [up_off (by omega), up_off (by omega), up_off (by omega), up_off (by omega), up_off (by omega), up_off (by omega), tk_off _ _ _ (by omega), tk_9, tk_10]
          by_cases z : q = (A 2 m).toNat
          · rw [if_pos z, if_pos z]; omega
          · rw [if_neg z, if_neg z]; exact hQ
      · exact WZ_same h hn
    · exact WZ_same h hn
  · exact WZ_same h hn
theorem mk_rows (A : St) (p a b i q : Nat) (hi : i ≠ 9 ∧ i ≠ 10) : mkA A p a b i q = up (up (up (up A 2 p (a : Int)) 3 p (if (a : Int) = (b : Int) then -1 else (b : Int))) 4 p (hf A p a b)) 5 p (A 1 p - hf A p a b) i q := by
  unfold mkA; rw [tk_off _ _ _ hi, tk_off _ _ _ hi]
theorem WZ_knit {A : St} {n : Int} (h : WZ A n) (hn : n + 1 ≤ 512) (p x y : Int) : WZ (nKnit A p x y) (n + 1) := by
  unfold nKnit
  split
  · rename_i h1
    split
    · rename_i h2
      obtain ⟨m, rfl⟩ : ∃ m : Nat, p = (m : Int) := ⟨p.toNat, by omega⟩
      obtain ⟨a, rfl⟩ : ∃ m : Nat, x = (m : Int) := ⟨x.toNat, by omega⟩
      obtain ⟨b, rfl⟩ : ∃ m : Nat, y = (m : Int) := ⟨y.toNat, by omega⟩
      rw [Int.toNat_natCast, Int.toNat_natCast, Int.toNat_natCast] at *
      obtain ⟨o1, o2, o3⟩ := h2
      have hr := (h.1.1.2.1 m (by omega)).2.1
      obtain ⟨f1, f2, f3⟩ := hf_bd h.1.1 (p := m) (by omega) a b
      have hLa := h.1.1.2.2 a (by omega)
      have hLb := h.1.1.2.2 b (by omega)
      unfold wLt0 at hLa hLb
      have ra : rws A a = 4 * A 9 a + A 10 a := rfl
      have rb : rws A b = 4 * A 9 b + A 10 b := rfl
      have t1 := tk_ok (b := A 9 a) (lo := A 10 a) (x := hf A m a b) (by omega) (by omega) (by omega) (by omega)
      refine WZ_w h hn (fun j => by rw [mk_rows _ _ _ _ _ _ (by omega), up_off (by omega), up_off (by omega), up_off (by omega), up_off (by omega)]) (fun i q _ => by rw [mk_rows _ _ _ _ _ _ (by omega), up_off (by omega), up_off (by omega), up_off (by omega), up_off (by omega)]) (fun q hq => ?_) (fun q hq => ?_)
      · have hQ := WZ_P h hq
        unfold wPt0 at hQ
        unfold wPt0
        rw [mk_rows _ _ _ _ 2 _ (by omega), mk_rows _ _ _ _ 3 _ (by omega), mk_rows _ _ _ _ 4 _ (by omega), mk_rows _ _ _ _ 5 _ (by omega), mk_rows _ _ _ _ 6 _ (by omega), mk_rows _ _ _ _ 7 _ (by omega)]
        by_cases z : q = m
        · subst z
          have hQ1 := hQ.1
          rw [up_off (a := 2) (by omega), up_off (a := 2) (by omega), up_off (a := 2) (by omega), up_at, up_off (a := 3) (by omega), up_off (a := 3) (by omega), up_at, up_off (a := 4) (by omega), up_at, up_at, up_off (a := 6) (by omega), up_off (a := 6) (by omega), up_off (a := 6) (by omega), up_off (a := 6) (by omega), up_off (a := 7) (by omega), up_off (a := 7) (by omega), up_off (a := 7) (by omega), up_off (a := 7) (by omega)]
          by_cases ab : (a : Int) = (b : Int)
          · rw [if_pos ab]; omega
          · rw [if_neg ab]; omega
        · rw [up_off (a := 2) (by omega), up_off (a := 2) (by omega), up_off (a := 2) (by omega), up_off (a := 2) (by omega), up_off (a := 3) (by omega), up_off (a := 3) (by omega), up_off (a := 3) (by omega), up_off (a := 3) (by omega), up_off (a := 4) (by omega), up_off (a := 4) (by omega), up_off (a := 4) (by omega), up_off (a := 4) (by omega), up_off (a := 5) (by omega), up_off (a := 5) (by omega), up_off (a := 5) (by omega), up_off (a := 5) (by omega), up_off (a := 6) (by omega), up_off (a := 6) (by omega), up_off (a := 6) (by omega), up_off (a := 6) (by omega), up_off (a := 7) (by omega), up_off (a := 7) (by omega), up_off (a := 7) (by omega), up_off (a := 7) (by omega)]
          exact hQ
      · have hQ := WZ_L h hq
        unfold wLt0 at hQ
        unfold wLt0
        rw [mk_rows _ _ _ _ 8 _ (by omega), up_off (by omega), up_off (by omega), up_off (by omega), up_off (by omega)]
        refine ⟨hQ.1, ?_⟩
        unfold mkA
        have e9 : ∀ j, up (up (up (up A 2 m (a : Int)) 3 m (if (a : Int) = (b : Int) then -1 else (b : Int))) 4 m (hf A m a b)) 5 m (A 1 m - hf A m a b) 9 j = A 9 j := fun j => by
          rw [up_off (by omega), up_off (by omega), up_off (by omega), up_off (by omega)]
        have e10 : ∀ j, up (up (up (up A 2 m (a : Int)) 3 m (if (a : Int) = (b : Int) then -1 else (b : Int))) 4 m (hf A m a b)) 5 m (A 1 m - hf A m a b) 10 j = A 10 j := fun j => by
          rw [up_off (by omega), up_off (by omega), up_off (by omega), up_off (by omega)]
        generalize up (up (up (up A 2 m (a : Int)) 3 m (if (a : Int) = (b : Int) then -1 else (b : Int))) 4 m (hf A m a b)) 5 m (A 1 m - hf A m a b) = B at e9 e10
        have c9 : ∀ j, tkA B a (hf A m a b) 9 j = if j = a then A 9 a - bgn (A 10 a) (hf A m a b) else A 9 j := fun j => by rw [tk_9, e9, e9, e10]
        have c10 : ∀ j, tkA B a (hf A m a b) 10 j = if j = a then A 10 a + (4 * bgn (A 10 a) (hf A m a b) - hf A m a b) else A 10 j := fun j => by rw [tk_10, e10, e10]
        generalize tkA B a (hf A m a b) = C at c9 c10
        have hb : (0 ≤ C 9 b ∧ C 9 b ≤ 40) ∧ 0 ≤ C 10 b ∧ C 10 b ≤ 20 * (n + 1) ∧ A 1 m - hf A m a b ≤ 4 * C 9 b + C 10 b := by
          rw [c9, c10]
          by_cases ab : b = a
          · have := f3 ab.symm
            rw [if_pos ab, if_pos ab]; omega
          · rw [if_neg ab, if_neg ab]; omega
        have t2 := tk_ok (b := C 9 b) (lo := C 10 b) (x := A 1 m - hf A m a b) hb.1 hb.2.1 hb.2.2.2 (by omega)
        have hn0 := h.1.1.1.2.2.2.2.2.2.1
        rw [tk_9, tk_10]
        by_cases z : q = b
        · rw [if_pos z, if_pos z]; omega
        · rw [if_neg z, if_neg z, c9, c10]
          by_cases w : q = a
          · rw [if_pos w, if_pos w]; omega
          · rw [if_neg w, if_neg w]; exact hQ.2
    · exact WZ_same h hn
  · exact WZ_same h hn
theorem lsA_off (A : St) (t : Nat) (x : Int) {i j : Nat} (h : i ≠ 10) : lsA A t x i j = A i j := by
  unfold lsA; split
  · rfl
  · rw [up_off (by omega)]
theorem ls_10 (A : St) (t : Nat) (x : Int) (j : Nat) : lsA A t x 10 j = if j = t ∧ x ≠ 0 then A 10 t + (x - 1) else A 10 j := by
  unfold lsA
  by_cases z : x = 0
  · rw [if_pos z, if_neg (by omega)]
  · rw [if_neg z, up_1]
    by_cases y : j = t <;> simp [y, z]
theorem cl_off (A : St) (p : Nat) {i q : Nat} (h : i < 2 ∨ 6 < i ∨ q ≠ p) : clA A p i q = A i q := by
  unfold clA; rw [up_off (by omega), up_off (by omega), up_off (by omega), up_off (by omega), up_off (by omega)]
theorem cl_at (A : St) (p : Nat) : clA A p 2 p = -1 ∧ clA A p 3 p = -1 ∧ clA A p 4 p = 0 ∧ clA A p 5 p = 0 ∧ clA A p 6 p = -1 := by
  unfold clA; simp [up_1]
theorem WZ_cl {A B : St} {n : Int} (h : WZ A n) (hn : n + 1 ≤ 512) (p : Nat) (hB : ∀ i j, i ≠ 10 → B i j = A i j) (hl : ∀ t : Nat, (t : Int) < A 12 2 → 0 ≤ B 10 t ∧ B 10 t ≤ 20 * (n + 1)) : WZ (clA B p) (n + 1) := by
  refine WZ_w h hn (fun j => by rw [cl_off _ _ (by omega), hB _ _ (by omega)]) (fun i q _ => by rw [cl_off _ _ (by omega), hB _ _ (by omega)]) (fun q hq => ?_) (fun q hq => ?_)
  · have hQ := WZ_P h hq
    unfold wPt0 at hQ
    unfold wPt0
    by_cases z : q = p
    · subst z
      obtain ⟨c2, c3, c4, c5, c6⟩ := cl_at B q
      rw [c2, c3, c4, c5, c6, cl_off _ _ (by omega), hB _ _ (by omega)]
      omega
    · rw [cl_off _ _ (by omega), cl_off _ _ (by omega), cl_off _ _ (by omega), cl_off _ _ (by omega), cl_off _ _ (by omega), cl_off _ _ (by omega), hB _ _ (by omega), hB _ _ (by omega), hB _ _ (by omega), hB _ _ (by omega), hB _ _ (by omega), hB _ _ (by omega)]
      exact hQ
  · have hQ := WZ_L h hq
    unfold wLt0 at hQ
    unfold wLt0
    rw [cl_off _ _ (by omega), cl_off _ _ (by omega), cl_off _ _ (by omega), hB _ _ (by omega), hB _ _ (by omega)]
    exact ⟨hQ.1, hQ.2.1, hl q hq⟩
theorem WZ_undo {A : St} {n : Int} (h : WZ A n) (hn : n + 1 ≤ 512) (p : Int) : WZ (nUndo A p) (n + 1) := by
  unfold nUndo
  split
  · rename_i h1
    split
    · exact WZ_same h hn
    · rename_i h2
      obtain ⟨m, rfl⟩ : ∃ m : Nat, p = (m : Int) := ⟨p.toNat, by omega⟩
      rw [Int.toNat_natCast] at *
      have hP := WZ_P h (p := m) (by omega)
      unfold wPt0 at hP
      unfold unA
      split
      · refine WZ_cl h hn m (fun i j hi => lsA_off _ _ _ hi) (fun t ht => ?_)
        have hQ := h.1.1.2.2 t ht
        unfold wLt0 at hQ
        rw [ls_10]
        by_cases z : t = (A 2 m).toNat ∧ A 4 m ≠ 0
        · rw [if_pos z, ← z.1]; omega
        · rw [if_neg z]; omega
      · rename_i h3
        have hd := hP.2 h3
        refine WZ_cl h hn m (fun i j hi => by rw [lsA_off _ _ _ hi, lsA_off _ _ _ hi]) (fun t ht => ?_)
        have hQ := h.1.1.2.2 t ht
        unfold wLt0 at hQ
        rw [ls_10, ls_10, ls_10]
        by_cases z : t = (A 3 m).toNat ∧ A 5 m ≠ 0
        · rw [if_pos z, ← z.1, if_neg (by omega)]; omega
        · rw [if_neg z]
          by_cases w : t = (A 2 m).toNat ∧ A 4 m ≠ 0
          · rw [if_pos w, ← w.1]; omega
          · rw [if_neg w]; omega
  · exact WZ_same h hn
theorem WZ_lotNew {A : St} {n : Int} (h : WZ A n) (hn : n + 1 ≤ 512) (s : Int) : WZ (nLot A s) (n + 1) := by
  unfold nLot
  split
  · exact WZ_same h hn
  · split
    · exact WZ_same h hn
    · split
      · exact WZ_same h hn
      · rename_i h1 h2 h3
        obtain ⟨⟨⟨⟨w1, w2, w3, w4, w5, w6, w7, w8⟩, w9, w10⟩, ⟨q1, q2, q3⟩, ⟨z1, z2, z3⟩, k⟩, ⟨x1, x2⟩⟩ := id h
        obtain ⟨t, ht⟩ : ∃ m : Nat, A 12 2 = (m : Int) := ⟨(A 12 2).toNat, by omega⟩
        have et : (A 12 2).toNat = t := by omega
        rw [et]
        have u0 : ∀ i j : Nat, i < 8 ∨ 10 < i → ¬ (i = 12 ∧ j = 2) → up (up (up (up A 8 t s) 9 t 0) 10 t 0) 12 2 (A 12 2 + 1) i j = A i j := fun i j q1 q2 => by
          rw [up_off (by omega), up_off (by omega), up_off (by omega), up_off (by omega)]
        have un : up (up (up (up A 8 t s) 9 t 0) 10 t 0) 12 2 (A 12 2 + 1) 12 2 = A 12 2 + 1 := up_at
        have b8 : ∀ q, up (up (up (up A 8 t s) 9 t 0) 10 t 0) 12 2 (A 12 2 + 1) 8 q = if q = t then s else A 8 q := fun q => by
          rw [up_off (by omega), up_off (by omega), up_off (by omega), up_1]; by_cases z : q = t <;> simp [z]
        have b9 : ∀ q, up (up (up (up A 8 t s) 9 t 0) 10 t 0) 12 2 (A 12 2 + 1) 9 q = if q = t then 0 else A 9 q := fun q => by
          rw [up_off (by omega), up_off (by omega), up_1, up_off (by omega)]; by_cases z : q = t <;> simp [z]
        have b10 : ∀ q, up (up (up (up A 8 t s) 9 t 0) 10 t 0) 12 2 (A 12 2 + 1) 10 q = if q = t then 0 else A 10 q := fun q => by
          rw [up_off (by omega), up_1, up_off (by omega), up_off (by omega)]; by_cases z : q = t <;> simp [z]
        generalize up (up (up (up A 8 t s) 9 t 0) 10 t 0) 12 2 (A 12 2 + 1) = B at u0 un b8 b9 b10
        refine ⟨⟨⟨?_, fun p hp => ?_, fun q hq => ?_⟩, ⟨?_, ?_, fun k hk => ?_⟩, ⟨?_, ?_, ?_⟩, fun hk => ?_⟩, fun p hp => ?_, fun hk p hp => ?_⟩
        · rw [un, u0 12 0 (by omega) (by omega), u0 12 1 (by omega) (by omega)]; omega
        · rw [u0 12 0 (by omega) (by omega)] at hp
          have e := w9 p hp
          unfold wPt0 at *
          rw [u0 0 p (by omega) (by omega), u0 1 p (by omega) (by omega), u0 2 p (by omega) (by omega), u0 3 p (by omega) (by omega), u0 4 p (by omega) (by omega), u0 5 p (by omega) (by omega), u0 6 p (by omega) (by omega), u0 7 p (by omega) (by omega), un]
          omega
        · rw [un] at hq
          unfold wLt0
          rw [b8, b9, b10]
          by_cases z : q = t
          · rw [if_pos z, if_pos z, if_pos z]; omega
          · rw [if_neg z, if_neg z, if_neg z]
            exact WZ_L h (by omega)
        · rw [u0 12 3 (by omega) (by omega)]; exact q1
        · rw [u0 12 3 (by omega) (by omega)]; exact q2
        · rw [u0 12 3 (by omega) (by omega)] at hk; rw [u0 11 k (by omega) (by omega)]; exact q3 k hk
        · rw [u0 12 6 (by omega) (by omega)]; exact z1
        · rw [u0 12 4 (by omega) (by omega)]; omega
        · rw [u0 12 5 (by omega) (by omega)]; exact z3
        · rw [u0 12 6 (by omega) (by omega)] at hk
          obtain ⟨k1, k2, k3⟩ := k hk
          refine ⟨by rw [u0 12 7 (by omega) (by omega)]; exact k1, fun p hp => ?_, fun q hq => ?_⟩
          · rw [u0 12 0 (by omega) (by omega)] at hp
            have e := k2 p hp
            unfold wPtK at *
            rw [u0 12 7 (by omega) (by omega), u0 13 p (by omega) (by omega), u0 14 p (by omega) (by omega), u0 15 p (by omega) (by omega), u0 16 p (by omega) (by omega), u0 17 p (by omega) (by omega), u0 18 p (by omega) (by omega)]
            exact e
          · rw [u0 12 7 (by omega) (by omega)] at hq
            have e := wLK_mono (k3 q hq) (show n ≤ n + 1 by omega)
            unfold wLtK at *
            rw [u0 19 q (by omega) (by omega), u0 20 q (by omega) (by omega), u0 21 q (by omega) (by omega)]
            exact e
        · rw [u0 12 0 (by omega) (by omega)] at hp
          rw [u0 2 p (by omega) (by omega), u0 3 p (by omega) (by omega)]
          exact x1 p hp
        · rw [u0 12 6 (by omega) (by omega)] at hk
          rw [u0 12 0 (by omega) (by omega)] at hp
          rw [u0 13 p (by omega) (by omega), u0 14 p (by omega) (by omega)]
          exact x2 hk p hp
/-- only the page, its length, or the asks are changed -/
theorem WZ_o {A B : St} {n : Int} (h : WZ A n) (hn : n + 1 ≤ 512) (u0 : ∀ i j : Nat, i ≠ 11 → ¬ (i = 12 ∧ (j = 3 ∨ j = 5)) → B i j = A i j) (hq : WPg B) (ha : 0 ≤ B 12 5 ∧ B 12 5 ≤ 20) : WZ B (n + 1) := by
  obtain ⟨⟨⟨⟨w1, w2, w3, w4, w5, w6, w7, w8⟩, w9, w10⟩, -, ⟨z1, z2, z3⟩, k⟩, ⟨x1, x2⟩⟩ := id h
  refine ⟨⟨⟨?_, fun p hp => ?_, fun q hq => ?_⟩, hq, ⟨?_, ?_, ha⟩, fun hk => ?_⟩, fun p hp => ?_, fun hk p hp => ?_⟩
  · rw [u0 12 0 (by omega) (by omega), u0 12 1 (by omega) (by omega), u0 12 2 (by omega) (by omega)]; omega
  · rw [u0 12 0 (by omega) (by omega)] at hp
    have e := w9 p hp
    unfold wPt0 at *
    rw [u0 0 p (by omega) (by omega), u0 1 p (by omega) (by omega), u0 2 p (by omega) (by omega), u0 3 p (by omega) (by omega), u0 4 p (by omega) (by omega), u0 5 p (by omega) (by omega), u0 6 p (by omega) (by omega), u0 7 p (by omega) (by omega), u0 12 2 (by omega) (by omega)]
    exact e
  · rw [u0 12 2 (by omega) (by omega)] at hq
    have e := WZ_L h hq
    unfold wLt0 at *
    rw [u0 8 q (by omega) (by omega), u0 9 q (by omega) (by omega), u0 10 q (by omega) (by omega)]
    exact e
  · rw [u0 12 6 (by omega) (by omega)]; exact z1
  · rw [u0 12 4 (by omega) (by omega)]; omega
  · rw [u0 12 6 (by omega) (by omega)] at hk
    obtain ⟨k1, k2, k3⟩ := k hk
    refine ⟨by rw [u0 12 7 (by omega) (by omega)]; exact k1, fun p hp => ?_, fun q hq => ?_⟩
    · rw [u0 12 0 (by omega) (by omega)] at hp
      have e := k2 p hp
      unfold wPtK at *
      rw [u0 12 7 (by omega) (by omega), u0 13 p (by omega) (by omega), u0 14 p (by omega) (by omega), u0 15 p (by omega) (by omega), u0 16 p (by omega) (by omega), u0 17 p (by omega) (by omega), u0 18 p (by omega) (by omega)]
      exact e
    · rw [u0 12 7 (by omega) (by omega)] at hq
      have e := wLK_mono (k3 q hq) (show n ≤ n + 1 by omega)
      unfold wLtK at *
      rw [u0 19 q (by omega) (by omega), u0 20 q (by omega) (by omega), u0 21 q (by omega) (by omega)]
      exact e
  · rw [u0 12 0 (by omega) (by omega)] at hp
    rw [u0 2 p (by omega) (by omega), u0 3 p (by omega) (by omega)]
    exact x1 p hp
  · rw [u0 12 6 (by omega) (by omega)] at hk
    rw [u0 12 0 (by omega) (by omega)] at hp
    rw [u0 13 p (by omega) (by omega), u0 14 p (by omega) (by omega)]
    exact x2 hk p hp
theorem WZ_letter {A : St} {n : Int} (h : WZ A n) (hn : n + 1 ≤ 512) (c : Int) : WZ (nLetter A c) (n + 1) := by
  obtain ⟨⟨-, ⟨q1, q2, q3⟩, ⟨-, -, z3⟩, -⟩, -⟩ := id h
  unfold nLetter
  split
  · exact WZ_same h hn
  · split
    · exact WZ_same h hn
    · refine WZ_o h hn (fun i j h1 h2 => by rw [up_off (by omega), up_off (by omega)]) ⟨?_, ?_, fun k hk => ?_⟩ (by rw [up_off (by omega), up_off (by omega)]; exact z3)
      · rw [up_at]; omega
      · rw [up_at]; omega
      · rw [up_at] at hk
        rw [up_off (by omega), up_1]
        by_cases z : k = (A 12 3).toNat
        · rw [if_pos ⟨rfl, z⟩]; omega
        · rw [if_neg (by omega)]; exact q3 k (by omega)
theorem WZ_blank {A : St} {n : Int} (h : WZ A n) (hn : n + 1 ≤ 512) : WZ (nBlank A) (n + 1) := by
  unfold nBlank
  refine WZ_o h hn (fun i j h1 h2 => by rw [up_off (by omega)]) ⟨?_, ?_, fun k hk => ?_⟩ (by rw [up_off (by omega)]; exact h.1.2.2.1.2.2)
  · rw [up_at]; omega
  · rw [up_at]; omega
  · rw [up_at] at hk; omega
theorem WZ_least {A : St} {n : Int} (h : WZ A n) (hn : n + 1 ≤ 512) (w : Int) : WZ (nLeast A w) (n + 1) := by
  obtain ⟨⟨-, ⟨q1, q2, q3⟩, ⟨-, -, z3⟩, -⟩, -⟩ := id h
  unfold nLeast
  split
  · exact WZ_same h hn
  · split
    · exact WZ_same h hn
    · refine WZ_o h hn (fun i j h1 h2 => by rw [up_off (by omega)]) ⟨?_, ?_, fun k hk => ?_⟩ (by rw [up_at]; omega)
      · rw [up_off (by omega)]; exact q1
      · rw [up_off (by omega)]; exact q2
      · rw [up_off (by omega)] at hk; rw [up_off (by omega)]; exact q3 k hk
theorem WZ_image {A : St} {n : Int} (h : WZ A n) (hn : n + 1 ≤ 512) : WZ (nImage A) (n + 1) := by
  unfold nImage
  split
  · exact WZ_same h hn
  · obtain ⟨⟨⟨⟨w1, w2, w3, w4, w5, w6, w7, w8⟩, w9, w10⟩, ⟨q1, q2, q3⟩, ⟨z1, z2, z3⟩, k⟩, ⟨x1, x2⟩⟩ := id h
    have e12 : ∀ j, j ≠ 6 → j ≠ 7 → imA A 12 j = A 12 j := fun j _ _ => imA_off A (by omega) (by omega)
    have eo : ∀ i j, i < 12 → imA A i j = A i j := fun i j _ => imA_off A (by omega) (by omega)
    have e7 : imA A 12 7 = A 12 2 := rfl
    have ek : ∀ i j : Nat, 13 ≤ i ∧ i < 22 → imA A i j = A (i - 11) j := fun i j h => imA_k A h
    refine ⟨⟨⟨?_, fun p hp => ?_, fun q hq => ?_⟩, ⟨?_, ?_, fun k hk => ?_⟩, ⟨Or.inr rfl, ?_, ?_⟩, fun hk => ⟨?_, fun p hp => ?_, fun q hq => ?_⟩⟩, fun p hp => ?_, fun hk p hp => ?_⟩
    · rw [e12 0 (by omega) (by omega), e12 1 (by omega) (by omega), e12 2 (by omega) (by omega)]; omega
    · rw [e12 0 (by omega) (by omega)] at hp
      have e := w9 p hp
      unfold wPt0 at *
      rw [eo 0 p (by omega), eo 1 p (by omega), eo 2 p (by omega), eo 3 p (by omega), eo 4 p (by omega), eo 5 p (by omega), eo 6 p (by omega), eo 7 p (by omega), e12 2 (by omega) (by omega)]
      exact e
    · rw [e12 2 (by omega) (by omega)] at hq
      have e := WZ_L h hq
      unfold wLt0 at *
      rw [eo 8 q (by omega), eo 9 q (by omega), eo 10 q (by omega)]
      exact e
    · rw [e12 3 (by omega) (by omega)]; exact q1
    · rw [e12 3 (by omega) (by omega)]; exact q2
    · rw [e12 3 (by omega) (by omega)] at hk; rw [eo 11 k (by omega)]; exact q3 k hk
    · rw [e12 4 (by omega) (by omega)]; omega
    · rw [e12 5 (by omega) (by omega)]; exact z3
    · rw [e7]; omega
    · rw [e12 0 (by omega) (by omega)] at hp
      have e := (w9 p hp).2.2
      unfold wPt0 at e
      unfold wPtK
      rw [ek 13 p (by omega), ek 14 p (by omega), ek 15 p (by omega), ek 16 p (by omega), ek 17 p (by omega), ek 18 p (by omega), e7]
      exact e
    · rw [e7] at hq
      have e := WZ_L h hq
      unfold wLt0 at e
      unfold wLtK
      rw [ek 19 q (by omega), ek 20 q (by omega), ek 21 q (by omega)]
      exact e
    · rw [e12 0 (by omega) (by omega)] at hp
      rw [eo 2 p (by omega), eo 3 p (by omega)]
      exact x1 p hp
    · rw [e12 0 (by omega) (by omega)] at hp
      rw [ek 13 p (by omega), ek 14 p (by omega)]
      exact x1 p hp
theorem WZ_restore {A : St} {n : Int} (h : WZ A n) (hn : n + 1 ≤ 512) : WZ (nRestore A) (n + 1) := by
  unfold nRestore
  split
  · rename_i hK
    obtain ⟨⟨⟨⟨w1, w2, w3, w4, w5, w6, w7, w8⟩, w9, w10⟩, ⟨q1, q2, q3⟩, ⟨z1, z2, z3⟩, k⟩, ⟨x1, x2⟩⟩ := id h
    obtain ⟨k1, k2, k3⟩ := k hK
    have e12 : ∀ j, j ≠ 2 → reA A 12 j = A 12 j := fun j _ => reA_off A (by omega) (by omega)
    have eo : ∀ i j, i < 2 ∨ i = 11 ∨ (12 < i) → reA A i j = A i j := fun i j _ => reA_off A (by omega) (by omega)
    have e2 : reA A 12 2 = A 12 7 := rfl
    have ek : ∀ i j : Nat, 2 ≤ i ∧ i < 11 → reA A i j = A (i + 11) j := fun i j h => reA_k A h
    refine ⟨⟨⟨?_, fun p hp => ?_, fun q hq => ?_⟩, ⟨?_, ?_, fun k hk => ?_⟩, ⟨?_, ?_, ?_⟩, fun hk => ⟨?_, fun p hp => ?_, fun q hq => ?_⟩⟩, fun p hp => ?_, fun hk p hp => ?_⟩
    · rw [e12 0 (by omega), e12 1 (by omega), e2]; omega
    · rw [e12 0 (by omega)] at hp
      have e := w9 p hp
      have f := k2 p hp
      unfold wPtK at f
      unfold wPt0
      rw [eo 0 p (by omega), eo 1 p (by omega), ek 2 p (by omega), ek 3 p (by omega), ek 4 p (by omega), ek 5 p (by omega), ek 6 p (by omega), ek 7 p (by omega), e2]
      exact ⟨e.1, e.2.1, f⟩
    · rw [e2] at hq
      have e := wLK_mono (k3 q hq) (show n ≤ n + 1 by omega)
      unfold wLtK at e
      unfold wLt0
      rw [ek 8 q (by omega), ek 9 q (by omega), ek 10 q (by omega)]
      exact e
    · rw [e12 3 (by omega)]; exact q1
    · rw [e12 3 (by omega)]; exact q2
    · rw [e12 3 (by omega)] at hk; rw [eo 11 k (by omega)]; exact q3 k hk
    · rw [e12 6 (by omega)]; exact z1
    · rw [e12 4 (by omega)]; omega
    · rw [e12 5 (by omega)]; exact z3
    · rw [e12 7 (by omega)]; exact k1
    · rw [e12 0 (by omega)] at hp
      have f := k2 p hp
      unfold wPtK at *
      rw [eo 13 p (by omega), eo 14 p (by omega), eo 15 p (by omega), eo 16 p (by omega), eo 17 p (by omega), eo 18 p (by omega), e12 7 (by omega)]
      exact f
    · rw [e12 7 (by omega)] at hq
      have e := wLK_mono (k3 q hq) (show n ≤ n + 1 by omega)
      unfold wLtK at *
      rw [eo 19 q (by omega), eo 20 q (by omega), eo 21 q (by omega)]
      exact e
    · rw [e12 0 (by omega)] at hp
      rw [ek 2 p (by omega), ek 3 p (by omega)]
      exact x2 hK p hp
    · rw [e12 0 (by omega)] at hp
      rw [eo 13 p (by omega), eo 14 p (by omega)]
      exact x2 hK p hp
  · exact WZ_same h hn
theorem WZ_gm {A : St} {n : Int} (h : WZ A n) (hn : n + 1 ≤ 512) (hw : wh A) : WZ (gmA A) (n + 1) := by
  obtain ⟨⟨⟨⟨w1, w2, w3, w4, w5, w6, w7, w8⟩, w9, w10⟩, ⟨q1, q2, q3⟩, ⟨z1, z2, z3⟩, k⟩, ⟨x1, x2⟩⟩ := id h
  obtain ⟨m, s1, s2, s3, s4, s5, s6⟩ := wh_shape q1 hw
  obtain ⟨e0, e2, e3, e6, e4, e5, e1⟩ := gm_12 A
  have em : (A 12 3 - 1) / 3 = (m : Int) := by omega
  rw [em] at e0 e1
  rw [Int.toNat_natCast] at e1
  refine ⟨⟨⟨?_, fun p hp => ?_, fun q hq => ?_⟩, ⟨?_, ?_, fun k hk => ?_⟩, ⟨Or.inl e6, ?_, ?_⟩, fun hk => ?_⟩, fun p hp => ?_, fun hk => ?_⟩
  · rw [e0, e1, e2]; omega
  · rw [e0] at hp
    obtain ⟨r0, r1, r2, r3, r4, r5, r6, r7⟩ := gm_rows A p
    have := s4 p (by omega)
    have kb := kix_bd (A 11 (3 * p))
    unfold wPt0
    rw [r0, r1, r2, r3, r4, r5, r6, r7]
    omega
  · rw [e2] at hq; omega
  · rw [e3]; omega
  · rw [e3]; omega
  · rw [e3] at hk; omega
  · rw [e4]; omega
  · rw [e5]; exact z3
  · rw [e6] at hk; omega
  · obtain ⟨r0, r1, r2, r3, -⟩ := gm_rows A p
    rw [r3]; intro z; exact absurd rfl z
  · rw [e6] at hk; omega
def Z0 : St := fun _ _ => 0
theorem WZ_0' {A : St} (z : ∀ i j, A i j = 0) : WZ A 0 := by
  have a0 := z 12 0
  have a1 := z 12 1
  have a2 := z 12 2
  have a3 := z 12 3
  have a4 := z 12 4
  have a5 := z 12 5
  have a6 := z 12 6
  exact ⟨⟨⟨by omega, fun p hp => by omega, fun q hq => by omega⟩, ⟨by omega, by omega, fun k hk => by omega⟩, ⟨Or.inl a6, by omega, by omega⟩, fun hk => by omega⟩, fun p hp => by omega, fun hk => by omega⟩
theorem WZ_0 : WZ Z0 0 := WZ_0' (fun _ _ => rfl)