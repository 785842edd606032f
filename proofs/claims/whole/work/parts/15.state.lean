/-! ===== what a state of the system is: numbers by a kind and a place ===== -/
abbrev St : Type := Nat → Nat → Int
/-- f summed up below n -/
def sm (f : Nat → Int) : Nat → Int
  | 0 => 0
  | n + 1 => sm f n + f n
theorem sm_congr {f h : Nat → Int} : ∀ {n : Nat}, (∀ p, p < n → f p = h p) → sm f n = sm h n
  | 0, _ => rfl
  | n + 1, hq => by rw [sm, sm, sm_congr (fun p hp => hq p (by omega)), hq n (by omega)]
theorem sm_bd {f : Nat → Int} {a b : Int} : ∀ {n : Nat}, (∀ p, p < n → a ≤ f p ∧ f p ≤ b) → n * a ≤ sm f n ∧ sm f n ≤ n * b
  | 0, _ => by simp [sm]
  | n + 1, hq => by
    have h1 := sm_bd (n := n) (fun p hp => hq p (by omega))
    have h2 := hq n (by omega)
    simp only [sm, Int.natCast_add, Int.natCast_one, Int.add_mul, Int.one_mul]
    omega
def lig (k : Int) : Int := if k = 1 then 4 else if k = 2 then 3 else if k = 3 then 1 else if k = 4 then 0 else 2
theorem lig_bd (k : Int) : 0 ≤ lig k ∧ lig k ≤ 4 := by unfold lig; split <;> (try split) <;> (try split) <;> (try split) <;> omega
theorem lig_lgt {k : Int} (h0 : 0 ≤ k) (h1 : k < 5) : lgt k.toNat = lig k := by
  rcases (show k = 0 ∨ k = 1 ∨ k = 2 ∨ k = 3 ∨ k = 4 by omega) with rfl | rfl | rfl | rfl | rfl <;> rfl
/-- what is seen between p and the next one, by their tones -/
def s2 (A : St) (p : Nat) (a b : Int) : Int := ((a - b).natAbs : Int) * min (lig (A 0 p)) (lig (A 0 (p + 1))) * (if A 0 p = 2 ∧ A 0 (p + 1) = 2 then 2 else 1)
def tn (A : St) (p : Nat) : Int := if A 2 p = -1 then -1 else A 8 (A 2 p).toNat + A 8 (if A 3 p = -1 then (A 2 p).toNat else (A 3 p).toNat)
def sN (A : St) (p : Nat) : Int := if (p : Int) + 1 < A 12 0 ∧ A 2 p ≠ -1 ∧ A 2 (p + 1) ≠ -1 then s2 A p (tn A p) (tn A (p + 1)) else 0
def sAll (A : St) : Int := sm (sN A) (A 12 0).toNat
def kC (A : St) : Int := sm (fun p => if A 2 p = -1 then 0 else 1) (A 12 0).toNat
def fC (A : St) : Int := sm (fun p => if A 7 p = -1 then 0 else 1) (A 12 0).toNat
def lt1 (A : St) (t : Nat) (w : Int) : Int := if w = 0 then A 8 t else if w = 1 then A 9 t else A 10 t
def lS (A : St) (w : Int) : Int := sm (fun t => lt1 A t w) (A 12 2).toNat
def rws (A : St) (t : Nat) : Int := 4 * A 9 t + A 10 t
def wNeed (A : St) (n : Nat) : Int := sm (fun p => if A 2 p = -1 then A 1 p else 0) n
def wTold (A : St) (n : Nat) : Int := sm (fun p => if A 6 p = -1 then 0 else A 6 p) n
def wOf (A : St) (n : Nat) : Int := sm (fun p => if A 6 p = -1 then 0 else A 1 p) n
def wRows (A : St) (b : Int) : Int := if b = 0 ∨ wOf A (A 12 0).toNat = 0 then wNeed A (A 12 0).toNat else (wNeed A (A 12 0).toNat * wTold A (A 12 0).toNat + wOf A (A 12 0).toNat - 1) / wOf A (A 12 0).toNat
def want (A : St) (t : Nat) (b : Int) : Int := if wRows A b - rws A t ≤ 0 then 0 else (wRows A b - rws A t + 3) / 4
def pn (A : St) (p : Nat) (w : Int) : Int := if w = 0 then A 0 p else if w = 1 then A 1 p else if w = 2 then lig (A 0 p) else if w = 3 then A 2 p else if w = 4 then A 3 p else if w = 5 then tn A p else if w = 6 then sN A p else if w = 7 then A 4 p + A 5 p else A 7 p
/-- what a part may be, and a lot; of the work (0) and of what is kept (K) -/
def wPt0 (A : St) (nl : Int) (p : Nat) : Prop := (A 2 p = -1 ∨ (0 ≤ A 2 p ∧ A 2 p < nl)) ∧ (A 3 p = -1 ∨ (0 ≤ A 3 p ∧ A 3 p < nl ∧ A 2 p ≠ -1)) ∧ (0 ≤ A 4 p ∧ A 4 p ≤ 18) ∧ (0 ≤ A 5 p ∧ A 5 p ≤ 9) ∧ (A 6 p = -1 ∨ (A 6 p = A 4 p ∧ A 2 p ≠ -1)) ∧ (-1 ≤ A 7 p ∧ A 7 p ≤ 320)
def wPtK (A : St) (nl : Int) (p : Nat) : Prop := (A 13 p = -1 ∨ (0 ≤ A 13 p ∧ A 13 p < nl)) ∧ (A 14 p = -1 ∨ (0 ≤ A 14 p ∧ A 14 p < nl ∧ A 13 p ≠ -1)) ∧ (0 ≤ A 15 p ∧ A 15 p ≤ 18) ∧ (0 ≤ A 16 p ∧ A 16 p ≤ 9) ∧ (A 17 p = -1 ∨ (A 17 p = A 15 p ∧ A 13 p ≠ -1)) ∧ (-1 ≤ A 18 p ∧ A 18 p ≤ 320)
def wLt0 (A : St) (n : Int) (t : Nat) : Prop := (0 ≤ A 8 t ∧ A 8 t ≤ 20) ∧ (0 ≤ A 9 t ∧ A 9 t ≤ 40) ∧ (0 ≤ A 10 t ∧ A 10 t ≤ 20 * n)
def wLtK (A : St) (n : Int) (t : Nat) : Prop := (0 ≤ A 19 t ∧ A 19 t ≤ 20) ∧ (0 ≤ A 20 t ∧ A 20 t ≤ 40) ∧ (0 ≤ A 21 t ∧ A 21 t ≤ 20 * n)
/-- the work is well made, after n calls -/
def WW (A : St) (n : Int) : Prop := (0 ≤ A 12 0 ∧ A 12 0 ≤ 5 ∧ 0 ≤ A 12 2 ∧ A 12 2 ≤ 3 ∧ 0 ≤ A 12 1 ∧ A 12 1 ≤ 3 ∧ 0 ≤ n ∧ n ≤ 512) ∧ (∀ p : Nat, (p : Int) < A 12 0 → (0 ≤ A 0 p ∧ A 0 p ≤ 4) ∧ (1 ≤ A 1 p ∧ A 1 p ≤ 9) ∧ wPt0 A (A 12 2) p) ∧ ∀ t : Nat, (t : Int) < A 12 2 → wLt0 A n t
def cPt0 (A : St) (p : Nat) (g : Mm) : Prop := g.1 (6 + p) 0 = A 0 p ∧ g.1 (6 + p) 1 = A 1 p ∧ g.1 (6 + p) 2 = A 2 p ∧ g.1 (6 + p) 3 = A 3 p ∧ g.1 (6 + p) 4 = A 4 p ∧ g.1 (6 + p) 5 = A 5 p ∧ g.1 (6 + p) 6 = (if A 6 p = -1 then 0 else 1) ∧ g.1 (6 + p) 7 = A 7 p
def cPtK (A : St) (p : Nat) (g : Mm) : Prop := g.1 (17 + p) 0 = A 0 p ∧ g.1 (17 + p) 1 = A 1 p ∧ g.1 (17 + p) 2 = A 13 p ∧ g.1 (17 + p) 3 = A 14 p ∧ g.1 (17 + p) 4 = A 15 p ∧ g.1 (17 + p) 5 = A 16 p ∧ g.1 (17 + p) 6 = (if A 17 p = -1 then 0 else 1) ∧ g.1 (17 + p) 7 = A 18 p
def cLt0 (A : St) (t : Nat) (g : Mm) : Prop := g.1 (11 + t) 0 = A 8 t ∧ g.1 (11 + t) 1 = A 9 t ∧ g.1 (11 + t) 2 = A 10 t
def cLtK (A : St) (t : Nat) (g : Mm) : Prop := g.1 (22 + t) 0 = A 19 t ∧ g.1 (22 + t) 1 = A 20 t ∧ g.1 (22 + t) 2 = A 21 t
def CW (A : St) (g : Mm) : Prop := (g.1 3 2 = A 12 0 ∧ g.1 3 3 = A 12 2 ∧ g.1 3 4 = A 12 1) ∧ (∀ p : Nat, (p : Int) < A 12 0 → cPt0 A p g) ∧ ∀ t : Nat, (t : Int) < A 12 2 → cLt0 A t g
/-- the model's work -/
def MW (A : St) (g : Mm) : Prop := (g.1 46 1 = A 12 0 ∧ g.1 46 11 = A 12 2 ∧ g.1 46 2 = A 12 1) ∧ (∀ p : Nat, (p : Int) < A 12 0 → g.1 47 p = A 0 p ∧ g.1 48 p = A 1 p ∧ g.1 49 p = A 2 p ∧ g.1 50 p = A 3 p ∧ g.1 51 p = A 4 p ∧ g.1 52 p = A 5 p ∧ g.1 53 p = A 6 p ∧ g.1 54 p = A 7 p) ∧ ∀ t : Nat, (t : Int) < A 12 2 → g.1 55 t = A 8 t ∧ g.1 56 t = A 9 t ∧ g.1 57 t = A 10 t
theorem s2_bd {A : St} {p : Nat} {a b c : Int} (h1 : ((a - b).natAbs : Int) ≤ c) : 0 ≤ s2 A p a b ∧ s2 A p a b ≤ 8 * c := by
  have l1 := lig_bd (A 0 p)
  have l2 := lig_bd (A 0 (p + 1))
  have hn : (0 : Int) ≤ ((a - b).natAbs : Int) := by omega
  have hm : 0 ≤ min (lig (A 0 p)) (lig (A 0 (p + 1))) ∧ min (lig (A 0 p)) (lig (A 0 (p + 1))) ≤ 4 := by omega
  unfold s2
  generalize min (lig (A 0 p)) (lig (A 0 (p + 1))) = m at hm
  generalize ((a - b).natAbs : Int) = x at h1 hn
  rcases (show m = 0 ∨ m = 1 ∨ m = 2 ∨ m = 3 ∨ m = 4 by omega) with rfl | rfl | rfl | rfl | rfl <;> split <;> omega
theorem tn_bd {A : St} {n : Int} (hW : WW A n) {p : Nat} (hp : (p : Int) < A 12 0) : (A 2 p = -1 → tn A p = -1) ∧ (A 2 p ≠ -1 → 0 ≤ tn A p ∧ tn A p ≤ 40) := by
  obtain ⟨w1, w2, w3⟩ := hW
  obtain ⟨-, -, h1, h2, -⟩ := w2 p hp
  unfold tn
  refine ⟨fun h => by rw [if_pos h], fun h => ?_⟩
  rw [if_neg h]
  have e1 := w3 (A 2 p).toNat (by omega)
  have h5 : 0 ≤ A 8 (A 2 p).toNat ∧ A 8 (A 2 p).toNat ≤ 20 := e1.1
  split
  · omega
  · rename_i h3
    have e2 := w3 (A 3 p).toNat (by omega)
    have h6 : 0 ≤ A 8 (A 3 p).toNat ∧ A 8 (A 3 p).toNat ≤ 20 := e2.1
    omega
theorem sN_bd {A : St} {n : Int} (hW : WW A n) (p : Nat) : 0 ≤ sN A p ∧ sN A p ≤ 320 := by
  unfold sN
  split
  · rename_i h
    have h1 := (tn_bd hW (p := p) (by omega)).2 h.2.1
    have h2 := (tn_bd hW (p := p + 1) (by omega)).2 h.2.2
    have := s2_bd (A := A) (p := p) (a := tn A p) (b := tn A (p + 1)) (c := 40) (by omega)
    omega
  · omega
