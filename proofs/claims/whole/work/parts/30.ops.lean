/-! ===== the calls: what each answers (r..) and what becomes of the state (n..) ===== -/
def rAbout (A : St) (p w : Int) : Int := if 0 ≤ p ∧ p < A 12 0 then (if 0 ≤ w ∧ w ≤ 8 then pn A p.toNat w else -102) else -101
def rAs (A : St) (p k : Int) : Int := if 0 ≤ p ∧ p < A 12 0 then (if 0 ≤ k ∧ k ≤ 4 then (if k = 0 ∨ k = A 0 p.toNat ∨ (A 0 p.toNat = 4 ∧ k = 3) then p else -1) else -102) else -101
def rLot (A : St) (s : Int) : Int := if s < 0 ∨ 20 < s then -102 else if A 12 0 = 0 then -103 else if 3 ≤ A 12 2 then -104 else A 12 2
def nLot (A : St) (s : Int) : St := if s < 0 ∨ 20 < s then A else if A 12 0 = 0 then A else if 3 ≤ A 12 2 then A else up (up (up (up A 8 (A 12 2).toNat s) 9 (A 12 2).toNat 0) 10 (A 12 2).toNat 0) 12 2 (A 12 2 + 1)
def rLotOf (A : St) (t w : Int) : Int := if 0 ≤ t ∧ t < A 12 2 then (if 0 ≤ w ∧ w ≤ 2 then lt1 A t.toNat w else -102) else -101
def rBuy (A : St) (t b : Int) : Int := if 0 ≤ t ∧ t < A 12 2 then (if 1 ≤ b ∧ b ≤ 9 then (if 40 < A 9 t.toNat + b then -104 else A 9 t.toNat + b) else -102) else -101
def nBuy (A : St) (t b : Int) : St := if 0 ≤ t ∧ t < A 12 2 then (if 1 ≤ b ∧ b ≤ 9 then (if 40 < A 9 t.toNat + b then A else up A 9 t.toNat (A 9 t.toNat + b)) else A) else A
def rBack (A : St) (t b : Int) : Int := if 0 ≤ t ∧ t < A 12 2 then (if 1 ≤ b ∧ b ≤ 9 then (if A 9 t.toNat < b then -103 else A 9 t.toNat - b) else -102) else -101
def nBack (A : St) (t b : Int) : St := if 0 ≤ t ∧ t < A 12 2 then (if 1 ≤ b ∧ b ≤ 9 then (if A 9 t.toNat < b then A else up A 9 t.toNat (A 9 t.toNat - b)) else A) else A
/-- rows taken of a lot -/
def tkA (A : St) (t : Nat) (x : Int) : St := up (up A 9 t (A 9 t - bgn (A 10 t) x)) 10 t (A 10 t + (4 * bgn (A 10 t) x - x))
def mkA (A : St) (p a b : Nat) : St := tkA (tkA (up (up (up (up A 2 p (a : Int)) 3 p (if (a : Int) = (b : Int) then -1 else (b : Int))) 4 p (hf A p a b)) 5 p (A 1 p - hf A p a b)) a (hf A p a b)) b (A 1 p - hf A p a b)
def rKnit (A : St) (p a b : Int) : Int := if (0 ≤ p ∧ p < A 12 0) ∧ (0 ≤ a ∧ a < A 12 2) ∧ (0 ≤ b ∧ b < A 12 2) then (if A 2 p.toNat = -1 ∧ (hf A p.toNat a.toNat b.toNat ≤ rws A a.toNat ∧ A 1 p.toNat - hf A p.toNat a.toNat b.toNat ≤ rws A b.toNat) then sAll (mkA A p.toNat a.toNat b.toNat) else -103) else -101
def nKnit (A : St) (p a b : Int) : St := if (0 ≤ p ∧ p < A 12 0) ∧ (0 ≤ a ∧ a < A 12 2) ∧ (0 ≤ b ∧ b < A 12 2) then (if A 2 p.toNat = -1 ∧ (hf A p.toNat a.toNat b.toNat ≤ rws A a.toNat ∧ A 1 p.toNat - hf A p.toNat a.toNat b.toNat ≤ rws A b.toNat) then mkA A p.toNat a.toNat b.toNat else A) else A
/-- rows come back loose, but one -/
def lsA (A : St) (t : Nat) (x : Int) : St := if x = 0 then A else up A 10 t (A 10 t + (x - 1))
def clA (A : St) (p : Nat) : St := up (up (up (up (up A 2 p (-1)) 3 p (-1)) 4 p 0) 5 p 0) 6 p (-1)
def unA (A : St) (p : Nat) : St := clA (if A 3 p = -1 then lsA A (A 2 p).toNat (A 4 p) else lsA (lsA A (A 2 p).toNat (A 4 p)) (A 3 p).toNat (A 5 p)) p
def lost (A : St) (p : Nat) : Int := (if A 4 p = 0 then 0 else 1) + (if A 3 p = -1 then 0 else if A 5 p = 0 then 0 else 1)
def rUndo (A : St) (p : Int) : Int := if 0 ≤ p ∧ p < A 12 0 then (if A 2 p.toNat = -1 then -103 else lost A p.toNat) else -101
def nUndo (A : St) (p : Int) : St := if 0 ≤ p ∧ p < A 12 0 then (if A 2 p.toNat = -1 then A else unA A p.toNat) else A
def gaA (A : St) (p : Nat) (r : Int) : St := up (up (tkA A (A 2 p).toNat (r - A 4 p)) 4 p r) 6 p r
def rGauge (A : St) (p r : Int) : Int := if 0 ≤ p ∧ p < A 12 0 then (if 1 ≤ r ∧ r ≤ 18 then (if A 2 p.toNat ≠ -1 ∧ A 3 p.toNat = -1 ∧ r - A 4 p.toNat ≤ rws A (A 2 p.toNat).toNat then r - A 4 p.toNat else -103) else -102) else -101
def nGauge (A : St) (p r : Int) : St := if 0 ≤ p ∧ p < A 12 0 then (if 1 ≤ r ∧ r ≤ 18 then (if A 2 p.toNat ≠ -1 ∧ A 3 p.toNat = -1 ∧ r - A 4 p.toNat ≤ rws A (A 2 p.toNat).toNat then gaA A p.toNat r else A) else A) else A
def waA (A : St) : St := fun i j => if i = 8 ∧ (j : Int) < A 12 2 then fdd (A 8 j) (A 12 1) else A i j
def rWash (A : St) : Int := if A 12 0 = 0 then -103 else sAll (waA A)
def nWash (A : St) : St := if A 12 0 = 0 then A else waA A
def rWanted (A : St) (t b : Int) : Int := if 0 ≤ t ∧ t < A 12 2 then (if 0 ≤ b ∧ b ≤ 1 then want A t.toNat b else -102) else -101
def rFound (A : St) (p s : Int) : Int := if 0 ≤ p ∧ p + 1 < A 12 0 then (if -1 ≤ s ∧ s ≤ 320 then A 7 p.toNat else -102) else -101
def nFound (A : St) (p s : Int) : St := if 0 ≤ p ∧ p + 1 < A 12 0 then (if -1 ≤ s ∧ s ≤ 320 then up A 7 p.toNat s else A) else A
def imA (A : St) : St := fun i j => if i = 12 ∧ j = 6 then 1 else if i = 12 ∧ j = 7 then A 12 2 else if 13 ≤ i ∧ i < 22 then A (i - 11) j else A i j
def rImage (A : St) : Int := if A 12 0 = 0 then -103 else kC A
def nImage (A : St) : St := if A 12 0 = 0 then A else imA A
def reA (A : St) : St := fun i j => if i = 12 ∧ j = 2 then A 12 7 else if 2 ≤ i ∧ i < 11 then A (i + 11) j else A i j
def rRestore (A : St) : Int := if A 12 6 = 1 then kC (reA A) else -103
def nRestore (A : St) : St := if A 12 6 = 1 then reA A else A
def rCount (A : St) (q : Int) : Int := if q < 0 ∨ 10 < q then -102 else if q = 8 then A 12 3 else if q = 9 then A 12 4 else if q = 10 then A 12 5 else cA A q
def rLetter (A : St) (c : Int) : Int := if c < 32 ∨ 126 < c then -102 else if 18 ≤ A 12 3 then -104 else A 12 3 + 1
def nLetter (A : St) (c : Int) : St := if c < 32 ∨ 126 < c then A else if 18 ≤ A 12 3 then A else up (up A 11 (A 12 3).toNat c) 12 3 (A 12 3 + 1)
def nBlank (A : St) : St := up A 12 3 0
