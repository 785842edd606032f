/-! ===== what is sure, in how many ways it fits ===== -/
def SurP (L : Int → Prop) (v : Int) : Prop := (v = -1 ∧ ((∀ x, ¬ L x) ∨ ∃ x y, L x ∧ L y ∧ x ≠ y)) ∨ (0 ≤ v ∧ L v ∧ ∀ y, L y → y = v)
theorem SurP.u {L : Int → Prop} {v w : Int} (h1 : SurP L v) (h2 : SurP L w) : v = w := by
  rcases h1 with ⟨rfl, h1⟩ | ⟨a, b, c⟩ <;> rcases h2 with ⟨rfl, h2⟩ | ⟨a', b', c'⟩
  · rfl
  · rcases h1 with h1 | ⟨x, y, p, q, r⟩
    · exact absurd b' (h1 w)
    · exact absurd ((c' x p).trans (c' y q).symm) r
  · rcases h2 with h2 | ⟨x, y, p, q, r⟩
    · exact absurd b (h2 v)
    · exact absurd ((c x p).trans (c y q).symm) r
  · exact c' v b
/-- tone x of part p is in some way that fits -/
def LC (A : St) (p : Nat) (x : Int) : Prop := ∃ i : Nat, (i : Int) < nmT (A 12 2) ∧ tC A i = x ∧ 0 < ahd A (tC A) (nM_ A) p x ∧ 0 < bhd A (tC A) (nM_ A) ((A 12 0).toNat - 1 - p) p x
noncomputable def srV (A : St) (p : Nat) : Int := Classical.epsilon (SurP (LC A p))
theorem srV_eq {A : St} {p : Nat} {v : Int} (h : SurP (LC A p) v) : srV A p = v := SurP.u (Classical.epsilon_spec (p := SurP (LC A p)) ⟨v, h⟩) h
def wyC (A : St) : Int := sm (fun i => bhd A (tC A) (nM_ A) ((A 12 0).toNat - 1) 0 (tC A i)) (nM_ A)
def rFits (A : St) : Int := if A 12 0 = 0 then -103 else wyC A
noncomputable def rSure (A : St) (p : Int) : Int := if 0 ≤ p ∧ p < A 12 0 then srV A p.toNat else -101
set_option maxRecDepth 100000 in
set_option maxHeartbeats 4000000 in
theorem lp_ways (E : En) {A : St} {g h : Mm} {n : Int} (hW : WW A n) (hS : uS A g h) (hp : 1 ≤ A 12 0) {X : Cx} (hX : Wk E mX1_ways X 1 (fun r g' => r = some (vI (wyC A)) ∧ g' = h)) : ∀ (m : Nat) (i : Nat) (s : Int), m + i = nM_ A ∧ s = sm (fun i => bhd A (tC A) (nM_ A) ((A 12 0).toNat - 1) 0 (tC A i)) i → V E X 4 [some (vR 30), some (vI s), some (vI (i : Int))] [] h := by
  obtain ⟨⟨hw1, hw2, hw3, hw4, hw5, hw6, hw7, hw8⟩, hwp, hwl⟩ := id hW
  have nb := nm_bd hW
  obtain ⟨hu, ha, hb⟩ := hS
  intro m
  induction m with
  | zero =>
    intro i s ⟨hm, hs⟩
    obtain rfl : i = nM_ A := by omega
    subst hs
    refine k_aload_n hX.1 dX1_ways_4 rfl rfl ?_
    refine k_geti hX.1 dX1_ways_5 flX1_29 rfl (by decide) rfl ?_
    refine k_top (b := A 12 0) hu.2.1 ?_
    refine k_if_le (tgt := 36) hX.1 dX1_ways_8 (by decide) (by omega) (fun c_8 => ?_) (fun c_8 => ?_)
    · skip
      exact absurd c_8 (by omega)
    · skip
      refine k_iload_n hX.1 dX1_ways_11 rfl rfl ?_
      refine k_aload_n hX.1 dX1_ways_12 rfl rfl ?_
      refine k_geti hX.1 dX1_ways_13 flX1_41 rfl (by decide) rfl ?_
      refine k_top (b := nmT (A 12 2)) hu.1 ?_
      refine k_icmp_ge (tgt := 36) hX.1 dX1_ways_16 (by decide) (by omega) (by omega) (fun c_16 => ?_) (fun c_16 => ?_)
      · skip
        refine k_iload_n hX.1 dX1_ways_36 rfl rfl ?_
        refine k_iret hX dX1_ways_37 rfl ?_
        exact ⟨rfl, rfl⟩
      · skip
        exact absurd c_16 (by omega)
  | succ m ih =>
    intro i s ⟨hm, hs⟩
    refine k_aload_n hX.1 dX1_ways_4 rfl rfl ?_
    refine k_geti hX.1 dX1_ways_5 flX1_29 rfl (by decide) rfl ?_
    refine k_top (b := A 12 0) hu.2.1 ?_
    refine k_if_le (tgt := 36) hX.1 dX1_ways_8 (by decide) (by omega) (fun c_8 => ?_) (fun c_8 => ?_)
    · skip
      exact absurd c_8 (by omega)
    · skip
      refine k_iload_n hX.1 dX1_ways_11 rfl rfl ?_
      refine k_aload_n hX.1 dX1_ways_12 rfl rfl ?_
      refine k_geti hX.1 dX1_ways_13 flX1_41 rfl (by decide) rfl ?_
      refine k_top (b := nmT (A 12 2)) hu.1 ?_
      refine k_icmp_ge (tgt := 36) hX.1 dX1_ways_16 (by decide) (by omega) (by omega) (fun c_16 => ?_) (fun c_16 => ?_)
      · skip
        exact absurd c_16 (by omega)
      · skip
        refine k_iload_n hX.1 dX1_ways_19 rfl rfl ?_
        refine k_aload_n hX.1 dX1_ways_20 rfl rfl ?_
        refine k_getr (t := 38) hX.1 dX1_ways_21 flX1_20 rfl (by decide) rfl rfl ?_
        refine k_iconst hX.1 dX1_ways_24 ?_
        refine k_aaldI (j := 0) (q := 39) hX.1 dX1_ways_25 rfl (by omega) (n := 5) rfl (by omega) (by omega) rfl ?_
        refine k_iload_n hX.1 dX1_ways_26 rfl rfl ?_
        refine k_iald (j := i) hX.1 dX1_ways_27 rfl (by omega) (n := 6) rfl (by omega) (by omega) ?_
        refine k_top (b := bhd A (tC A) (nM_ A) ((A 12 0).toNat - 1) 0 (tC A i)) (hb 0 i (by omega) (by omega)) ?_
        refine k_iadd hX.1 dX1_ways_28 ?_
        refine k_istore_n hX.1 dX1_ways_29 rfl (by decide) rfl rfl ?_
        try simp only [List.set_cons_zero, List.set_cons_succ]
        refine k_iinc hX.1 dX1_ways_30 rfl (by decide) rfl rfl ?_
        try simp only [List.set_cons_zero, List.set_cons_succ]
        refine k_goto (tgt := 4) hX.1 dX1_ways_33 (by decide) ?_
        exact ih (i + 1) _ ⟨by omega, by rw [sm, hs]⟩

set_option maxRecDepth 100000 in
set_option maxHeartbeats 4000000 in
theorem cU_ways (E : En) {A : St} {g h : Mm} {n : Int} (hW : WW A n) (hS : uS A g h) (hp : 1 ≤ A 12 0) : Fn E 1 mX1_ways [vR 30] h (vI (wyC A)) := by
  refine Ok_of gmX1_ways (by omega) (Nat.le_of_ble_eq_true rfl) (fun X hX => ?_)
  show V E X 0 [some (vR 30), none, none] [] h
  refine k_iconst hX.1 dX1_ways_0 ?_
  refine k_istore_n hX.1 dX1_ways_1 rfl (by decide) rfl rfl ?_
  try simp only [List.set_cons_zero, List.set_cons_succ]
  refine k_iconst hX.1 dX1_ways_2 ?_
  refine k_istore_n hX.1 dX1_ways_3 rfl (by decide) rfl rfl ?_
  try simp only [List.set_cons_zero, List.set_cons_succ]
  exact lp_ways E hW hS hp hX (nM_ A) 0 0 ⟨by omega, rfl⟩

theorem pow6 : ∀ p : Nat, p ≤ 5 → (6 : Int) ^ p ≤ 7776 := by decide
def aliv (A : St) (p i : Nat) : Prop := 0 < ahd A (tC A) (nM_ A) p (tC A i) ∧ 0 < bhd A (tC A) (nM_ A) ((A 12 0).toNat - 1 - p) p (tC A i)
set_option maxRecDepth 100000 in
set_option maxHeartbeats 4000000 in
theorem lp_tof (E : En) {A : St} {g h : Mm} {n : Int} (hW : WW A n) (hS : uS A g h) {p : Nat} (hp : (p : Int) < A 12 0) {X : Cx} (hX : Wk E mX1_toneOf X 1 (fun r g' => r = some (vI (srV A p)) ∧ g' = h)) : ∀ (m : Nat) (i : Nat) (t : Int), (m + i = nM_ A ∧ ((t = -1 ∧ ∀ j, j < i → ¬ aliv A p j) ∨ (0 ≤ t ∧ t ≤ 40 ∧ (∃ j, j < i ∧ aliv A p j ∧ tC A j = t) ∧ ∀ j, j < i → aliv A p j → tC A j = t))) → V E X 4 [some (vR 30), some (vI (p : Int)), some (vI t), some (vI (i : Int))] [] h := by
  obtain ⟨⟨hw1, hw2, hw3, hw4, hw5, hw6, hw7, hw8⟩, hwp, hwl⟩ := id hW
  have nb := nm_bd hW
  obtain ⟨hu, ha, hb⟩ := hS
  intro m
  induction m with
  | zero =>
    intro i t ⟨hm, ht⟩
    obtain rfl : i = nM_ A := by omega
    refine k_iload_n hX.1 dX1_toneOf_4 rfl rfl ?_
    refine k_aload_n hX.1 dX1_toneOf_5 rfl rfl ?_
    refine k_geti hX.1 dX1_toneOf_6 flX1_41 rfl (by decide) rfl ?_
    refine k_top (b := nmT (A 12 2)) hu.1 ?_
    refine k_icmp_ge (tgt := 64) hX.1 dX1_toneOf_9 (by decide) (by omega) (by omega) (fun c_9 => ?_) (fun c_9 => ?_)
    · skip
      refine k_iload_n hX.1 dX1_toneOf_64 rfl rfl ?_
      refine k_iret hX dX1_toneOf_65 rfl ?_
      refine ⟨?_, rfl⟩
      have hq : SurP (LC A p) t := by
        rcases ht with ⟨h1, h2⟩ | ⟨h0, h40, ⟨j, h1, h2, h3⟩, h4⟩
        · exact Or.inl ⟨h1, Or.inl fun x ⟨j, hj, e, q⟩ => h2 j (by omega) (by subst e; exact q)⟩
        · exact Or.inr ⟨h0, ⟨j, by omega, h3, by rw [← h3]; exact h2⟩, fun y ⟨k, hk, e, q⟩ => by subst e; exact h4 k (by omega) q⟩
      rw [srV_eq hq]
    · skip
      exact absurd c_9 (by omega)
  | succ m ih =>
    intro i t ⟨hm, ht⟩
    have tb := tC_bd hW (i := i) (by omega)
    have ab := ahd_bd A (tC A) nb.2.2.1 p (tC A i)
    have bb := bhd_bd A (tC A) nb.2.2.1 ((A 12 0).toNat - 1 - p) p (tC A i)
    have p1 := pow6 p (by omega)
    have p2 := pow6 ((A 12 0).toNat - 1 - p) (by omega)
    refine k_iload_n hX.1 dX1_toneOf_4 rfl rfl ?_
    refine k_aload_n hX.1 dX1_toneOf_5 rfl rfl ?_
    refine k_geti hX.1 dX1_toneOf_6 flX1_41 rfl (by decide) rfl ?_
    refine k_top (b := nmT (A 12 2)) hu.1 ?_
    refine k_icmp_ge (tgt := 64) hX.1 dX1_toneOf_9 (by decide) (by omega) (by omega) (fun c_9 => ?_) (fun c_9 => ?_)
    · skip
      exact absurd c_9 (by omega)
    · skip
      refine k_aload_n hX.1 dX1_toneOf_12 rfl rfl ?_
      refine k_getr (t := 32) hX.1 dX1_toneOf_13 flX1_17 rfl (by decide) rfl rfl ?_
      refine k_iload_n hX.1 dX1_toneOf_16 rfl rfl ?_
      refine k_aaldI (j := p) (q := 33 + p) hX.1 dX1_toneOf_17 rfl (by omega) (n := 5) rfl (by omega) (by omega) rfl ?_
      refine k_iload_n hX.1 dX1_toneOf_18 rfl rfl ?_
      refine k_iald (j := i) hX.1 dX1_toneOf_19 (sk_A33 (by omega)) (by omega) (n := 6) (ln_A33 (by omega)) (by omega) (by omega) ?_
      refine k_top (b := ahd A (tC A) (nM_ A) p (tC A i)) (ha p i hp (by omega)) ?_
      refine k_if_le (tgt := 58) hX.1 dX1_toneOf_20 (by decide) (by omega) (fun c_20 => ?_) (fun c_20 => ?_)
      · skip
        have hna : ¬ aliv A p i := fun q => by have := q.1; omega
        refine k_iinc hX.1 dX1_toneOf_58 rfl (by decide) rfl rfl ?_
        try simp only [List.set_cons_zero, List.set_cons_succ]
        refine k_goto (tgt := 4) hX.1 dX1_toneOf_61 (by decide) ?_
        first
          | (have hq := hna
             exact ih (i + 1) _ ⟨by omega, by
               rcases ht with ⟨h1, h2⟩ | ⟨h0, h40, ⟨j, h1, h2, h3⟩, h4⟩
               · refine Or.inl ⟨h1, fun j hj => ?_⟩
                 by_cases e : j = i
                 · subst e; exact hna
                 · exact h2 j (by omega)
               · refine Or.inr ⟨h0, h40, ⟨j, by omega, h2, h3⟩, fun j hj hl => ?_⟩
                 by_cases e : j = i
                 · subst e; exact absurd hl hna
                 · exact h4 j (by omega) hl⟩)
          | (have hq := hal
             exact ih (i + 1) _ ⟨by omega, Or.inr ⟨by omega, by omega, ⟨i, by omega, hal, rfl⟩, fun j hj hl => by
               by_cases e : j = i
               · subst e; rfl
               · rcases ht with ⟨h1, h2⟩ | ⟨h0, h40, h3, h4⟩
                 · exact absurd hl (h2 j (by omega))
                 · rw [h4 j (by omega) hl]; omega⟩⟩)
      · skip
        refine k_aload_n hX.1 dX1_toneOf_23 rfl rfl ?_
        refine k_getr (t := 38) hX.1 dX1_toneOf_24 flX1_20 rfl (by decide) rfl rfl ?_
        refine k_iload_n hX.1 dX1_toneOf_27 rfl rfl ?_
        refine k_aaldI (j := p) (q := 39 + p) hX.1 dX1_toneOf_28 rfl (by omega) (n := 5) rfl (by omega) (by omega) rfl ?_
        refine k_iload_n hX.1 dX1_toneOf_29 rfl rfl ?_
        refine k_iald (j := i) hX.1 dX1_toneOf_30 (sk_A39 (by omega)) (by omega) (n := 6) (ln_A39 (by omega)) (by omega) (by omega) ?_
        refine k_top (b := bhd A (tC A) (nM_ A) ((A 12 0).toNat - 1 - p) p (tC A i)) (hb p i hp (by omega)) ?_
        refine k_if_le (tgt := 58) hX.1 dX1_toneOf_31 (by decide) (by omega) (fun c_31 => ?_) (fun c_31 => ?_)
        · skip
          have hna : ¬ aliv A p i := fun q => by have := q.2; omega
          refine k_iinc hX.1 dX1_toneOf_58 rfl (by decide) rfl rfl ?_
          try simp only [List.set_cons_zero, List.set_cons_succ]
          refine k_goto (tgt := 4) hX.1 dX1_toneOf_61 (by decide) ?_
          first
            | (have hq := hna
               exact ih (i + 1) _ ⟨by omega, by
                 rcases ht with ⟨h1, h2⟩ | ⟨h0, h40, ⟨j, h1, h2, h3⟩, h4⟩
                 · refine Or.inl ⟨h1, fun j hj => ?_⟩
                   by_cases e : j = i
                   · subst e; exact hna
                   · exact h2 j (by omega)
                 · refine Or.inr ⟨h0, h40, ⟨j, by omega, h2, h3⟩, fun j hj hl => ?_⟩
                   by_cases e : j = i
                   · subst e; exact absurd hl hna
                   · exact h4 j (by omega) hl⟩)
            | (have hq := hal
               exact ih (i + 1) _ ⟨by omega, Or.inr ⟨by omega, by omega, ⟨i, by omega, hal, rfl⟩, fun j hj hl => by
                 by_cases e : j = i
                 · subst e; rfl
                 · rcases ht with ⟨h1, h2⟩ | ⟨h0, h40, h3, h4⟩
                   · exact absurd hl (h2 j (by omega))
                   · rw [h4 j (by omega) hl]; omega⟩⟩)
        · skip
          have hal : aliv A p i := ⟨by omega, by omega⟩
          refine k_iload_n hX.1 dX1_toneOf_34 rfl rfl ?_
          refine k_iconst hX.1 dX1_toneOf_35 ?_
          refine k_icmp_eq (tgt := 51) hX.1 dX1_toneOf_36 (by decide) (by omega) (by omega) (fun c_36 => ?_) (fun c_36 => ?_)
          · skip
            refine k_aload_n hX.1 dX1_toneOf_51 rfl rfl ?_
            refine k_getr (t := 31) hX.1 dX1_toneOf_52 flX1_9 rfl (by decide) rfl rfl ?_
            refine k_iload_n hX.1 dX1_toneOf_55 rfl rfl ?_
            refine k_iald (j := i) hX.1 dX1_toneOf_56 rfl (by omega) (n := 6) rfl (by omega) (by omega) ?_
            refine k_top (b := tC A i) (hu.2.2.1 i (by omega)) ?_
            refine k_istore_n hX.1 dX1_toneOf_57 rfl (by decide) rfl rfl ?_
            try simp only [List.set_cons_zero, List.set_cons_succ]
            refine k_iinc hX.1 dX1_toneOf_58 rfl (by decide) rfl rfl ?_
            try simp only [List.set_cons_zero, List.set_cons_succ]
            refine k_goto (tgt := 4) hX.1 dX1_toneOf_61 (by decide) ?_
            first
              | (have hq := hna
                 exact ih (i + 1) _ ⟨by omega, by
                   rcases ht with ⟨h1, h2⟩ | ⟨h0, h40, ⟨j, h1, h2, h3⟩, h4⟩
                   · refine Or.inl ⟨h1, fun j hj => ?_⟩
                     by_cases e : j = i
                     · subst e; exact hna
                     · exact h2 j (by omega)
                   · refine Or.inr ⟨h0, h40, ⟨j, by omega, h2, h3⟩, fun j hj hl => ?_⟩
                     by_cases e : j = i
                     · subst e; exact absurd hl hna
                     · exact h4 j (by omega) hl⟩)
              | (have hq := hal
                 exact ih (i + 1) _ ⟨by omega, Or.inr ⟨by omega, by omega, ⟨i, by omega, hal, rfl⟩, fun j hj hl => by
                   by_cases e : j = i
                   · subst e; rfl
                   · rcases ht with ⟨h1, h2⟩ | ⟨h0, h40, h3, h4⟩
                     · exact absurd hl (h2 j (by omega))
                     · rw [h4 j (by omega) hl]; omega⟩⟩)
          · skip
            refine k_iload_n hX.1 dX1_toneOf_39 rfl rfl ?_
            refine k_aload_n hX.1 dX1_toneOf_40 rfl rfl ?_
            refine k_getr (t := 31) hX.1 dX1_toneOf_41 flX1_9 rfl (by decide) rfl rfl ?_
            refine k_iload_n hX.1 dX1_toneOf_44 rfl rfl ?_
            refine k_iald (j := i) hX.1 dX1_toneOf_45 rfl (by omega) (n := 6) rfl (by omega) (by omega) ?_
            refine k_top (b := tC A i) (hu.2.2.1 i (by omega)) ?_
            refine k_icmp_eq (tgt := 51) hX.1 dX1_toneOf_46 (by decide) (by omega) (by omega) (fun c_46 => ?_) (fun c_46 => ?_)
            · skip
              refine k_aload_n hX.1 dX1_toneOf_51 rfl rfl ?_
              refine k_getr (t := 31) hX.1 dX1_toneOf_52 flX1_9 rfl (by decide) rfl rfl ?_
              refine k_iload_n hX.1 dX1_toneOf_55 rfl rfl ?_
              refine k_iald (j := i) hX.1 dX1_toneOf_56 rfl (by omega) (n := 6) rfl (by omega) (by omega) ?_
              refine k_top (b := tC A i) (hu.2.2.1 i (by omega)) ?_
              refine k_istore_n hX.1 dX1_toneOf_57 rfl (by decide) rfl rfl ?_
              try simp only [List.set_cons_zero, List.set_cons_succ]
              refine k_iinc hX.1 dX1_toneOf_58 rfl (by decide) rfl rfl ?_
              try simp only [List.set_cons_zero, List.set_cons_succ]
              refine k_goto (tgt := 4) hX.1 dX1_toneOf_61 (by decide) ?_
              first
                | (have hq := hna
                   exact ih (i + 1) _ ⟨by omega, by
                     rcases ht with ⟨h1, h2⟩ | ⟨h0, h40, ⟨j, h1, h2, h3⟩, h4⟩
                     · refine Or.inl ⟨h1, fun j hj => ?_⟩
                       by_cases e : j = i
                       · subst e; exact hna
                       · exact h2 j (by omega)
                     · refine Or.inr ⟨h0, h40, ⟨j, by omega, h2, h3⟩, fun j hj hl => ?_⟩
                       by_cases e : j = i
                       · subst e; exact absurd hl hna
                       · exact h4 j (by omega) hl⟩)
                | (have hq := hal
                   exact ih (i + 1) _ ⟨by omega, Or.inr ⟨by omega, by omega, ⟨i, by omega, hal, rfl⟩, fun j hj hl => by
                     by_cases e : j = i
                     · subst e; rfl
                     · rcases ht with ⟨h1, h2⟩ | ⟨h0, h40, h3, h4⟩
                       · exact absurd hl (h2 j (by omega))
                       · rw [h4 j (by omega) hl]; omega⟩⟩)
            · skip
              refine k_iconst hX.1 dX1_toneOf_49 ?_
              refine k_iret hX dX1_toneOf_50 rfl ?_
              refine ⟨?_, rfl⟩
              have hq : SurP (LC A p) (-1) := by
                refine Or.inl ⟨rfl, Or.inr ?_⟩
                rcases ht with ⟨h1, h2⟩ | ⟨h0, h40, ⟨j, h1, h2, h3⟩, h4⟩
                · omega
                · exact ⟨tC A j, tC A i, ⟨j, by omega, rfl, h2⟩, ⟨i, by omega, rfl, hal⟩, by omega⟩
              rw [srV_eq hq]

set_option maxRecDepth 100000 in
set_option maxHeartbeats 4000000 in
theorem cU_tof (E : En) {A : St} {g h : Mm} {n : Int} (hW : WW A n) (hS : uS A g h) {p : Nat} (hp : (p : Int) < A 12 0) : Fn E 1 mX1_toneOf [vR 30, vI (p : Int)] h (vI (srV A p)) := by
  refine Ok_of gmX1_toneOf (by omega) (Nat.le_of_ble_eq_true rfl) (fun X hX => ?_)
  show V E X 0 [some (vR 30), some (vI (p : Int)), none, none] [] h
  refine k_iconst hX.1 dX1_toneOf_0 ?_
  refine k_istore_n hX.1 dX1_toneOf_1 rfl (by decide) rfl rfl ?_
  try simp only [List.set_cons_zero, List.set_cons_succ]
  refine k_iconst hX.1 dX1_toneOf_2 ?_
  refine k_istore_n hX.1 dX1_toneOf_3 rfl (by decide) rfl rfl ?_
  try simp only [List.set_cons_zero, List.set_cons_succ]
  exact lp_tof E hW hS hp hX (nM_ A) 0 (-1) ⟨by omega, Or.inl ⟨rfl, fun j hj => absurd hj (Nat.not_lt_zero j)⟩⟩

theorem RC_u {A : St} {g h : Mm} {n : Int} (hR : RC A g) (hW : Wf A n) (hS : uS A g h) : RC A h := RC_help hR (fun a ha => hS.1.2.2.2.1 a (by omega)) hW.b.1.2 hW.b.2.1.2 (fun k => (hW.b.2.2 k).2)
theorem sameM_u {A : St} {g h : Mm} (hS : uS A g h) : sameM g h := fun a ha => ⟨hS.1.2.2.2.1 a (by omega), by rw [hS.1.2.2.2.2]⟩
set_option maxRecDepth 100000 in
set_option maxHeartbeats 4000000 in
theorem c7_fits (E : En) {A : St} {g : Mm} {n : Int} (hR : RC A g) (hW : Wf A n) : Ok E 6 mX7_fits [vR 0] g (fun r g' => r = some (vI (rFits A)) ∧ RC (A) g' ∧ sameM g g') := by
  have hC0 := hR.1
  have hW0 := hW.1
  obtain ⟨⟨⟨hc1, hc2, hc3⟩, hcp, hcl⟩, ⟨hg1, hg2⟩, ⟨ht1, ht2, ht3⟩, hck, hcb⟩ := id hR
  obtain ⟨⟨⟨hw1, hw2, hw3, hw4, hw5, hw6, hw7, hw8⟩, hwp, hwl⟩, ⟨hq1, hq2, hq3⟩, ⟨hz1, ⟨hz2, hz3⟩, ⟨hz4, hz5⟩⟩, hwk⟩ := id hW
  refine Ok_of gmX7_fits (by omega) (Nat.le_of_ble_eq_true rfl) (fun X hX => ?_)
  show V E X 0 [some (vR 0)] [] g
  by_cases hz : A 12 0 = 0
  · skip
    refine k_aload_n hX.1 dX7_fits_0 rfl rfl ?_
    refine k_getr (t := 3) hX.1 dX7_fits_1 flX7_19 rfl (by decide) rfl rfl ?_
    refine k_geti hX.1 dX7_fits_4 flX7_74 rfl (by decide) rfl ?_
    refine k_if_ne (tgt := 13) hX.1 dX7_fits_7 (by decide) (by omega) (fun c_7 => ?_) (fun c_7 => ?_)
    · skip
      exact absurd c_7 (by omega)
    · skip
      refine k_bipush hX.1 dX7_fits_10 (by decide) ?_
      refine k_iret hX dX7_fits_12 rfl ?_
      refine ⟨?_, hR, sameM.rf g⟩
      rw [rFits, if_pos hz]
  · skip
    refine k_aload_n hX.1 dX7_fits_0 rfl rfl ?_
    refine k_getr (t := 3) hX.1 dX7_fits_1 flX7_19 rfl (by decide) rfl rfl ?_
    refine k_geti hX.1 dX7_fits_4 flX7_74 rfl (by decide) rfl ?_
    refine k_if_ne (tgt := 13) hX.1 dX7_fits_7 (by decide) (by omega) (fun c_7 => ?_) (fun c_7 => ?_)
    · skip
      refine k_aload_n hX.1 dX7_fits_13 rfl rfl ?_
      refine k_getr (t := 30) hX.1 dX7_fits_14 flX7_36 rfl (by decide) rfl rfl ?_
      refine k_aload_n hX.1 dX7_fits_17 rfl rfl ?_
      refine k_getr (t := 3) hX.1 dX7_fits_18 flX7_19 rfl (by decide) rfl rfl ?_
      refine k_callV (d2 := 5) (n := 1) (as := [_]) hX.1 dX7_fits_21 lkX7_186 (fit_of hX (by omega) gmX1_study) rfl rfl (by decide) rfl rfl rfl (Nat.le_of_ble_eq_true rfl) (cU_study E hC0 hW0) (fun r_21 g_21 q_21 => ?_)
      obtain ⟨rfl, hS⟩ := q_21
      show V E X 24 _ [] _
      refine k_aload_n hX.1 dX7_fits_24 rfl rfl ?_
      refine k_getr (t := 30) hX.1 dX7_fits_25 flX7_36 rfl (by decide) rfl rfl ?_
      refine k_callVf (d2 := 1) (n := 0) (as := []) hX.1 dX7_fits_28 lkX7_189 (fit_of hX (by omega) gmX1_ways) rfl rfl (by decide) rfl rfl rfl (Nat.le_of_ble_eq_true rfl) (cU_ways E hW0 hS (by omega)) ?_
      refine k_iret hX dX7_fits_31 rfl ?_
      refine ⟨?_, RC_u hR hW hS, sameM_u hS⟩
      rw [rFits, if_neg hz]
    · skip
      exact absurd c_7 (by omega)

set_option maxRecDepth 100000 in
set_option maxHeartbeats 4000000 in
theorem c7_sure (E : En) {A : St} {g : Mm} {n : Int} (hR : RC A g) (hW : Wf A n) {q : Int} (hq : bd q) : Ok E 6 mX7_sure [vR 0, vI q] g (fun r g' => r = some (vI (rSure A q)) ∧ RC (A) g' ∧ sameM g g') := by
  have hC0 := hR.1
  have hW0 := hW.1
  obtain ⟨⟨⟨hc1, hc2, hc3⟩, hcp, hcl⟩, ⟨hg1, hg2⟩, ⟨ht1, ht2, ht3⟩, hck, hcb⟩ := id hR
  obtain ⟨⟨⟨hw1, hw2, hw3, hw4, hw5, hw6, hw7, hw8⟩, hwp, hwl⟩, ⟨hq1, hq2, hq3⟩, ⟨hz1, ⟨hz2, hz3⟩, ⟨hz4, hz5⟩⟩, hwk⟩ := id hW
  refine Ok_of gmX7_sure (by omega) (Nat.le_of_ble_eq_true rfl) (fun X hX => ?_)
  show V E X 0 [some (vR 0), some (vI q)] [] g
  by_cases hin : 0 ≤ q ∧ q < A 12 0
  · skip
    obtain ⟨p, rfl⟩ : ∃ m : Nat, q = (m : Int) := ⟨q.toNat, by omega⟩
    refine k_aload_n hX.1 dX7_sure_0 rfl rfl ?_
    refine k_getr (t := 3) hX.1 dX7_sure_1 flX7_19 rfl (by decide) rfl rfl ?_
    refine k_iload_n hX.1 dX7_sure_4 rfl rfl ?_
    refine k_callVf (d2 := 1) (n := 1) (as := [_]) hX.1 dX7_sure_5 lkX7_77 (fit_of hX (by omega) gmX6_hasPart) rfl rfl (by decide) rfl rfl rfl (Nat.le_of_ble_eq_true rfl) (cW_hasPart1 E g (by omega) (by omega) (by omega)) ?_
    refine k_if_ne (tgt := 14) hX.1 dX7_sure_8 (by decide) (by omega) (fun c_8 => ?_) (fun c_8 => ?_)
    · skip
      refine k_aload_n hX.1 dX7_sure_14 rfl rfl ?_
      refine k_getr (t := 30) hX.1 dX7_sure_15 flX7_36 rfl (by decide) rfl rfl ?_
      refine k_aload_n hX.1 dX7_sure_18 rfl rfl ?_
      refine k_getr (t := 3) hX.1 dX7_sure_19 flX7_19 rfl (by decide) rfl rfl ?_
      refine k_callV (d2 := 5) (n := 1) (as := [_]) hX.1 dX7_sure_22 lkX7_186 (fit_of hX (by omega) gmX1_study) rfl rfl (by decide) rfl rfl rfl (Nat.le_of_ble_eq_true rfl) (cU_study E hC0 hW0) (fun r_22 g_22 q_22 => ?_)
      obtain ⟨rfl, hS⟩ := q_22
      show V E X 25 _ [] _
      refine k_aload_n hX.1 dX7_sure_25 rfl rfl ?_
      refine k_getr (t := 30) hX.1 dX7_sure_26 flX7_36 rfl (by decide) rfl rfl ?_
      refine k_iload_n hX.1 dX7_sure_29 rfl rfl ?_
      refine k_callVf (d2 := 1) (n := 1) (as := [_]) hX.1 dX7_sure_30 lkX7_192 (fit_of hX (by omega) gmX1_toneOf) rfl rfl (by decide) rfl rfl rfl (Nat.le_of_ble_eq_true rfl) (cU_tof E hW0 hS (p := p) (by omega)) ?_
      refine k_iret hX dX7_sure_33 rfl ?_
      refine ⟨?_, RC_u hR hW hS, sameM_u hS⟩
      rw [rSure, if_pos hin, Int.toNat_natCast]
    · skip
      exact absurd c_8 (by decide)
  · skip
    refine k_aload_n hX.1 dX7_sure_0 rfl rfl ?_
    refine k_getr (t := 3) hX.1 dX7_sure_1 flX7_19 rfl (by decide) rfl rfl ?_
    refine k_iload_n hX.1 dX7_sure_4 rfl rfl ?_
    refine k_callVf (d2 := 1) (n := 1) (as := [_]) hX.1 dX7_sure_5 lkX7_77 (fit_of hX (by omega) gmX6_hasPart) rfl rfl (by decide) rfl rfl rfl (Nat.le_of_ble_eq_true rfl) (cW_hasPart0 E g (by omega) (by omega) (by omega)) ?_
    refine k_if_ne (tgt := 14) hX.1 dX7_sure_8 (by decide) (by omega) (fun c_8 => ?_) (fun c_8 => ?_)
    · skip
      exact absurd rfl c_8
    · skip
      refine k_bipush hX.1 dX7_sure_11 (by decide) ?_
      refine k_iret hX dX7_sure_13 rfl ?_
      refine ⟨?_, hR, sameM.rf g⟩
      rw [rSure, if_neg hin]
