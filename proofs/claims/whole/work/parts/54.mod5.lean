theorem RM_newlot {A : St} {g : Mm} {n : Int} (hR : RM A g) (hW : Wf A n) {t : Nat} (ht : A 12 2 = (t : Int)) {s : Int} : RM (up (up (up (up A 8 t s) 9 t 0) 10 t 0) 12 2 (A 12 2 + 1)) (wr (wr (wr (wr g 55 t s) 56 t 0) 57 t 0) 46 11 (A 12 2 + 1)) := by
  obtain ⟨⟨h1, h2, h3⟩, hp, ⟨a1, a2, a3, a4, a5⟩, hk⟩ := hR
  have u0 : ∀ i j : Nat, i < 8 ∨ 10 < i → ¬ (i = 12 ∧ j = 2) → up (up (up (up A 8 t s) 9 t 0) 10 t 0) 12 2 (A 12 2 + 1) i j = A i j := fun i j q1 q2 => by
    rw [up_off (by omega), up_off (by omega), up_off (by omega), up_off (by omega)]
  have w0 : ∀ i j : Nat, i < 55 ∨ 57 < i → ¬ (i = 46 ∧ j = 11) → (wr (wr (wr (wr g 55 t s) 56 t 0) 57 t 0) 46 11 (A 12 2 + 1)).1 i j = g.1 i j := fun i j q1 q2 => by
    rw [wr_1, if_neg q2, wr_off (by omega), wr_off (by omega), wr_off (by omega)]
  have un : up (up (up (up A 8 t s) 9 t 0) 10 t 0) 12 2 (A 12 2 + 1) 12 2 = A 12 2 + 1 := up_at
  refine ⟨⟨?_, fun p hp => ?_, fun q hq => ?_⟩, ?_, ?_, fun h => ?_⟩
  · rw [un, u0 12 0 (by omega) (by omega), u0 12 1 (by omega) (by omega), w0 46 1 (by omega) (by omega), w0 46 2 (by omega) (by omega), wr_at]
    exact ⟨h1.1, rfl, h1.2.2⟩
  · rw [u0 12 0 (by omega) (by omega)] at hp
    have e := h2 p hp
    rw [u0 0 p (by omega) (by omega), u0 1 p (by omega) (by omega), u0 2 p (by omega) (by omega), u0 3 p (by omega) (by omega), u0 4 p (by omega) (by omega), u0 5 p (by omega) (by omega), u0 6 p (by omega) (by omega), u0 7 p (by omega) (by omega), w0 47 p (by omega) (by omega), w0 48 p (by omega) (by omega), w0 49 p (by omega) (by omega), w0 50 p (by omega) (by omega), w0 51 p (by omega) (by omega), w0 52 p (by omega) (by omega), w0 53 p (by omega) (by omega), w0 54 p (by omega) (by omega)]
    exact e
  · rw [un] at hq
    have g55 : (wr (wr (wr (wr g 55 t s) 56 t 0) 57 t 0) 46 11 (A 12 2 + 1)).1 55 q = if q = t then s else g.1 55 q := by
      rw [wr_off (by omega), wr_off (by omega), wr_off (by omega), wr_1]; by_cases z : q = t <;> simp [z]
    have g56 : (wr (wr (wr (wr g 55 t s) 56 t 0) 57 t 0) 46 11 (A 12 2 + 1)).1 56 q = if q = t then 0 else g.1 56 q := by
      rw [wr_off (by omega), wr_off (by omega), wr_1, wr_off (by omega)]; by_cases z : q = t <;> simp [z]
    have g57 : (wr (wr (wr (wr g 55 t s) 56 t 0) 57 t 0) 46 11 (A 12 2 + 1)).1 57 q = if q = t then 0 else g.1 57 q := by
      rw [wr_off (by omega), wr_1, wr_off (by omega), wr_off (by omega)]; by_cases z : q = t <;> simp [z]
    have b8 : up (up (up (up A 8 t s) 9 t 0) 10 t 0) 12 2 (A 12 2 + 1) 8 q = if q = t then s else A 8 q := by
      rw [up_off (by omega), up_off (by omega), up_off (by omega), up_1]; by_cases z : q = t <;> simp [z]
    have b9 : up (up (up (up A 8 t s) 9 t 0) 10 t 0) 12 2 (A 12 2 + 1) 9 q = if q = t then 0 else A 9 q := by
      rw [up_off (by omega), up_off (by omega), up_1, up_off (by omega)]; by_cases z : q = t <;> simp [z]
    have b10 : up (up (up (up A 8 t s) 9 t 0) 10 t 0) 12 2 (A 12 2 + 1) 10 q = if q = t then 0 else A 10 q := by
      rw [up_off (by omega), up_1, up_off (by omega), up_off (by omega)]; by_cases z : q = t <;> simp [z]
    rw [g55, g56, g57, b8, b9, b10]
    by_cases z : q = t
    · rw [if_pos z, if_pos z, if_pos z, if_pos z, if_pos z, if_pos z]; exact ⟨rfl, rfl, rfl⟩
    · rw [if_neg z, if_neg z, if_neg z, if_neg z, if_neg z, if_neg z]; exact h3 q (by omega)
  · unfold MPg
    rw [u0 12 3 (by omega) (by omega), w0 46 16 (by omega) (by omega)]
    exact ⟨hp.1, fun k hk => by rw [w0 58 k (by omega) (by omega), u0 11 k (by omega) (by omega)]; exact hp.2 k hk⟩
  · unfold MT_
    rw [u0 12 4 (by omega) (by omega), u0 12 5 (by omega) (by omega), u0 12 6 (by omega) (by omega), w0 46 0 (by omega) (by omega), w0 46 15 (by omega) (by omega), w0 46 25 (by omega) (by omega), w0 46 26 (by omega) (by omega)]
    exact ⟨a1, a2, a3, a4, a5⟩
  · rw [u0 12 6 (by omega) (by omega)] at h
    exact MK_fr (hk h) (fun a h1 h2 => by funext b; exact w0 a b (by omega) (by omega)) (w0 46 27 (by omega) (by omega)) ⟨u0 12 0 (by omega) (by omega), u0 12 7 (by omega) (by omega)⟩ (fun i p h1 h2 => u0 i p (by omega) (by omega))
set_option maxRecDepth 100000 in
set_option maxHeartbeats 4000000 in
theorem c8_lot (E : En) {A : St} {g : Mm} {n : Int} (hR : RM A g) (hW : Wf A n) {s : Int} (hs : bd s) : Ok E 5 mX8_lot [vR 46, vI s] g (fun r g' => r = some (vI (rLot A s)) ∧ RM (nLot A s) g' ∧ sameC g g') := by
  have hM0 := hR.1
  have hW0 := hW.1
  obtain ⟨⟨⟨hm1, hm2, hm3⟩, hmp, hml⟩, ⟨hg1, hg2⟩, ⟨ht1, ht2, ht3, ⟨ht4, ht5⟩, ht6⟩, hmk⟩ := id hR
  obtain ⟨⟨⟨hw1, hw2, hw3, hw4, hw5, hw6, hw7, hw8⟩, hwp, hwl⟩, ⟨hq1, hq2, hq3⟩, ⟨hz1, ⟨hz2, hz3⟩, ⟨hz4, hz5⟩⟩, hwk⟩ := id hW
  obtain ⟨t, ht⟩ : ∃ m : Nat, A 12 2 = (m : Int) := ⟨(A 12 2).toNat, by omega⟩
  refine Ok_of gmX8_lot (by omega) (Nat.le_of_ble_eq_true rfl) (fun X hX => ?_)
  show V E X 0 [some (vR 46), some (vI s)] [] g
  by_cases i1 : 0 ≤ s ∧ s ≤ 20
  · skip
    by_cases i2 : A 12 0 = 0
    · skip
      refine k_iload_n hX.1 dX8_lot_0 rfl rfl ?_
      refine k_iconst hX.1 dX8_lot_1 ?_
      refine k_bipush hX.1 dX8_lot_2 (by decide) ?_
      refine k_callSf (d2 := 1) (n := 3) (as := [_, _, _]) hX.1 dX8_lot_4 lkX8_86 (fit_of hX (by omega) gmX8_within) rfl rfl (Nat.le_of_ble_eq_true rfl) (cM_within1 E g (by omega) (by omega) (by omega) (by omega)) ?_
      refine k_if_ne (tgt := 13) hX.1 dX8_lot_7 (by decide) (by omega) (fun c_7 => ?_) (fun c_7 => ?_)
      · skip
        refine k_aload_n hX.1 dX8_lot_13 rfl rfl ?_
        refine k_geti hX.1 dX8_lot_14 flX8_119 rfl (by decide) rfl ?_
        refine k_if_ne (tgt := 23) hX.1 dX8_lot_17 (by decide) (by omega) (fun c_17 => ?_) (fun c_17 => ?_)
        · skip
          exact absurd c_17 (by omega)
        · skip
          refine k_bipush hX.1 dX8_lot_20 (by decide) ?_
          refine k_iret hX dX8_lot_22 rfl ?_
          refine ⟨?_, ?_, sameC.rf g⟩
          · congr 2
            unfold rLot
            (repeat first | rw [if_pos (by omega)] | rw [if_neg (by omega)])
          · unfold nLot
            (repeat first | rw [if_pos (by omega)] | rw [if_neg (by omega)])
            exact hR
      · skip
        exact absurd c_7 (by decide)
    · skip
      by_cases i3 : A 12 2 = 3
      · skip
        refine k_iload_n hX.1 dX8_lot_0 rfl rfl ?_
        refine k_iconst hX.1 dX8_lot_1 ?_
        refine k_bipush hX.1 dX8_lot_2 (by decide) ?_
        refine k_callSf (d2 := 1) (n := 3) (as := [_, _, _]) hX.1 dX8_lot_4 lkX8_86 (fit_of hX (by omega) gmX8_within) rfl rfl (Nat.le_of_ble_eq_true rfl) (cM_within1 E g (by omega) (by omega) (by omega) (by omega)) ?_
        refine k_if_ne (tgt := 13) hX.1 dX8_lot_7 (by decide) (by omega) (fun c_7 => ?_) (fun c_7 => ?_)
        · skip
          refine k_aload_n hX.1 dX8_lot_13 rfl rfl ?_
          refine k_geti hX.1 dX8_lot_14 flX8_119 rfl (by decide) rfl ?_
          refine k_if_ne (tgt := 23) hX.1 dX8_lot_17 (by decide) (by omega) (fun c_17 => ?_) (fun c_17 => ?_)
          · skip
            refine k_aload_n hX.1 dX8_lot_23 rfl rfl ?_
            refine k_geti hX.1 dX8_lot_24 flX8_132 rfl (by decide) rfl ?_
            refine k_iconst hX.1 dX8_lot_27 ?_
            refine k_icmp_ne (tgt := 34) hX.1 dX8_lot_28 (by decide) (by omega) (by omega) (fun c_28 => ?_) (fun c_28 => ?_)
            · skip
              exact absurd c_28 (by omega)
            · skip
              refine k_bipush hX.1 dX8_lot_31 (by decide) ?_
              refine k_iret hX dX8_lot_33 rfl ?_
              refine ⟨?_, ?_, sameC.rf g⟩
              · congr 2
                unfold rLot
                (repeat first | rw [if_pos (by omega)] | rw [if_neg (by omega)])
              · unfold nLot
                (repeat first | rw [if_pos (by omega)] | rw [if_neg (by omega)])
                exact hR
          · skip
            exact absurd c_17 (by omega)
        · skip
          exact absurd c_7 (by decide)
      · skip
        refine k_iload_n hX.1 dX8_lot_0 rfl rfl ?_
        refine k_iconst hX.1 dX8_lot_1 ?_
        refine k_bipush hX.1 dX8_lot_2 (by decide) ?_
        refine k_callSf (d2 := 1) (n := 3) (as := [_, _, _]) hX.1 dX8_lot_4 lkX8_86 (fit_of hX (by omega) gmX8_within) rfl rfl (Nat.le_of_ble_eq_true rfl) (cM_within1 E g (by omega) (by omega) (by omega) (by omega)) ?_
        refine k_if_ne (tgt := 13) hX.1 dX8_lot_7 (by decide) (by omega) (fun c_7 => ?_) (fun c_7 => ?_)
        · skip
          refine k_aload_n hX.1 dX8_lot_13 rfl rfl ?_
          refine k_geti hX.1 dX8_lot_14 flX8_119 rfl (by decide) rfl ?_
          refine k_if_ne (tgt := 23) hX.1 dX8_lot_17 (by decide) (by omega) (fun c_17 => ?_) (fun c_17 => ?_)
          · skip
            refine k_aload_n hX.1 dX8_lot_23 rfl rfl ?_
            refine k_geti hX.1 dX8_lot_24 flX8_132 rfl (by decide) rfl ?_
            refine k_iconst hX.1 dX8_lot_27 ?_
            refine k_icmp_ne (tgt := 34) hX.1 dX8_lot_28 (by decide) (by omega) (by omega) (fun c_28 => ?_) (fun c_28 => ?_)
            · skip
              refine k_aload_n hX.1 dX8_lot_34 rfl rfl ?_
              refine k_getr (t := 55) hX.1 dX8_lot_35 flX8_34 rfl (by decide) rfl rfl ?_
              refine k_aload_n hX.1 dX8_lot_38 rfl rfl ?_
              refine k_geti hX.1 dX8_lot_39 flX8_132 rfl (by decide) rfl ?_
              refine k_top (b := (t : Int)) (by omega) ?_
              refine k_iload_n hX.1 dX8_lot_42 rfl rfl ?_
              refine k_iast (j := t) hX.1 dX8_lot_43 rfl (by omega) (n := 3) rfl (by omega) (by omega) ?_
              refine k_aload_n hX.1 dX8_lot_44 rfl rfl ?_
              refine k_getr (t := 56) hX.1 dX8_lot_45 flX8_37 rfl (by decide) rfl rfl ?_
              refine k_aload_n hX.1 dX8_lot_48 rfl rfl ?_
              refine k_geti hX.1 dX8_lot_49 flX8_132 rfl (by decide) rfl ?_
              refine k_top (b := (t : Int)) (by rw [wr_off (by omega)]; omega) ?_
              refine k_iconst hX.1 dX8_lot_52 ?_
              refine k_iast (j := t) hX.1 dX8_lot_53 rfl (by omega) (n := 3) rfl (by omega) (by omega) ?_
              refine k_aload_n hX.1 dX8_lot_54 rfl rfl ?_
              refine k_getr (t := 57) hX.1 dX8_lot_55 flX8_40 rfl (by decide) rfl rfl ?_
              refine k_aload_n hX.1 dX8_lot_58 rfl rfl ?_
              refine k_geti hX.1 dX8_lot_59 flX8_132 rfl (by decide) rfl ?_
              refine k_top (b := (t : Int)) (by rw [wr_off (by omega), wr_off (by omega)]; omega) ?_
              refine k_iconst hX.1 dX8_lot_62 ?_
              refine k_iast (j := t) hX.1 dX8_lot_63 rfl (by omega) (n := 3) rfl (by omega) (by omega) ?_
              refine k_aload_n hX.1 dX8_lot_64 rfl rfl ?_
              refine k_dupR hX.1 dX8_lot_65 ?_
              refine k_geti hX.1 dX8_lot_66 flX8_132 rfl (by decide) rfl ?_
              refine k_top (b := A 12 2) (by rw [wr_off (by omega), wr_off (by omega), wr_off (by omega)]; omega) ?_
              refine k_iconst hX.1 dX8_lot_69 ?_
              refine k_iadd hX.1 dX8_lot_70 ?_
              refine k_puti hX.1 dX8_lot_71 flX8_132 rfl (by decide) rfl ?_
              refine k_aload_n hX.1 dX8_lot_74 rfl rfl ?_
              refine k_geti hX.1 dX8_lot_75 flX8_132 rfl (by decide) rfl ?_
              refine k_top (b := A 12 2 + 1) (wr_at) ?_
              refine k_iconst hX.1 dX8_lot_78 ?_
              refine k_isub hX.1 dX8_lot_79 ?_
              refine k_iret hX dX8_lot_80 rfl ?_
              refine ⟨?_, ?_, ((((sameC.rf g).wr (by omega)).wr (by omega)).wr (by omega)).wr (by omega)⟩
              · congr 2
                unfold rLot
                rw [if_neg (by omega), if_neg (by omega), if_neg (by omega)]
                omega
              · unfold nLot
                rw [if_neg (by omega), if_neg (by omega), if_neg (by omega)]
                have e : (A 12 2).toNat = t := by omega
                rw [e]
                exact RM_newlot hR hW ht
            · skip
              exact absurd c_28 (by omega)
          · skip
            exact absurd c_17 (by omega)
        · skip
          exact absurd c_7 (by decide)
  · skip
    refine k_iload_n hX.1 dX8_lot_0 rfl rfl ?_
    refine k_iconst hX.1 dX8_lot_1 ?_
    refine k_bipush hX.1 dX8_lot_2 (by decide) ?_
    refine k_callSf (d2 := 1) (n := 3) (as := [_, _, _]) hX.1 dX8_lot_4 lkX8_86 (fit_of hX (by omega) gmX8_within) rfl rfl (Nat.le_of_ble_eq_true rfl) (cM_within0 E g (by omega) (by omega) (by omega) (by omega)) ?_
    refine k_if_ne (tgt := 13) hX.1 dX8_lot_7 (by decide) (by omega) (fun c_7 => ?_) (fun c_7 => ?_)
    · skip
      exact absurd rfl c_7
    · skip
      refine k_bipush hX.1 dX8_lot_10 (by decide) ?_
      refine k_iret hX dX8_lot_12 rfl ?_
      refine ⟨?_, ?_, sameC.rf g⟩
      · congr 2
        unfold rLot
        (repeat first | rw [if_pos (by omega)] | rw [if_neg (by omega)])
      · unfold nLot
        (repeat first | rw [if_pos (by omega)] | rw [if_neg (by omega)])
        exact hR

/-- six rows of parts and three of lots copied from s on to d on -/
def yC (g : Mm) (d s m c : Nat) : Mm := (fun a b => if d ≤ a ∧ a < d + 6 ∧ b < m then g.1 (a - d + s) b else if d + 6 ≤ a ∧ a < d + 9 ∧ b < c then g.1 (a - d + s) b else g.1 a b, g.2)
theorem yC_0 (g : Mm) (d s : Nat) : yC g d s 0 0 = g := by
  refine Prod.ext ?_ rfl
  funext a b
  simp only [yC]
  rw [if_neg (by omega), if_neg (by omega)]
theorem yC_off (g : Mm) {d s m c a : Nat} (h : a < d ∨ d + 9 ≤ a) : (yC g d s m c).1 a = g.1 a := by
  funext b
  simp only [yC]
  rw [if_neg (by omega), if_neg (by omega)]
theorem yC_p (g : Mm) {d s m : Nat} : wr (wr (wr (wr (wr (wr (yC g d s m 0) d m (g.1 s m)) (d + 1) m (g.1 (s + 1) m)) (d + 2) m (g.1 (s + 2) m)) (d + 3) m (g.1 (s + 3) m)) (d + 4) m (g.1 (s + 4) m)) (d + 5) m (g.1 (s + 5) m) = yC g d s (m + 1) 0 := by
  refine Prod.ext ?_ rfl
  funext a b
  simp only [wr_1]
  simp only [yC]
  by_cases hb : b = m
  · subst hb
    by_cases ha : d ≤ a ∧ a < d + 6
    · rw [if_pos (show d ≤ a ∧ a < d + 6 ∧ b < b + 1 by omega)]
      obtain ⟨i, rfl⟩ : ∃ i, a = d + i := ⟨a - d, by omega⟩
      rcases (show i = 0 ∨ i = 1 ∨ i = 2 ∨ i = 3 ∨ i = 4 ∨ i = 5 by omega) with rfl | rfl | rfl | rfl | rfl | rfl <;>
        simp <;> exact congrArg (fun z => g.1 z b) (by omega)
    · (repeat rw [if_neg (by omega)])
  · rw [if_neg (by omega), if_neg (by omega), if_neg (by omega), if_neg (by omega), if_neg (by omega), if_neg (by omega)]
    by_cases ha : d ≤ a ∧ a < d + 6 ∧ b < m
    · rw [if_pos ha, if_pos (by omega)]
    · rw [if_neg ha, if_neg (show ¬ (d ≤ a ∧ a < d + 6 ∧ b < m + 1) by omega)]
theorem yC_l (g : Mm) {d s m t : Nat} : wr (wr (wr (yC g d s m t) (d + 6) t (g.1 (s + 6) t)) (d + 7) t (g.1 (s + 7) t)) (d + 8) t (g.1 (s + 8) t) = yC g d s m (t + 1) := by
  refine Prod.ext ?_ rfl
  funext a b
  simp only [wr_1]
  simp only [yC]
  by_cases hc : d ≤ a ∧ a < d + 6 ∧ b < m
  · rw [if_neg (by omega), if_neg (by omega), if_neg (by omega), if_pos hc, if_pos hc]
  · rw [if_neg hc, if_neg hc]
    by_cases hb : b = t
    · subst hb
      by_cases ha : d + 6 ≤ a ∧ a < d + 9
      · rw [if_pos (show d + 6 ≤ a ∧ a < d + 9 ∧ b < b + 1 by omega)]
        obtain ⟨i, rfl⟩ : ∃ i, a = d + 6 + i := ⟨a - d - 6, by omega⟩
        rcases (show i = 0 ∨ i = 1 ∨ i = 2 by omega) with rfl | rfl | rfl <;>
          simp <;> exact congrArg (fun z => g.1 z b) (by omega)
      · (repeat rw [if_neg (by omega)])
    · rw [if_neg (by omega), if_neg (by omega), if_neg (by omega)]
      by_cases ha : d + 6 ≤ a ∧ a < d + 9 ∧ b < t
      · rw [if_pos ha, if_pos (by omega)]
      · rw [if_neg ha, if_neg (show ¬ (d + 6 ≤ a ∧ a < d + 9 ∧ b < t + 1) by omega)]
theorem yC_P (g : Mm) {d s m c i p : Nat} (hp : p < m) (hi : i < 6) : (yC g d s m c).1 (d + i) p = g.1 (s + i) p := by
  simp only [yC]
  rw [if_pos (by omega)]
  exact congrArg (fun z => g.1 z p) (by omega)
theorem yC_L (g : Mm) {d s m c i p : Nat} (hp : p < c) (hi : i < 3) : (yC g d s m c).1 (d + 6 + i) p = g.1 (s + 6 + i) p := by
  simp only [yC]
  rw [if_neg (by omega), if_pos (by omega)]
  exact congrArg (fun z => g.1 z p) (by omega)
theorem sameC_yC {g h : Mm} (hs : sameC g h) {d s m c : Nat} (hd : 46 ≤ d) : sameC g (yC h d s m c) := fun a ha => ⟨by rw [yC_off h (by omega)]; exact (hs a ha).1, (hs a ha).2⟩
def imG (g : Mm) : Mm := wr (wr (wr g 46 25 1) 46 26 (g.1 46 0)) 46 27 (g.1 46 11)
theorem imG_off (g : Mm) {a b : Nat} (h : ¬ (a = 46 ∧ 25 ≤ b ∧ b ≤ 27)) : (imG g).1 a b = g.1 a b := by
  unfold imG
  rw [wr_1, if_neg (by omega), wr_1, if_neg (by omega), wr_1, if_neg (by omega)]
theorem imG_off' (g : Mm) {a : Nat} (h : a ≠ 46) : (imG g).1 a = g.1 a := by funext b; exact imG_off g (by omega)
theorem RM_im {A : St} {g : Mm} {n : Int} (hR : RM A g) (hW : Wf A n) : RM (imA A) (yC (imG g) 63 49 (A 12 0).toNat 3) := by
  obtain ⟨⟨h1, h2, h3⟩, hp, ⟨a1, a2, a3, a4, a5⟩, hk⟩ := hR
  obtain ⟨⟨⟨w1, w2, w3, w4, -⟩, -⟩, -, ⟨-, ⟨w5, -⟩, -⟩, -⟩ := hW
  have g46 : ∀ b, ¬ (25 ≤ b ∧ b ≤ 27) → (yC (imG g) 63 49 (A 12 0).toNat 3).1 46 b = g.1 46 b := fun b hb => by
    rw [yC_off _ (by omega), imG_off g (by omega)]
  have gl : ∀ a, 46 < a → a < 63 → (yC (imG g) 63 49 (A 12 0).toNat 3).1 a = g.1 a := fun a h5 h6 => by
    rw [yC_off _ (by omega), imG_off' g (by omega)]
  refine ⟨MW_fr ⟨h1, h2, h3⟩ (fun a h1 h2 => gl a (by omega) (by omega)) ⟨g46 _ (by omega), g46 _ (by omega), g46 _ (by omega)⟩ ⟨imA_off A (by omega) (by omega), imA_off A (by omega) (by omega), imA_off A (by omega) (by omega)⟩ (fun i p h _ => imA_off A (by omega) (by omega)) (fun i p h1 h2 _ => imA_off A (by omega) (by omega)), ?_, ?_, fun _ => ⟨?_, fun p hp => ?_, fun t ht => ?_⟩⟩
  · unfold MPg
    rw [imA_off A (by omega) (by omega), g46 _ (by omega), gl 58 (by omega) (by omega)]
    exact ⟨hp.1, fun k hk => by rw [imA_off A (by omega) (by omega)]; exact hp.2 k hk⟩
  · unfold MT_
    have e25 : (yC (imG g) 63 49 (A 12 0).toNat 3).1 46 25 = 1 := by
      rw [yC_off _ (by omega)]; unfold imG; rw [wr_1, if_neg (by omega), wr_1, if_neg (by omega), wr_at]
    have e26 : (yC (imG g) 63 49 (A 12 0).toNat 3).1 46 26 = A 12 4 := by
      rw [yC_off _ (by omega)]; unfold imG; rw [wr_1, if_neg (by omega), wr_at]; exact a1
    rw [imA_off A (j := 4) (by omega) (by omega), imA_off A (j := 5) (by omega) (by omega), g46 _ (by omega), g46 _ (by omega), e25, e26]
    exact ⟨a1, a2, Or.inr rfl, ⟨w5, Int.le_refl _⟩, fun _ => ⟨rfl, rfl⟩, fun _ => rfl⟩
  · rw [yC_off _ (by omega)]; unfold imG; rw [wr_at]; exact h1.2.1
  · rw [imA_off A (by omega) (by omega)] at hp
    obtain ⟨-, -, e2, e3, e4, e5, e6, e7⟩ := h2 p hp
    have y : ∀ i, i < 6 → (yC (imG g) 63 49 (A 12 0).toNat 3).1 (63 + i) p = g.1 (49 + i) p := fun i hi => by
      rw [yC_P _ (by omega) hi, imG_off' g (by omega)]
    rw [y 0 (by omega), y 1 (by omega), y 2 (by omega), y 3 (by omega), y 4 (by omega), y 5 (by omega), imA_k A (by omega), imA_k A (by omega), imA_k A (by omega), imA_k A (by omega), imA_k A (by omega), imA_k A (by omega)]
    exact ⟨e2, e3, e4, e5, e6, e7⟩
  · have hm : imA A 12 7 = A 12 2 := rfl
    rw [hm] at ht
    have y : ∀ i, i < 3 → (yC (imG g) 63 49 (A 12 0).toNat 3).1 (63 + 6 + i) t = g.1 (49 + 6 + i) t := fun i hi => by
      rw [yC_L _ (by omega) hi, imG_off' g (by omega)]
    rw [y 0 (by omega), y 1 (by omega), y 2 (by omega), imA_k A (by omega), imA_k A (by omega), imA_k A (by omega)]
    exact h3 t ht
def reG (g : Mm) : Mm := wr g 46 11 (g.1 46 27)
theorem RM_re {A : St} {g : Mm} {n : Int} (hR : RM A g) (hW : Wf A n) (hK : A 12 6 = 1) : RM (reA A) (yC (reG g) 49 63 (A 12 0).toNat 3) := by
  obtain ⟨⟨h1, h2, h3⟩, hp, ⟨a1, a2, a3, a4, a5⟩, hk⟩ := hR
  obtain ⟨⟨⟨w1, w2, w3, w4, -⟩, -⟩, -, -, wk⟩ := hW
  obtain ⟨k1, k2, k3⟩ := hk hK
  obtain ⟨⟨w5, w6⟩, -, -⟩ := wk hK
  have g46 : ∀ b, b ≠ 11 → (yC (reG g) 49 63 (A 12 0).toNat 3).1 46 b = g.1 46 b := fun b hb => by
    rw [yC_off _ (by omega)]; unfold reG; rw [wr_1, if_neg (by omega)]
  have gl : ∀ a, 46 < a → a < 49 ∨ 58 ≤ a → (yC (reG g) 49 63 (A 12 0).toNat 3).1 a = g.1 a := fun a h5 h6 => by
    rw [yC_off _ (by omega)]; unfold reG; rw [wr_off (by omega)]
  refine ⟨⟨?_, fun p hp => ?_, fun t ht => ?_⟩, ?_, ?_, fun _ => ?_⟩
  · rw [g46 1 (by omega), g46 2 (by omega), yC_off _ (by omega), reA_off A (j := 0) (by omega) (by omega), reA_off A (j := 1) (by omega) (by omega)]
    refine ⟨h1.1, ?_, h1.2.2⟩
    unfold reG
    rw [wr_at]; exact k1
  · rw [reA_off A (by omega) (by omega)] at hp
    obtain ⟨e0, e1, -⟩ := h2 p hp
    obtain ⟨e2, e3, e4, e5, e6, e7⟩ := k2 p hp
    have y : ∀ i, i < 6 → (yC (reG g) 49 63 (A 12 0).toNat 3).1 (49 + i) p = g.1 (63 + i) p := fun i hi => by
      rw [yC_P _ (by omega) hi]; unfold reG; rw [wr_off (by omega)]
    rw [gl 47 (by omega) (by omega), gl 48 (by omega) (by omega), y 0 (by omega), y 1 (by omega), y 2 (by omega), y 3 (by omega), y 4 (by omega), y 5 (by omega), reA_off A (by omega) (by omega), reA_off A (by omega) (by omega), reA_k A (by omega), reA_k A (by omega), reA_k A (by omega), reA_k A (by omega), reA_k A (by omega), reA_k A (by omega)]
    exact ⟨e0, e1, e2, e3, e4, e5, e6, e7⟩
  · have hm : reA A 12 2 = A 12 7 := rfl
    rw [hm] at ht
    have y : ∀ i, i < 3 → (yC (reG g) 49 63 (A 12 0).toNat 3).1 (49 + 6 + i) t = g.1 (63 + 6 + i) t := fun i hi => by
      rw [yC_L _ (by omega) hi]; unfold reG; rw [wr_off (by omega)]
    rw [y 0 (by omega), y 1 (by omega), y 2 (by omega), reA_k A (by omega), reA_k A (by omega), reA_k A (by omega)]
    exact k3 t ht
  · unfold MPg
    rw [reA_off A (by omega) (by omega), g46 _ (by omega), gl 58 (by omega) (by omega)]
    exact ⟨hp.1, fun k hk => by rw [reA_off A (by omega) (by omega)]; exact hp.2 k hk⟩
  · unfold MT_
    rw [reA_off A (by omega) (by omega), reA_off A (by omega) (by omega), reA_off A (by omega) (by omega), g46 _ (by omega), g46 _ (by omega), g46 _ (by omega), g46 _ (by omega)]
    exact ⟨a1, a2, a3, a4, a5⟩
  · exact MK_fr ⟨k1, k2, k3⟩ (fun a h1 h2 => gl a (by omega) (by omega)) (g46 _ (by omega)) ⟨reA_off A (by omega) (by omega), reA_off A (by omega) (by omega)⟩ (fun i p h1 h2 => reA_off A (by omega) (by omega))
set_option maxRecDepth 100000 in
set_option maxHeartbeats 4000000 in
theorem lpM2_image (E : En) {A B : St} {g h : Mm} {n : Int} {N : Nat} (hR2 : RM B (yC h 63 49 N 3)) (hWn : Wf B (n + 1)) (hN : N ≤ 5) (hn1 : g.1 46 1 = (N : Int)) (hh1 : h.1 46 1 = (N : Int)) (hs : sameC g h) (hv : kC B = rImage A) (hn : nImage A = B) {X : Cx} (hX : Wk E mX8_image X 5 (fun r g' => r = some (vI (rImage A)) ∧ RM (nImage A) g' ∧ sameC g g')) : ∀ (m : Nat) (t : Nat), m + t = 3 → V E X 121 [some (vR 46), some (vI (t : Int))] [] (yC h 63 49 N t) := by
  intro m
  induction m with
  | zero =>
    intro t hm
    obtain rfl : t = 3 := by omega
    refine k_iload_n hX.1 dX8_image_121 rfl rfl ?_
    refine k_iconst hX.1 dX8_image_122 ?_
    refine k_icmp_ge (tgt := 168) hX.1 dX8_image_123 (by decide) (by omega) (by omega) (fun c_123 => ?_) (fun c_123 => ?_)
    · skip
      refine k_aload_n hX.1 dX8_image_168 rfl rfl ?_
      refine k_geti hX.1 dX8_image_169 flX8_119 rfl (by decide) rfl ?_
      refine k_top (b := (N : Int)) (by rw [yC_off _ (by omega)]; exact hh1) ?_
      refine k_aload_n hX.1 dX8_image_172 rfl rfl ?_
      refine k_callVf (d2 := 1) (n := 0) (as := []) hX.1 dX8_image_173 lkX8_181 (fit_of hX (by omega) gmX8_openParts) rfl rfl (by decide) rfl rfl rfl (Nat.le_of_ble_eq_true rfl) (cM_openParts E hR2.1 hWn.1) ?_
      refine k_isub hX.1 dX8_image_176 ?_
      refine k_iret hX dX8_image_177 rfl ?_
      refine ⟨?_, ?_, sameC_yC hs (by omega)⟩
      · congr 2
        have hk := oP_kC B (B 12 0).toNat
        have hb := hR2.1.1.1
        rw [yC_off _ (by omega)] at hb
        have hw := hWn.1.1.1
        rw [← hv]
        unfold kC oP
        omega
      · rw [hn]; exact hR2
    · skip
      exact absurd c_123 (by omega)
  | succ m ih =>
    intro t hm
    refine k_iload_n hX.1 dX8_image_121 rfl rfl ?_
    refine k_iconst hX.1 dX8_image_122 ?_
    refine k_icmp_ge (tgt := 168) hX.1 dX8_image_123 (by decide) (by omega) (by omega) (fun c_123 => ?_) (fun c_123 => ?_)
    · skip
      exact absurd c_123 (by omega)
    · skip
      refine k_aload_n hX.1 dX8_image_126 rfl rfl ?_
      refine k_getr (t := 69) hX.1 dX8_image_127 flX8_77 rfl (by decide) rfl rfl ?_
      refine k_iload_n hX.1 dX8_image_130 rfl rfl ?_
      refine k_aload_n hX.1 dX8_image_131 rfl rfl ?_
      refine k_getr (t := 55) hX.1 dX8_image_132 flX8_34 rfl (by decide) rfl rfl ?_
      refine k_iload_n hX.1 dX8_image_135 rfl rfl ?_
      refine k_iald (j := t) hX.1 dX8_image_136 rfl (by omega) (n := 3) rfl (by omega) (by omega) ?_
      refine k_top (b := h.1 (49 + 6) t) (by (repeat rw [wr_off (by omega)]); rw [yC_off _ (by omega)]) ?_
      refine k_iast (j := t) hX.1 dX8_image_137 rfl (by omega) (n := 3) rfl (by omega) (by omega) ?_
      refine k_aload_n hX.1 dX8_image_138 rfl rfl ?_
      refine k_getr (t := 70) hX.1 dX8_image_139 flX8_80 rfl (by decide) rfl rfl ?_
      refine k_iload_n hX.1 dX8_image_142 rfl rfl ?_
      refine k_aload_n hX.1 dX8_image_143 rfl rfl ?_
      refine k_getr (t := 56) hX.1 dX8_image_144 flX8_37 rfl (by decide) rfl rfl ?_
      refine k_iload_n hX.1 dX8_image_147 rfl rfl ?_
      refine k_iald (j := t) hX.1 dX8_image_148 rfl (by omega) (n := 3) rfl (by omega) (by omega) ?_
      refine k_top (b := h.1 (49 + 7) t) (by (repeat rw [wr_off (by omega)]); rw [yC_off _ (by omega)]) ?_
      refine k_iast (j := t) hX.1 dX8_image_149 rfl (by omega) (n := 3) rfl (by omega) (by omega) ?_
      refine k_aload_n hX.1 dX8_image_150 rfl rfl ?_
      refine k_getr (t := 71) hX.1 dX8_image_151 flX8_83 rfl (by decide) rfl rfl ?_
      refine k_iload_n hX.1 dX8_image_154 rfl rfl ?_
      refine k_aload_n hX.1 dX8_image_155 rfl rfl ?_
      refine k_getr (t := 57) hX.1 dX8_image_156 flX8_40 rfl (by decide) rfl rfl ?_
      refine k_iload_n hX.1 dX8_image_159 rfl rfl ?_
      refine k_iald (j := t) hX.1 dX8_image_160 rfl (by omega) (n := 3) rfl (by omega) (by omega) ?_
      refine k_top (b := h.1 (49 + 8) t) (by (repeat rw [wr_off (by omega)]); rw [yC_off _ (by omega)]) ?_
      refine k_iast (j := t) hX.1 dX8_image_161 rfl (by omega) (n := 3) rfl (by omega) (by omega) ?_
      refine k_iinc hX.1 dX8_image_162 rfl (by decide) rfl rfl ?_
      try simp only [List.set_cons_zero, List.set_cons_succ]
      refine k_goto (tgt := 121) hX.1 dX8_image_165 (by decide) ?_
      exact k_mem (yC_l h) (ih (t + 1) (by omega))

set_option maxRecDepth 100000 in
set_option maxHeartbeats 4000000 in
theorem lpM1_image (E : En) {A B : St} {g h : Mm} {n : Int} {N : Nat} (hR2 : RM B (yC h 63 49 N 3)) (hWn : Wf B (n + 1)) (hN : N ≤ 5) (hn1 : g.1 46 1 = (N : Int)) (hh1 : h.1 46 1 = (N : Int)) (hs : sameC g h) (hv : kC B = rImage A) (hn : nImage A = B) {X : Cx} (hX : Wk E mX8_image X 5 (fun r g' => r = some (vI (rImage A)) ∧ RM (nImage A) g' ∧ sameC g g')) : ∀ (m : Nat) (t : Nat), m + t = N → V E X 33 [some (vR 46), some (vI (t : Int))] [] (yC h 63 49 t 0) := by
  intro m
  induction m with
  | zero =>
    intro t hm
    refine k_iload_n hX.1 dX8_image_33 rfl rfl ?_
    refine k_aload_n hX.1 dX8_image_34 rfl rfl ?_
    refine k_geti hX.1 dX8_image_35 flX8_119 rfl (by decide) rfl ?_
    refine k_top (b := (N : Int)) (by rw [yC_off _ (by omega)]; exact hh1) ?_
    refine k_icmp_ge (tgt := 119) hX.1 dX8_image_38 (by decide) (by omega) (by omega) (fun c_38 => ?_) (fun c_38 => ?_)
    · skip
      refine k_iconst hX.1 dX8_image_119 ?_
      refine k_istore_n hX.1 dX8_image_120 rfl (by decide) rfl rfl ?_
      try simp only [List.set_cons_zero, List.set_cons_succ]
      obtain rfl : t = N := by omega
      exact lpM2_image E hR2 hWn hN hn1 hh1 hs hv hn hX 3 0 (by omega)
    · skip
      exact absurd c_38 (by omega)
  | succ m ih =>
    intro t hm
    refine k_iload_n hX.1 dX8_image_33 rfl rfl ?_
    refine k_aload_n hX.1 dX8_image_34 rfl rfl ?_
    refine k_geti hX.1 dX8_image_35 flX8_119 rfl (by decide) rfl ?_
    refine k_top (b := (N : Int)) (by rw [yC_off _ (by omega)]; exact hh1) ?_
    refine k_icmp_ge (tgt := 119) hX.1 dX8_image_38 (by decide) (by omega) (by omega) (fun c_38 => ?_) (fun c_38 => ?_)
    · skip
      exact absurd c_38 (by omega)
    · skip
      refine k_aload_n hX.1 dX8_image_41 rfl rfl ?_
      refine k_getr (t := 63) hX.1 dX8_image_42 flX8_59 rfl (by decide) rfl rfl ?_
      refine k_iload_n hX.1 dX8_image_45 rfl rfl ?_
      refine k_aload_n hX.1 dX8_image_46 rfl rfl ?_
      refine k_getr (t := 49) hX.1 dX8_image_47 flX8_16 rfl (by decide) rfl rfl ?_
      refine k_iload_n hX.1 dX8_image_50 rfl rfl ?_
      refine k_iald (j := t) hX.1 dX8_image_51 rfl (by omega) (n := 5) rfl (by omega) (by omega) ?_
      refine k_top (b := h.1 (49 + 0) t) (by (repeat rw [wr_off (by omega)]); rw [yC_off _ (by omega)]) ?_
      refine k_iast (j := t) hX.1 dX8_image_52 rfl (by omega) (n := 5) rfl (by omega) (by omega) ?_
      refine k_aload_n hX.1 dX8_image_53 rfl rfl ?_
      refine k_getr (t := 64) hX.1 dX8_image_54 flX8_62 rfl (by decide) rfl rfl ?_
      refine k_iload_n hX.1 dX8_image_57 rfl rfl ?_
      refine k_aload_n hX.1 dX8_image_58 rfl rfl ?_
      refine k_getr (t := 50) hX.1 dX8_image_59 flX8_19 rfl (by decide) rfl rfl ?_
      refine k_iload_n hX.1 dX8_image_62 rfl rfl ?_
      refine k_iald (j := t) hX.1 dX8_image_63 rfl (by omega) (n := 5) rfl (by omega) (by omega) ?_
      refine k_top (b := h.1 (49 + 1) t) (by (repeat rw [wr_off (by omega)]); rw [yC_off _ (by omega)]) ?_
      refine k_iast (j := t) hX.1 dX8_image_64 rfl (by omega) (n := 5) rfl (by omega) (by omega) ?_
      refine k_aload_n hX.1 dX8_image_65 rfl rfl ?_
      refine k_getr (t := 65) hX.1 dX8_image_66 flX8_65 rfl (by decide) rfl rfl ?_
      refine k_iload_n hX.1 dX8_image_69 rfl rfl ?_
      refine k_aload_n hX.1 dX8_image_70 rfl rfl ?_
      refine k_getr (t := 51) hX.1 dX8_image_71 flX8_22 rfl (by decide) rfl rfl ?_
      refine k_iload_n hX.1 dX8_image_74 rfl rfl ?_
      refine k_iald (j := t) hX.1 dX8_image_75 rfl (by omega) (n := 5) rfl (by omega) (by omega) ?_
      refine k_top (b := h.1 (49 + 2) t) (by (repeat rw [wr_off (by omega)]); rw [yC_off _ (by omega)]) ?_
      refine k_iast (j := t) hX.1 dX8_image_76 rfl (by omega) (n := 5) rfl (by omega) (by omega) ?_
      refine k_aload_n hX.1 dX8_image_77 rfl rfl ?_
      refine k_getr (t := 66) hX.1 dX8_image_78 flX8_68 rfl (by decide) rfl rfl ?_
      refine k_iload_n hX.1 dX8_image_81 rfl rfl ?_
      refine k_aload_n hX.1 dX8_image_82 rfl rfl ?_
      refine k_getr (t := 52) hX.1 dX8_image_83 flX8_25 rfl (by decide) rfl rfl ?_
      refine k_iload_n hX.1 dX8_image_86 rfl rfl ?_
      refine k_iald (j := t) hX.1 dX8_image_87 rfl (by omega) (n := 5) rfl (by omega) (by omega) ?_
      refine k_top (b := h.1 (49 + 3) t) (by (repeat rw [wr_off (by omega)]); rw [yC_off _ (by omega)]) ?_
      refine k_iast (j := t) hX.1 dX8_image_88 rfl (by omega) (n := 5) rfl (by omega) (by omega) ?_
      refine k_aload_n hX.1 dX8_image_89 rfl rfl ?_
      refine k_getr (t := 67) hX.1 dX8_image_90 flX8_71 rfl (by decide) rfl rfl ?_
      refine k_iload_n hX.1 dX8_image_93 rfl rfl ?_
      refine k_aload_n hX.1 dX8_image_94 rfl rfl ?_
      refine k_getr (t := 53) hX.1 dX8_image_95 flX8_28 rfl (by decide) rfl rfl ?_
      refine k_iload_n hX.1 dX8_image_98 rfl rfl ?_
      refine k_iald (j := t) hX.1 dX8_image_99 rfl (by omega) (n := 5) rfl (by omega) (by omega) ?_
      refine k_top (b := h.1 (49 + 4) t) (by (repeat rw [wr_off (by omega)]); rw [yC_off _ (by omega)]) ?_
      refine k_iast (j := t) hX.1 dX8_image_100 rfl (by omega) (n := 5) rfl (by omega) (by omega) ?_
      refine k_aload_n hX.1 dX8_image_101 rfl rfl ?_
      refine k_getr (t := 68) hX.1 dX8_image_102 flX8_74 rfl (by decide) rfl rfl ?_
      refine k_iload_n hX.1 dX8_image_105 rfl rfl ?_
      refine k_aload_n hX.1 dX8_image_106 rfl rfl ?_
      refine k_getr (t := 54) hX.1 dX8_image_107 flX8_31 rfl (by decide) rfl rfl ?_
      refine k_iload_n hX.1 dX8_image_110 rfl rfl ?_
      refine k_iald (j := t) hX.1 dX8_image_111 rfl (by omega) (n := 5) rfl (by omega) (by omega) ?_
      refine k_top (b := h.1 (49 + 5) t) (by (repeat rw [wr_off (by omega)]); rw [yC_off _ (by omega)]) ?_
      refine k_iast (j := t) hX.1 dX8_image_112 rfl (by omega) (n := 5) rfl (by omega) (by omega) ?_
      refine k_iinc hX.1 dX8_image_113 rfl (by decide) rfl rfl ?_
      try simp only [List.set_cons_zero, List.set_cons_succ]
      refine k_goto (tgt := 33) hX.1 dX8_image_116 (by decide) ?_
      exact k_mem (yC_p h) (ih (t + 1) (by omega))

set_option maxRecDepth 100000 in
set_option maxHeartbeats 4000000 in
theorem lpM2_restore (E : En) {A B : St} {g h : Mm} {n : Int} {N : Nat} (hR2 : RM B (yC h 49 63 N 3)) (hWn : Wf B (n + 1)) (hN : N ≤ 5) (hn1 : g.1 46 1 = (N : Int)) (hh1 : h.1 46 1 = (N : Int)) (hs : sameC g h) (hv : kC B = rRestore A) (hn : nRestore A = B) {X : Cx} (hX : Wk E mX8_restore X 5 (fun r g' => r = some (vI (rRestore A)) ∧ RM (nRestore A) g' ∧ sameC g g')) : ∀ (m : Nat) (t : Nat), m + t = 3 → V E X 119 [some (vR 46), some (vI (t : Int))] [] (yC h 49 63 N t) := by
  intro m
  induction m with
  | zero =>
    intro t hm
    obtain rfl : t = 3 := by omega
    refine k_iload_n hX.1 dX8_restore_119 rfl rfl ?_
    refine k_iconst hX.1 dX8_restore_120 ?_
    refine k_icmp_ge (tgt := 166) hX.1 dX8_restore_121 (by decide) (by omega) (by omega) (fun c_121 => ?_) (fun c_121 => ?_)
    · skip
      refine k_aload_n hX.1 dX8_restore_166 rfl rfl ?_
      refine k_geti hX.1 dX8_restore_167 flX8_119 rfl (by decide) rfl ?_
      refine k_top (b := (N : Int)) (by rw [yC_off _ (by omega)]; exact hh1) ?_
      refine k_aload_n hX.1 dX8_restore_170 rfl rfl ?_
      refine k_callVf (d2 := 1) (n := 0) (as := []) hX.1 dX8_restore_171 lkX8_181 (fit_of hX (by omega) gmX8_openParts) rfl rfl (by decide) rfl rfl rfl (Nat.le_of_ble_eq_true rfl) (cM_openParts E hR2.1 hWn.1) ?_
      refine k_isub hX.1 dX8_restore_174 ?_
      refine k_iret hX dX8_restore_175 rfl ?_
      refine ⟨?_, ?_, sameC_yC hs (by omega)⟩
      · congr 2
        have hk := oP_kC B (B 12 0).toNat
        have hb := hR2.1.1.1
        rw [yC_off _ (by omega)] at hb
        have hw := hWn.1.1.1
        rw [← hv]
        unfold kC oP
        omega
      · rw [hn]; exact hR2
    · skip
      exact absurd c_121 (by omega)
  | succ m ih =>
    intro t hm
    refine k_iload_n hX.1 dX8_restore_119 rfl rfl ?_
    refine k_iconst hX.1 dX8_restore_120 ?_
    refine k_icmp_ge (tgt := 166) hX.1 dX8_restore_121 (by decide) (by omega) (by omega) (fun c_121 => ?_) (fun c_121 => ?_)
    · skip
      exact absurd c_121 (by omega)
    · skip
      refine k_aload_n hX.1 dX8_restore_124 rfl rfl ?_
      refine k_getr (t := 55) hX.1 dX8_restore_125 flX8_34 rfl (by decide) rfl rfl ?_
      refine k_iload_n hX.1 dX8_restore_128 rfl rfl ?_
      refine k_aload_n hX.1 dX8_restore_129 rfl rfl ?_
      refine k_getr (t := 69) hX.1 dX8_restore_130 flX8_77 rfl (by decide) rfl rfl ?_
      refine k_iload_n hX.1 dX8_restore_133 rfl rfl ?_
      refine k_iald (j := t) hX.1 dX8_restore_134 rfl (by omega) (n := 3) rfl (by omega) (by omega) ?_
      refine k_top (b := h.1 (63 + 6) t) (by (repeat rw [wr_off (by omega)]); rw [yC_off _ (by omega)]) ?_
      refine k_iast (j := t) hX.1 dX8_restore_135 rfl (by omega) (n := 3) rfl (by omega) (by omega) ?_
      refine k_aload_n hX.1 dX8_restore_136 rfl rfl ?_
      refine k_getr (t := 56) hX.1 dX8_restore_137 flX8_37 rfl (by decide) rfl rfl ?_
      refine k_iload_n hX.1 dX8_restore_140 rfl rfl ?_
      refine k_aload_n hX.1 dX8_restore_141 rfl rfl ?_
      refine k_getr (t := 70) hX.1 dX8_restore_142 flX8_80 rfl (by decide) rfl rfl ?_
      refine k_iload_n hX.1 dX8_restore_145 rfl rfl ?_
      refine k_iald (j := t) hX.1 dX8_restore_146 rfl (by omega) (n := 3) rfl (by omega) (by omega) ?_
      refine k_top (b := h.1 (63 + 7) t) (by (repeat rw [wr_off (by omega)]); rw [yC_off _ (by omega)]) ?_
      refine k_iast (j := t) hX.1 dX8_restore_147 rfl (by omega) (n := 3) rfl (by omega) (by omega) ?_
      refine k_aload_n hX.1 dX8_restore_148 rfl rfl ?_
      refine k_getr (t := 57) hX.1 dX8_restore_149 flX8_40 rfl (by decide) rfl rfl ?_
      refine k_iload_n hX.1 dX8_restore_152 rfl rfl ?_
      refine k_aload_n hX.1 dX8_restore_153 rfl rfl ?_
      refine k_getr (t := 71) hX.1 dX8_restore_154 flX8_83 rfl (by decide) rfl rfl ?_
      refine k_iload_n hX.1 dX8_restore_157 rfl rfl ?_
      refine k_iald (j := t) hX.1 dX8_restore_158 rfl (by omega) (n := 3) rfl (by omega) (by omega) ?_
      refine k_top (b := h.1 (63 + 8) t) (by (repeat rw [wr_off (by omega)]); rw [yC_off _ (by omega)]) ?_
      refine k_iast (j := t) hX.1 dX8_restore_159 rfl (by omega) (n := 3) rfl (by omega) (by omega) ?_
      refine k_iinc hX.1 dX8_restore_160 rfl (by decide) rfl rfl ?_
      try simp only [List.set_cons_zero, List.set_cons_succ]
      refine k_goto (tgt := 119) hX.1 dX8_restore_163 (by decide) ?_
      exact k_mem (yC_l h) (ih (t + 1) (by omega))

set_option maxRecDepth 100000 in
set_option maxHeartbeats 4000000 in
theorem lpM1_restore (E : En) {A B : St} {g h : Mm} {n : Int} {N : Nat} (hR2 : RM B (yC h 49 63 N 3)) (hWn : Wf B (n + 1)) (hN : N ≤ 5) (hn1 : g.1 46 1 = (N : Int)) (hh1 : h.1 46 1 = (N : Int)) (hs : sameC g h) (hv : kC B = rRestore A) (hn : nRestore A = B) {X : Cx} (hX : Wk E mX8_restore X 5 (fun r g' => r = some (vI (rRestore A)) ∧ RM (nRestore A) g' ∧ sameC g g')) : ∀ (m : Nat) (t : Nat), m + t = N → V E X 31 [some (vR 46), some (vI (t : Int))] [] (yC h 49 63 t 0) := by
  intro m
  induction m with
  | zero =>
    intro t hm
    refine k_iload_n hX.1 dX8_restore_31 rfl rfl ?_
    refine k_aload_n hX.1 dX8_restore_32 rfl rfl ?_
    refine k_geti hX.1 dX8_restore_33 flX8_119 rfl (by decide) rfl ?_
    refine k_top (b := (N : Int)) (by rw [yC_off _ (by omega)]; exact hh1) ?_
    refine k_icmp_ge (tgt := 117) hX.1 dX8_restore_36 (by decide) (by omega) (by omega) (fun c_36 => ?_) (fun c_36 => ?_)
    · skip
      refine k_iconst hX.1 dX8_restore_117 ?_
      refine k_istore_n hX.1 dX8_restore_118 rfl (by decide) rfl rfl ?_
      try simp only [List.set_cons_zero, List.set_cons_succ]
      obtain rfl : t = N := by omega
      exact lpM2_restore E hR2 hWn hN hn1 hh1 hs hv hn hX 3 0 (by omega)
    · skip
      exact absurd c_36 (by omega)
  | succ m ih =>
    intro t hm
    refine k_iload_n hX.1 dX8_restore_31 rfl rfl ?_
    refine k_aload_n hX.1 dX8_restore_32 rfl rfl ?_
    refine k_geti hX.1 dX8_restore_33 flX8_119 rfl (by decide) rfl ?_
    refine k_top (b := (N : Int)) (by rw [yC_off _ (by omega)]; exact hh1) ?_
    refine k_icmp_ge (tgt := 117) hX.1 dX8_restore_36 (by decide) (by omega) (by omega) (fun c_36 => ?_) (fun c_36 => ?_)
    · skip
      exact absurd c_36 (by omega)
    · skip
      refine k_aload_n hX.1 dX8_restore_39 rfl rfl ?_
      refine k_getr (t := 49) hX.1 dX8_restore_40 flX8_16 rfl (by decide) rfl rfl ?_
      refine k_iload_n hX.1 dX8_restore_43 rfl rfl ?_
      refine k_aload_n hX.1 dX8_restore_44 rfl rfl ?_
      refine k_getr (t := 63) hX.1 dX8_restore_45 flX8_59 rfl (by decide) rfl rfl ?_
      refine k_iload_n hX.1 dX8_restore_48 rfl rfl ?_
      refine k_iald (j := t) hX.1 dX8_restore_49 rfl (by omega) (n := 5) rfl (by omega) (by omega) ?_
      refine k_top (b := h.1 (63 + 0) t) (by (repeat rw [wr_off (by omega)]); rw [yC_off _ (by omega)]) ?_
      refine k_iast (j := t) hX.1 dX8_restore_50 rfl (by omega) (n := 5) rfl (by omega) (by omega) ?_
      refine k_aload_n hX.1 dX8_restore_51 rfl rfl ?_
      refine k_getr (t := 50) hX.1 dX8_restore_52 flX8_19 rfl (by decide) rfl rfl ?_
      refine k_iload_n hX.1 dX8_restore_55 rfl rfl ?_
      refine k_aload_n hX.1 dX8_restore_56 rfl rfl ?_
      refine k_getr (t := 64) hX.1 dX8_restore_57 flX8_62 rfl (by decide) rfl rfl ?_
      refine k_iload_n hX.1 dX8_restore_60 rfl rfl ?_
      refine k_iald (j := t) hX.1 dX8_restore_61 rfl (by omega) (n := 5) rfl (by omega) (by omega) ?_
      refine k_top (b := h.1 (63 + 1) t) (by (repeat rw [wr_off (by omega)]); rw [yC_off _ (by omega)]) ?_
      refine k_iast (j := t) hX.1 dX8_restore_62 rfl (by omega) (n := 5) rfl (by omega) (by omega) ?_
      refine k_aload_n hX.1 dX8_restore_63 rfl rfl ?_
      refine k_getr (t := 51) hX.1 dX8_restore_64 flX8_22 rfl (by decide) rfl rfl ?_
      refine k_iload_n hX.1 dX8_restore_67 rfl rfl ?_
      refine k_aload_n hX.1 dX8_restore_68 rfl rfl ?_
      refine k_getr (t := 65) hX.1 dX8_restore_69 flX8_65 rfl (by decide) rfl rfl ?_
      refine k_iload_n hX.1 dX8_restore_72 rfl rfl ?_
      refine k_iald (j := t) hX.1 dX8_restore_73 rfl (by omega) (n := 5) rfl (by omega) (by omega) ?_
      refine k_top (b := h.1 (63 + 2) t) (by (repeat rw [wr_off (by omega)]); rw [yC_off _ (by omega)]) ?_
      refine k_iast (j := t) hX.1 dX8_restore_74 rfl (by omega) (n := 5) rfl (by omega) (by omega) ?_
      refine k_aload_n hX.1 dX8_restore_75 rfl rfl ?_
      refine k_getr (t := 52) hX.1 dX8_restore_76 flX8_25 rfl (by decide) rfl rfl ?_
      refine k_iload_n hX.1 dX8_restore_79 rfl rfl ?_
      refine k_aload_n hX.1 dX8_restore_80 rfl rfl ?_
      refine k_getr (t := 66) hX.1 dX8_restore_81 flX8_68 rfl (by decide) rfl rfl ?_
      refine k_iload_n hX.1 dX8_restore_84 rfl rfl ?_
      refine k_iald (j := t) hX.1 dX8_restore_85 rfl (by omega) (n := 5) rfl (by omega) (by omega) ?_
      refine k_top (b := h.1 (63 + 3) t) (by (repeat rw [wr_off (by omega)]); rw [yC_off _ (by omega)]) ?_
      refine k_iast (j := t) hX.1 dX8_restore_86 rfl (by omega) (n := 5) rfl (by omega) (by omega) ?_
      refine k_aload_n hX.1 dX8_restore_87 rfl rfl ?_
      refine k_getr (t := 53) hX.1 dX8_restore_88 flX8_28 rfl (by decide) rfl rfl ?_
      refine k_iload_n hX.1 dX8_restore_91 rfl rfl ?_
      refine k_aload_n hX.1 dX8_restore_92 rfl rfl ?_
      refine k_getr (t := 67) hX.1 dX8_restore_93 flX8_71 rfl (by decide) rfl rfl ?_
      refine k_iload_n hX.1 dX8_restore_96 rfl rfl ?_
      refine k_iald (j := t) hX.1 dX8_restore_97 rfl (by omega) (n := 5) rfl (by omega) (by omega) ?_
      refine k_top (b := h.1 (63 + 4) t) (by (repeat rw [wr_off (by omega)]); rw [yC_off _ (by omega)]) ?_
      refine k_iast (j := t) hX.1 dX8_restore_98 rfl (by omega) (n := 5) rfl (by omega) (by omega) ?_
      refine k_aload_n hX.1 dX8_restore_99 rfl rfl ?_
      refine k_getr (t := 54) hX.1 dX8_restore_100 flX8_31 rfl (by decide) rfl rfl ?_
      refine k_iload_n hX.1 dX8_restore_103 rfl rfl ?_
      refine k_aload_n hX.1 dX8_restore_104 rfl rfl ?_
      refine k_getr (t := 68) hX.1 dX8_restore_105 flX8_74 rfl (by decide) rfl rfl ?_
      refine k_iload_n hX.1 dX8_restore_108 rfl rfl ?_
      refine k_iald (j := t) hX.1 dX8_restore_109 rfl (by omega) (n := 5) rfl (by omega) (by omega) ?_
      refine k_top (b := h.1 (63 + 5) t) (by (repeat rw [wr_off (by omega)]); rw [yC_off _ (by omega)]) ?_
      refine k_iast (j := t) hX.1 dX8_restore_110 rfl (by omega) (n := 5) rfl (by omega) (by omega) ?_
      refine k_iinc hX.1 dX8_restore_111 rfl (by decide) rfl rfl ?_
      try simp only [List.set_cons_zero, List.set_cons_succ]
      refine k_goto (tgt := 31) hX.1 dX8_restore_114 (by decide) ?_
      exact k_mem (yC_p h) (ih (t + 1) (by omega))

set_option maxRecDepth 100000 in
set_option maxHeartbeats 4000000 in
theorem c8_image (E : En) {A : St} {g : Mm} {n : Int} (hR : RM A g) (hW : Wf A n) (hWn : Wf (nImage A) (n + 1)) : Ok E 5 mX8_image [vR 46] g (fun r g' => r = some (vI (rImage A)) ∧ RM (nImage A) g' ∧ sameC g g') := by
  have hM0 := hR.1
  have hW0 := hW.1
  obtain ⟨⟨⟨hm1, hm2, hm3⟩, hmp, hml⟩, ⟨hg1, hg2⟩, ⟨ht1, ht2, ht3, ⟨ht4, ht5⟩, ht6⟩, hmk⟩ := id hR
  obtain ⟨⟨⟨hw1, hw2, hw3, hw4, hw5, hw6, hw7, hw8⟩, hwp, hwl⟩, ⟨hq1, hq2, hq3⟩, ⟨hz1, ⟨hz2, hz3⟩, ⟨hz4, hz5⟩⟩, hwk⟩ := id hW
  refine Ok_of gmX8_image (by omega) (Nat.le_of_ble_eq_true rfl) (fun X hX => ?_)
  show V E X 0 [some (vR 46), none] [] g
  by_cases hz : A 12 0 = 0
  · skip
    refine k_aload_n hX.1 dX8_image_0 rfl rfl ?_
    refine k_geti hX.1 dX8_image_1 flX8_119 rfl (by decide) rfl ?_
    refine k_if_ne (tgt := 10) hX.1 dX8_image_4 (by decide) (by omega) (fun c_4 => ?_) (fun c_4 => ?_)
    · skip
      exact absurd c_4 (by omega)
    · skip
      refine k_bipush hX.1 dX8_image_7 (by decide) ?_
      refine k_iret hX dX8_image_9 rfl ?_
      refine ⟨?_, ?_, sameC.rf g⟩
      · congr 2
        unfold rImage
        (repeat first | rw [if_pos (by omega)] | rw [if_neg (by omega)])
      · unfold nImage
        (repeat first | rw [if_pos (by omega)] | rw [if_neg (by omega)])
        exact hR
  · skip
    have hn : nImage A = imA A := if_neg hz
    rw [hn] at hWn
    have hR2 := RM_im hR hW
    have hv : kC (imA A) = rImage A := by
      unfold rImage
      rw [if_neg hz]
      unfold kC
      rw [imA_off A (by omega) (by omega)]
      exact sm_congr (fun p hp => by rw [imA_off A (by omega) (by omega)])
    refine k_aload_n hX.1 dX8_image_0 rfl rfl ?_
    refine k_geti hX.1 dX8_image_1 flX8_119 rfl (by decide) rfl ?_
    refine k_if_ne (tgt := 10) hX.1 dX8_image_4 (by decide) (by omega) (fun c_4 => ?_) (fun c_4 => ?_)
    · skip
      refine k_aload_n hX.1 dX8_image_10 rfl rfl ?_
      refine k_iconst hX.1 dX8_image_11 ?_
      refine k_putz hX.1 dX8_image_12 flX8_242 rfl (by decide) rfl (by omega) ?_
      refine k_aload_n hX.1 dX8_image_15 rfl rfl ?_
      refine k_aload_n hX.1 dX8_image_16 rfl rfl ?_
      refine k_geti hX.1 dX8_image_17 flX8_129 rfl (by decide) rfl ?_
      refine k_top (b := g.1 46 0) (by rw [wr_1, if_neg (by omega)]) ?_
      refine k_puti hX.1 dX8_image_20 flX8_245 rfl (by decide) rfl ?_
      refine k_aload_n hX.1 dX8_image_23 rfl rfl ?_
      refine k_aload_n hX.1 dX8_image_24 rfl rfl ?_
      refine k_geti hX.1 dX8_image_25 flX8_132 rfl (by decide) rfl ?_
      refine k_top (b := g.1 46 11) (by rw [wr_1, if_neg (by omega), wr_1, if_neg (by omega)]) ?_
      refine k_puti hX.1 dX8_image_28 flX8_248 rfl (by decide) rfl ?_
      refine k_iconst hX.1 dX8_image_31 ?_
      refine k_istore_n hX.1 dX8_image_32 rfl (by decide) rfl rfl ?_
      try simp only [List.set_cons_zero, List.set_cons_succ]
      have h := lpM1_image E hR2 hWn (by omega) (g := g) (A := A) (by omega) (by rw [imG_off g (by omega)]; omega) ((((sameC.rf g).wr (by omega)).wr (by omega)).wr (by omega)) hv hn hX (A 12 0).toNat 0 (by omega)
      rw [yC_0] at h
      exact h
    · skip
      exact absurd c_4 (by omega)

set_option maxRecDepth 100000 in
set_option maxHeartbeats 4000000 in
theorem c8_restore (E : En) {A : St} {g : Mm} {n : Int} (hR : RM A g) (hW : Wf A n) (hWn : Wf (nRestore A) (n + 1)) : Ok E 5 mX8_restore [vR 46] g (fun r g' => r = some (vI (rRestore A)) ∧ RM (nRestore A) g' ∧ sameC g g') := by
  have hM0 := hR.1
  have hW0 := hW.1
  obtain ⟨⟨⟨hm1, hm2, hm3⟩, hmp, hml⟩, ⟨hg1, hg2⟩, ⟨ht1, ht2, ht3, ⟨ht4, ht5⟩, ht6⟩, hmk⟩ := id hR
  obtain ⟨⟨⟨hw1, hw2, hw3, hw4, hw5, hw6, hw7, hw8⟩, hwp, hwl⟩, ⟨hq1, hq2, hq3⟩, ⟨hz1, ⟨hz2, hz3⟩, ⟨hz4, hz5⟩⟩, hwk⟩ := id hW
  refine Ok_of gmX8_restore (by omega) (Nat.le_of_ble_eq_true rfl) (fun X hX => ?_)
  show V E X 0 [some (vR 46), none] [] g
  by_cases hz : A 12 6 = 1
  · skip
    have hn : nRestore A = reA A := if_pos hz
    rw [hn] at hWn
    have hR2 := RM_re hR hW hz
    have hv : kC (reA A) = rRestore A := by
      unfold rRestore
      rw [if_pos hz]
    obtain ⟨y1, y2⟩ := ht6.1 hz
    refine k_aload_n hX.1 dX8_restore_0 rfl rfl ?_
    refine k_getz hX.1 dX8_restore_1 flX8_242 rfl (by decide) rfl ?_
    refine k_if_eq (tgt := 18) hX.1 dX8_restore_4 (by decide) (by omega) (fun c_4 => ?_) (fun c_4 => ?_)
    · skip
      exact absurd c_4 (by omega)
    · skip
      refine k_aload_n hX.1 dX8_restore_7 rfl rfl ?_
      refine k_geti hX.1 dX8_restore_8 flX8_245 rfl (by decide) rfl ?_
      refine k_aload_n hX.1 dX8_restore_11 rfl rfl ?_
      refine k_geti hX.1 dX8_restore_12 flX8_129 rfl (by decide) rfl ?_
      refine k_icmp_eq (tgt := 21) hX.1 dX8_restore_15 (by decide) (by omega) (by omega) (fun c_15 => ?_) (fun c_15 => ?_)
      · skip
        refine k_aload_n hX.1 dX8_restore_21 rfl rfl ?_
        refine k_aload_n hX.1 dX8_restore_22 rfl rfl ?_
        refine k_geti hX.1 dX8_restore_23 flX8_248 rfl (by decide) rfl ?_
        refine k_puti hX.1 dX8_restore_26 flX8_132 rfl (by decide) rfl ?_
        refine k_iconst hX.1 dX8_restore_29 ?_
        refine k_istore_n hX.1 dX8_restore_30 rfl (by decide) rfl rfl ?_
        try simp only [List.set_cons_zero, List.set_cons_succ]
        have h := lpM1_restore E hR2 hWn (by omega) (g := g) (A := A) (by omega) (by unfold reG; rw [wr_1, if_neg (by omega)]; omega) ((sameC.rf g).wr (by omega)) hv hn hX (A 12 0).toNat 0 (by omega)
        rw [yC_0] at h
        exact h
      · skip
        exact absurd c_15 (by omega)
  · skip
    by_cases h1 : g.1 46 25 = 1
    · skip
      refine k_aload_n hX.1 dX8_restore_0 rfl rfl ?_
      refine k_getz hX.1 dX8_restore_1 flX8_242 rfl (by decide) rfl ?_
      refine k_if_eq (tgt := 18) hX.1 dX8_restore_4 (by decide) (by omega) (fun c_4 => ?_) (fun c_4 => ?_)
      · skip
        exact absurd c_4 (by omega)
      · skip
        refine k_aload_n hX.1 dX8_restore_7 rfl rfl ?_
        refine k_geti hX.1 dX8_restore_8 flX8_245 rfl (by decide) rfl ?_
        refine k_aload_n hX.1 dX8_restore_11 rfl rfl ?_
        refine k_geti hX.1 dX8_restore_12 flX8_129 rfl (by decide) rfl ?_
        refine k_icmp_eq (tgt := 21) hX.1 dX8_restore_15 (by decide) (by omega) (by omega) (fun c_15 => ?_) (fun c_15 => ?_)
        · skip
          exact absurd (ht6.2 ⟨h1, by omega⟩) hz
        · skip
          refine k_bipush hX.1 dX8_restore_18 (by decide) ?_
          refine k_iret hX dX8_restore_20 rfl ?_
          refine ⟨?_, ?_, sameC.rf g⟩
          · congr 2
            unfold rRestore
            (repeat first | rw [if_pos (by omega)] | rw [if_neg (by omega)])
          · unfold nRestore
            (repeat first | rw [if_pos (by omega)] | rw [if_neg (by omega)])
            exact hR
    · skip
      refine k_aload_n hX.1 dX8_restore_0 rfl rfl ?_
      refine k_getz hX.1 dX8_restore_1 flX8_242 rfl (by decide) rfl ?_
      refine k_if_eq (tgt := 18) hX.1 dX8_restore_4 (by decide) (by omega) (fun c_4 => ?_) (fun c_4 => ?_)
      · skip
        refine k_bipush hX.1 dX8_restore_18 (by decide) ?_
        refine k_iret hX dX8_restore_20 rfl ?_
        refine ⟨?_, ?_, sameC.rf g⟩
        · congr 2
          unfold rRestore
          (repeat first | rw [if_pos (by omega)] | rw [if_neg (by omega)])
        · unfold nRestore
          (repeat first | rw [if_pos (by omega)] | rw [if_neg (by omega)])
          exact hR
      · skip
        exact absurd c_4 (by omega)
