theorem lf_bd {A : St} {p a d : Nat} {l : Nat → Int} (hh : 0 ≤ hf A p a d ∧ hf A p a d ≤ A 1 p) (hha : a = d → hf A p a d = A 1 p) (h1 : hf A p a d ≤ l a) (h2 : A 1 p - hf A p a d ≤ l d) {t : Nat} (h0 : 0 ≤ l t ∧ l t ≤ 20000) : 0 ≤ lf A p a d l t ∧ lf A p a d l t ≤ 20000 := by
  unfold lf fu
  by_cases e1 : t = d
  · subst e1
    rw [if_pos rfl]
    by_cases e2 : t = a
    · subst e2
      rw [if_pos rfl]
      have := hha rfl
      omega
    · rw [if_neg e2]; omega
  · rw [if_neg e1]
    by_cases e2 : t = a
    · subst e2
      rw [if_pos rfl]; omega
    · rw [if_neg e2]; exact h0
theorem left_back {g h : Mm} {p a d : Nat} {f1 f2 w : Int} {l : Nat → Int} (la : g.1 29 a = l a) (ld : g.1 29 d = l d) (z5 : ∀ t, h.1 29 t = (wr (wr (wr g 29 a (l a - f1)) 29 d (fu l a (l a - f1) d - f2)) 26 p w).1 29 t) (t : Nat) : (wr (wr h 29 a (h.1 29 a + f1)) 29 d ((wr h 29 a (h.1 29 a + f1)).1 29 d + f2)).1 29 t = g.1 29 t := by
  have e : ∀ t, h.1 29 t = if t = d then fu l a (l a - f1) d - f2 else if t = a then l a - f1 else g.1 29 t := by
    intro t
    rw [z5, wr_off (by omega), wr_1, wr_1]
    simp
  have ea := e a
  have ed := e d
  have et := e t
  rw [if_pos rfl] at ed
  simp only [wr_1, true_and]
  unfold fu at ea ed et
  by_cases y3 : d = a
  · subst y3
    simp only [if_true] at ea ed et ⊢
    by_cases y1 : t = d
    · subst y1
      simp only [if_true]; omega
    · simp only [y1, if_false] at et ⊢; exact et
  · have y4 : ¬ a = d := fun q => y3 q.symm
    rw [if_neg y3] at ed
    rw [if_neg y4, if_pos rfl] at ea
    rw [if_neg y3]
    by_cases y1 : t = d
    · subst y1
      rw [if_pos rfl]; omega
    · rw [if_neg y1] at et ⊢
      by_cases y2 : t = a
      · subst y2
        rw [if_pos rfl]; omega
      · rw [if_neg y2] at et ⊢; exact et
theorem bR_w {A : St} {b : BS} {g : Mm} (h : bR A b g) {k j : Nat} {v : Int} (hk : k = 26 ∨ k = 28 ∨ k = 29) : bR A b (wr g k j v) := by
  obtain ⟨h1, h2, h3, h4, h5⟩ := h
  exact ⟨h1, by rw [wr_off (by omega)]; exact h2, by rw [wr_off (by omega)]; exact h3, h4, fun q j hj => by rw [wr_off (by omega)]; exact h5 q j hj⟩
set_option maxRecDepth 100000 in
set_option maxHeartbeats 4000000 in
theorem cN_of (E : En) {A : St} {n : Int} (hW : WW A n) {r : Nat} (ih : ChOk E A r) {p a d : Nat} {x : Int} {l : Nat → Int} {s : Int} {c : Nat → Int} {b : BS} {g : Mm} (hp : (p : Int) + 1 + r = A 12 0) (ha : (a : Int) < A 12 2) (hd : (d : Int) < A 12 2) (hI : pI A p x l s c b g) : Ok E (3 + 3 * r + 2) mX5_chooseOf [vR 25, vR 3, vI (p : Int), vI (a : Int), vI (d : Int), vI s] g (fun q g' => q = none ∧ pO A p (if hf A p a d ≤ l a ∧ A 1 p - hf A p a d ≤ l d then tr A r (p + 1) (A 8 a + A 8 d) (lf A p a d l) (s + sw A p x (A 8 a + A 8 d)) (fu c p (4 * (a : Int) + d)) b else b) g g') := by
  obtain ⟨⟨hw1, hw2, hw3, hw4, hw5, hw6, hw7, hw8⟩, hwp, hwl⟩ := id hW
  obtain ⟨i1, i2, i3, i4, i5, i6⟩ := id hI
  obtain ⟨e0, e1, e2, e3, e4, e5, e6, e7⟩ := i1.2.1 p (by omega)
  obtain ⟨-, ⟨er1, er2⟩, -⟩ := hwp p (by omega)
  obtain ⟨la1, la2, la3⟩ := i2 a ha
  obtain ⟨ld1, ld2, ld3⟩ := i2 d hd
  obtain ⟨k0, -, -⟩ := i1.2.2 a ha
  obtain ⟨m0, -, -⟩ := i1.2.2 d hd
  obtain ⟨⟨ka, kb⟩, -⟩ := hwl a ha
  obtain ⟨⟨ma, mb⟩, -⟩ := hwl d hd
  have hh : 0 ≤ hf A p a d ∧ hf A p a d ≤ A 1 p := by unfold hf; split <;> omega
  have hha : a = d → hf A p a d = A 1 p := fun q => by unfold hf; rw [if_pos (by omega)]
  have he : (if (a : Int) = (d : Int) then g.1 (6 + p) 1 else (g.1 (6 + p) 1 + 1) / 2) = hf A p a d := by rw [e1]; rfl
  refine Ok_of gmX5_chooseOf (by omega) (Nat.le_of_ble_eq_true rfl) (fun X hX => ?_)
  show V E X 0 [some (vR 25), some (vR 3), some (vI (p : Int)), some (vI (a : Int)), some (vI (d : Int)), some (vI s), none, none, none] [] g
  by_cases hf1 : hf A p a d ≤ l a
  · skip
    by_cases hf2 : A 1 p - hf A p a d ≤ l d
    · skip
      refine k_aload_n hX.1 dX5_chooseOf_0 rfl rfl ?_
      refine k_getr (t := 4) hX.1 dX5_chooseOf_1 flX5_58 rfl (by decide) rfl rfl ?_
      refine k_iload_n hX.1 dX5_chooseOf_4 rfl rfl ?_
      refine k_aaldP (j := p) (q := 6 + p) hX.1 dX5_chooseOf_5 rfl (by omega) (n := 5) rfl (by omega) (by omega) rfl ?_
      refine k_geti hX.1 dX5_chooseOf_6 flX5_80 (sk_P6 (by omega)) (by decide) rfl ?_
      refine k_istore hX.1 dX5_chooseOf_9 (by decide) rfl rfl ?_
      try simp only [List.set_cons_zero, List.set_cons_succ]
      refine k_iload hX.1 dX5_chooseOf_11 rfl ?_
      refine k_iload_n hX.1 dX5_chooseOf_13 rfl rfl ?_
      refine k_iload hX.1 dX5_chooseOf_14 rfl ?_
      refine k_callNf (d2 := 1) (n := 3) (as := [_, _, _]) hX.1 dX5_chooseOf_16 lkX5_82 (fit_of hX (by omega) gmX7_rowsOfFirst) rfl rfl (Nat.le_of_ble_eq_true rfl) (cX_rof E g (by omega) (by omega) (by omega)) ?_
      rw [he]
      refine k_istore hX.1 dX5_chooseOf_19 (by decide) rfl rfl ?_
      try simp only [List.set_cons_zero, List.set_cons_succ]
      refine k_iload hX.1 dX5_chooseOf_21 rfl ?_
      refine k_iload hX.1 dX5_chooseOf_23 rfl ?_
      refine k_isub hX.1 dX5_chooseOf_25 ?_
      refine k_istore hX.1 dX5_chooseOf_26 (by decide) rfl rfl ?_
      try simp only [List.set_cons_zero, List.set_cons_succ]
      refine k_aload_n hX.1 dX5_chooseOf_28 rfl rfl ?_
      refine k_getr (t := 29) hX.1 dX5_chooseOf_29 flX5_21 rfl (by decide) rfl rfl ?_
      refine k_iload_n hX.1 dX5_chooseOf_32 rfl rfl ?_
      refine k_iald (j := a) hX.1 dX5_chooseOf_33 rfl (by omega) (n := 3) rfl (by omega) (by omega) ?_
      refine k_top la1 ?_
      refine k_iload hX.1 dX5_chooseOf_34 rfl ?_
      refine k_icmp_lt (tgt := 51) hX.1 dX5_chooseOf_36 (by decide) (by omega) (by omega) (fun c_36 => ?_) (fun c_36 => ?_)
      · skip
        exact absurd c_36 (by omega)
      · skip
        refine k_aload_n hX.1 dX5_chooseOf_39 rfl rfl ?_
        refine k_getr (t := 29) hX.1 dX5_chooseOf_40 flX5_21 rfl (by decide) rfl rfl ?_
        refine k_iload hX.1 dX5_chooseOf_43 rfl ?_
        refine k_iald (j := d) hX.1 dX5_chooseOf_45 rfl (by omega) (n := 3) rfl (by omega) (by omega) ?_
        refine k_top ld1 ?_
        refine k_iload hX.1 dX5_chooseOf_46 rfl ?_
        refine k_icmp_ge (tgt := 52) hX.1 dX5_chooseOf_48 (by decide) (by omega) (by omega) (fun c_48 => ?_) (fun c_48 => ?_)
        · skip
          refine k_aload_n hX.1 dX5_chooseOf_52 rfl rfl ?_
          refine k_getr (t := 29) hX.1 dX5_chooseOf_53 flX5_21 rfl (by decide) rfl rfl ?_
          refine k_iload_n hX.1 dX5_chooseOf_56 rfl rfl ?_
          refine k_dup2 hX.1 dX5_chooseOf_57 ?_
          refine k_iald (j := a) hX.1 dX5_chooseOf_58 rfl (by omega) (n := 3) rfl (by omega) (by omega) ?_
          refine k_top la1 ?_
          refine k_iload hX.1 dX5_chooseOf_59 rfl ?_
          
          refine k_isub hX.1 dX5_chooseOf_61 ?_
          refine k_iast (j := a) hX.1 dX5_chooseOf_62 rfl (by omega) (n := 3) rfl (by omega) (by omega) ?_
          rw [show g.1 (6 + p) 1 - hf A p a d = A 1 p - hf A p a d by rw [e1]]
          refine k_aload_n hX.1 dX5_chooseOf_63 rfl rfl ?_
          refine k_getr (t := 29) hX.1 dX5_chooseOf_64 flX5_21 rfl (by decide) rfl rfl ?_
          refine k_iload hX.1 dX5_chooseOf_67 rfl ?_
          refine k_dup2 hX.1 dX5_chooseOf_69 ?_
          refine k_iald (j := d) hX.1 dX5_chooseOf_70 rfl (by omega) (n := 3) rfl (by omega) (by omega) ?_
          refine k_top (b := fu l a (l a - hf A p a d) d) (by rw [wr_1]; unfold fu; by_cases z : d = a; (rw [if_pos ⟨rfl, z⟩, if_pos z]); (rw [if_neg (by omega), if_neg z]; exact ld1)) ?_
          refine k_iload hX.1 dX5_chooseOf_71 rfl ?_
          refine k_isub hX.1 dX5_chooseOf_73 ?_
          refine k_iast (j := d) hX.1 dX5_chooseOf_74 rfl (by omega) (n := 3) rfl (by omega) (by omega) ?_
          refine k_aload_n hX.1 dX5_chooseOf_75 rfl rfl ?_
          refine k_getr (t := 26) hX.1 dX5_chooseOf_76 flX5_9 rfl (by decide) rfl rfl ?_
          refine k_iload_n hX.1 dX5_chooseOf_79 rfl rfl ?_
          refine k_iconst hX.1 dX5_chooseOf_80 ?_
          refine k_iload_n hX.1 dX5_chooseOf_81 rfl rfl ?_
          refine k_imul hX.1 dX5_chooseOf_82 ?_
          refine k_iload hX.1 dX5_chooseOf_83 rfl ?_
          refine k_iadd hX.1 dX5_chooseOf_85 ?_
          refine k_iast (j := p) hX.1 dX5_chooseOf_86 rfl (by omega) (n := 5) rfl (by omega) (by omega) ?_
          refine k_aload_n hX.1 dX5_chooseOf_87 rfl rfl ?_
          refine k_aload_n hX.1 dX5_chooseOf_88 rfl rfl ?_
          refine k_iload_n hX.1 dX5_chooseOf_89 rfl rfl ?_
          refine k_aload_n hX.1 dX5_chooseOf_90 rfl rfl ?_
          refine k_getr (t := 5) hX.1 dX5_chooseOf_91 flX5_37 rfl (by decide) rfl rfl ?_
          refine k_iload_n hX.1 dX5_chooseOf_94 rfl rfl ?_
          refine k_aaldL (j := a) (q := 11 + a) hX.1 dX5_chooseOf_95 rfl (by omega) (n := 3) rfl (by omega) (by omega) rfl ?_
          refine k_geti hX.1 dX5_chooseOf_96 flX5_86 (sk_L11 (by omega)) (by decide) rfl ?_
          refine k_top (b := A 8 a) (by rw [wr_off (by omega), wr_off (by omega), wr_off (by omega)]; exact k0) ?_
          refine k_aload_n hX.1 dX5_chooseOf_99 rfl rfl ?_
          refine k_getr (t := 5) hX.1 dX5_chooseOf_100 flX5_37 rfl (by decide) rfl rfl ?_
          refine k_iload hX.1 dX5_chooseOf_103 rfl ?_
          refine k_aaldL (j := d) (q := 11 + d) hX.1 dX5_chooseOf_105 rfl (by omega) (n := 3) rfl (by omega) (by omega) rfl ?_
          refine k_geti hX.1 dX5_chooseOf_106 flX5_86 (sk_L11 (by omega)) (by decide) rfl ?_
          refine k_top (b := A 8 d) (by rw [wr_off (by omega), wr_off (by omega), wr_off (by omega)]; exact m0) ?_
          refine k_iadd hX.1 dX5_chooseOf_109 ?_
          refine k_iload hX.1 dX5_chooseOf_110 rfl ?_
          have hI3 : pI A p x (lf A p a d l) s c b (wr (wr (wr g 29 a (l a - hf A p a d)) 29 d (fu l a (l a - hf A p a d) d - (A 1 p - hf A p a d))) 26 p (4 * (a : Int) + d)) := by
            refine ⟨CW_p i1 hW (fun z hz => by rw [wr_off (by omega), wr_off (by omega), wr_off (by omega)]), fun t ht => ?_, fun hp => by rw [wr_off (by omega), wr_off (by omega), wr_off (by omega)]; exact i3 hp, fun q hq => by rw [wr_1, if_neg (by omega), wr_off (by omega), wr_off (by omega)]; exact i4 q hq, i5, bR_w (bR_w (bR_w i6 (by omega)) (by omega)) (by omega)⟩
            refine ⟨?_, lf_bd hh hha hf1 hf2 (i2 t ht).2⟩
            rw [wr_off (by omega), wr_1, wr_1]
            unfold lf fu
            by_cases z1 : t = d
            · rw [if_pos ⟨rfl, z1⟩, if_pos z1]
            · rw [if_neg (by omega), if_neg z1]
              by_cases z2 : t = a
              · rw [if_pos ⟨rfl, z2⟩, if_pos z2]
              · rw [if_neg (by omega), if_neg z2]; exact (i2 t ht).1
          refine k_callS (d2 := (3 + 3 * r + 1)) (n := 5) (as := [_, _, _, _, _]) hX.1 dX5_chooseOf_112 lkX5_72 (fit_of hX (by omega) gmX5_goOn) rfl rfl (Nat.le_of_ble_eq_true rfl) (cN_goOn E hW ih (p := p) (x := x) (y := A 8 a + A 8 d) (by omega) hI3 (by omega) (wr_at)) (fun r_112 g_112 q_112 => ?_)
          obtain ⟨rfl, z1, z2, z3, z4, z5⟩ := q_112
          show V E X 115 _ [] _
          refine k_aload_n hX.1 dX5_chooseOf_115 rfl rfl ?_
          refine k_getr (t := 29) hX.1 dX5_chooseOf_116 flX5_21 rfl (by decide) rfl rfl ?_
          refine k_iload_n hX.1 dX5_chooseOf_119 rfl rfl ?_
          refine k_dup2 hX.1 dX5_chooseOf_120 ?_
          refine k_iald (j := a) hX.1 dX5_chooseOf_121 rfl (by omega) (n := 3) rfl (by omega) (by omega) ?_
          refine k_iload hX.1 dX5_chooseOf_122 rfl ?_
          refine k_iadd hX.1 dX5_chooseOf_124 ?_
          refine k_iast (j := a) hX.1 dX5_chooseOf_125 rfl (by omega) (n := 3) rfl (by omega) (by omega) ?_
          refine k_aload_n hX.1 dX5_chooseOf_126 rfl rfl ?_
          refine k_getr (t := 29) hX.1 dX5_chooseOf_127 flX5_21 rfl (by decide) rfl rfl ?_
          refine k_iload hX.1 dX5_chooseOf_130 rfl ?_
          refine k_dup2 hX.1 dX5_chooseOf_132 ?_
          refine k_iald (j := d) hX.1 dX5_chooseOf_133 rfl (by omega) (n := 3) rfl (by omega) (by omega) ?_
          refine k_iload hX.1 dX5_chooseOf_134 rfl ?_
          refine k_iadd hX.1 dX5_chooseOf_136 ?_
          refine k_iast (j := d) hX.1 dX5_chooseOf_137 rfl (by omega) (n := 3) rfl (by omega) (by omega) ?_
          refine k_vret hX dX5_chooseOf_138 rfl ?_
          rw [if_pos ⟨hf1, hf2⟩]
          refine ⟨rfl, bR_w (bR_w z1 (by omega)) (by omega), fun z hz => ?_, z3, fun q hq => ?_, fun t => ?_⟩
          · rw [wr_off (by omega), wr_off (by omega), z2 z hz, wr_off (by omega), wr_off (by omega), wr_off (by omega)]
          · rw [wr_off (by omega), wr_off (by omega), wr_off (by omega), wr_off (by omega), (z4 q hq).1, (z4 q hq).2, wr_1, if_neg (by omega), wr_off (by omega), wr_off (by omega), wr_off (by omega), wr_off (by omega), wr_off (by omega)]
            exact ⟨rfl, rfl⟩
          · exact left_back la1 ld1 z5 t
        · skip
          exact absurd c_48 (by omega)
    · skip
      refine k_aload_n hX.1 dX5_chooseOf_0 rfl rfl ?_
      refine k_getr (t := 4) hX.1 dX5_chooseOf_1 flX5_58 rfl (by decide) rfl rfl ?_
      refine k_iload_n hX.1 dX5_chooseOf_4 rfl rfl ?_
      refine k_aaldP (j := p) (q := 6 + p) hX.1 dX5_chooseOf_5 rfl (by omega) (n := 5) rfl (by omega) (by omega) rfl ?_
      refine k_geti hX.1 dX5_chooseOf_6 flX5_80 (sk_P6 (by omega)) (by decide) rfl ?_
      refine k_istore hX.1 dX5_chooseOf_9 (by decide) rfl rfl ?_
      try simp only [List.set_cons_zero, List.set_cons_succ]
      refine k_iload hX.1 dX5_chooseOf_11 rfl ?_
      refine k_iload_n hX.1 dX5_chooseOf_13 rfl rfl ?_
      refine k_iload hX.1 dX5_chooseOf_14 rfl ?_
      refine k_callNf (d2 := 1) (n := 3) (as := [_, _, _]) hX.1 dX5_chooseOf_16 lkX5_82 (fit_of hX (by omega) gmX7_rowsOfFirst) rfl rfl (Nat.le_of_ble_eq_true rfl) (cX_rof E g (by omega) (by omega) (by omega)) ?_
      rw [he]
      refine k_istore hX.1 dX5_chooseOf_19 (by decide) rfl rfl ?_
      try simp only [List.set_cons_zero, List.set_cons_succ]
      refine k_iload hX.1 dX5_chooseOf_21 rfl ?_
      refine k_iload hX.1 dX5_chooseOf_23 rfl ?_
      refine k_isub hX.1 dX5_chooseOf_25 ?_
      refine k_istore hX.1 dX5_chooseOf_26 (by decide) rfl rfl ?_
      try simp only [List.set_cons_zero, List.set_cons_succ]
      refine k_aload_n hX.1 dX5_chooseOf_28 rfl rfl ?_
      refine k_getr (t := 29) hX.1 dX5_chooseOf_29 flX5_21 rfl (by decide) rfl rfl ?_
      refine k_iload_n hX.1 dX5_chooseOf_32 rfl rfl ?_
      refine k_iald (j := a) hX.1 dX5_chooseOf_33 rfl (by omega) (n := 3) rfl (by omega) (by omega) ?_
      refine k_top la1 ?_
      refine k_iload hX.1 dX5_chooseOf_34 rfl ?_
      refine k_icmp_lt (tgt := 51) hX.1 dX5_chooseOf_36 (by decide) (by omega) (by omega) (fun c_36 => ?_) (fun c_36 => ?_)
      · skip
        exact absurd c_36 (by omega)
      · skip
        refine k_aload_n hX.1 dX5_chooseOf_39 rfl rfl ?_
        refine k_getr (t := 29) hX.1 dX5_chooseOf_40 flX5_21 rfl (by decide) rfl rfl ?_
        refine k_iload hX.1 dX5_chooseOf_43 rfl ?_
        refine k_iald (j := d) hX.1 dX5_chooseOf_45 rfl (by omega) (n := 3) rfl (by omega) (by omega) ?_
        refine k_top ld1 ?_
        refine k_iload hX.1 dX5_chooseOf_46 rfl ?_
        refine k_icmp_ge (tgt := 52) hX.1 dX5_chooseOf_48 (by decide) (by omega) (by omega) (fun c_48 => ?_) (fun c_48 => ?_)
        · skip
          exact absurd c_48 (by omega)
        · skip
          refine k_vret hX dX5_chooseOf_51 rfl ?_
          rw [if_neg (fun z => hf2 z.2)]
          exact ⟨rfl, pO.rf i6⟩
  · skip
    refine k_aload_n hX.1 dX5_chooseOf_0 rfl rfl ?_
    refine k_getr (t := 4) hX.1 dX5_chooseOf_1 flX5_58 rfl (by decide) rfl rfl ?_
    refine k_iload_n hX.1 dX5_chooseOf_4 rfl rfl ?_
    refine k_aaldP (j := p) (q := 6 + p) hX.1 dX5_chooseOf_5 rfl (by omega) (n := 5) rfl (by omega) (by omega) rfl ?_
    refine k_geti hX.1 dX5_chooseOf_6 flX5_80 (sk_P6 (by omega)) (by decide) rfl ?_
    refine k_istore hX.1 dX5_chooseOf_9 (by decide) rfl rfl ?_
    try simp only [List.set_cons_zero, List.set_cons_succ]
    refine k_iload hX.1 dX5_chooseOf_11 rfl ?_
    refine k_iload_n hX.1 dX5_chooseOf_13 rfl rfl ?_
    refine k_iload hX.1 dX5_chooseOf_14 rfl ?_
    refine k_callNf (d2 := 1) (n := 3) (as := [_, _, _]) hX.1 dX5_chooseOf_16 lkX5_82 (fit_of hX (by omega) gmX7_rowsOfFirst) rfl rfl (Nat.le_of_ble_eq_true rfl) (cX_rof E g (by omega) (by omega) (by omega)) ?_
    rw [he]
    refine k_istore hX.1 dX5_chooseOf_19 (by decide) rfl rfl ?_
    try simp only [List.set_cons_zero, List.set_cons_succ]
    refine k_iload hX.1 dX5_chooseOf_21 rfl ?_
    refine k_iload hX.1 dX5_chooseOf_23 rfl ?_
    refine k_isub hX.1 dX5_chooseOf_25 ?_
    refine k_istore hX.1 dX5_chooseOf_26 (by decide) rfl rfl ?_
    try simp only [List.set_cons_zero, List.set_cons_succ]
    refine k_aload_n hX.1 dX5_chooseOf_28 rfl rfl ?_
    refine k_getr (t := 29) hX.1 dX5_chooseOf_29 flX5_21 rfl (by decide) rfl rfl ?_
    refine k_iload_n hX.1 dX5_chooseOf_32 rfl rfl ?_
    refine k_iald (j := a) hX.1 dX5_chooseOf_33 rfl (by omega) (n := 3) rfl (by omega) (by omega) ?_
    refine k_top la1 ?_
    refine k_iload hX.1 dX5_chooseOf_34 rfl ?_
    refine k_icmp_lt (tgt := 51) hX.1 dX5_chooseOf_36 (by decide) (by omega) (by omega) (fun c_36 => ?_) (fun c_36 => ?_)
    · skip
      refine k_vret hX dX5_chooseOf_51 rfl ?_
      rw [if_neg (fun z => hf1 z.1)]
      exact ⟨rfl, pO.rf i6⟩
    · skip
      exact absurd c_36 (by omega)
