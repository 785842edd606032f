section KJ
variable {E : En} {M : Mt} {X : Cx} {pc : Nat} {ls : List (Option mv)} {st : List mv} {g : Mm}
theorem k_shr0 (hX : Xk E M X) {a : Int} (hd : decode M.2.1 pc = .ok (.ishr, 1)) (k : V E X (pc + 1) ls (vI a :: st) g) : V E X pc ls (vI 0 :: vI a :: st) g := by
  obtain ⟨p, e, R, s, m, args, below, meth, c, cells, slots, Q, A0⟩ := X
  obtain ⟨hx, hb, hml, hown, hts, hcs, hAA, hfr, hlo, hce, hsl⟩ := id hX
  intro H locs rl hP hS hl
  refine lv_ishr hx hb hd ?_
  have h0 : zi a >>> (zi 0 &&& 31) = zi a := sb_shr0 (zi a)
  rw [h0]
  exact k H locs rl hP hS hl
theorem k_bret {d : Nat} {post : Option mv → Mm → Prop} (hX : Wk E M X d post) {z : Int} (hd : decode M.2.1 pc = .ok (.ireturn, 1)) (hr : M.2.2.2 = some .byte) (hz : narrow .byte (.int (zi z)) = .int (zi z)) (hp : post (some (vI z)) g) : V E X pc ls [vI z] g := by
  obtain ⟨p, e, R, s, m, args, below, meth, c, cells, slots, Q, A0⟩ := X
  obtain ⟨⟨hx, hb, hml, hown, hts, hcs, hAA, hfr, hlo, hce, hsl⟩, ⟨rfl, hlocks, rfl⟩, hrt, -⟩ := id hX
  intro H locs rl hP hS hl
  exact W.zret hx hb (hrt.trans hr) hz (fun t ht hw => ⟨⟨some (vI z), g, rfl, hp, by rw [ht]; exact hP⟩, hS.F ht⟩) hS.2.2 hd hlocks
end KJ
theorem fJcs : Cond.fieldLink RJ0 38 "java/lang/String" "COMPACT_STRINGS" "Z" ∈ TB := inTB 321 (by decide +kernel) (by decide +kernel)
theorem fJco : Cond.fieldLink RJ0 15 "java/lang/String" "coder" "B" ∈ TB := inTB 1084 (by decide +kernel) (by decide +kernel)
theorem fJva : Cond.fieldLink RJ0 9 "java/lang/String" "value" "[B" ∈ TB := inTB 1085 (by decide +kernel) (by decide +kernel)
/-- the place of a letter among the kinds' letters -/
def kix (c : Int) : Int := if c = 112 then 0 else if c = 98 then 1 else if c = 115 then 2 else if c = 99 then 3 else if c = 104 then 4 else -1
theorem kix_at {j : Nat} (h : j < 5) : kix (pbs j) = (j : Int) := by
  have h1 : ∀ j, j < 5 → kix (pbs j) = (j : Int) := by decide
  exact h1 j h
theorem kix_no {c : Int} (h : ∀ i, i < 5 → pbs i ≠ c) : kix c = -1 := by
  have h0 : (112 : Int) ≠ c := h 0 (by omega)
  have h1 : (98 : Int) ≠ c := h 1 (by omega)
  have h2 : (115 : Int) ≠ c := h 2 (by omega)
  have h3 : (99 : Int) ≠ c := h 3 (by omega)
  have h4 : (104 : Int) ≠ c := h 4 (by omega)
  unfold kix
  rw [if_neg (fun q => h0 q.symm), if_neg (fun q => h1 q.symm), if_neg (fun q => h2 q.symm), if_neg (fun q => h3 q.symm), if_neg (fun q => h4 q.symm)]
theorem pbs_bd (j : Nat) : 0 ≤ pbs j ∧ pbs j < 128 := by
  by_cases h : j < 5
  · have h1 : ∀ j, j < 5 → 0 ≤ pbs j ∧ pbs j < 128 := by decide
    exact h1 j h
  · have : pbs j = 0 := by
      unfold pbs
      rw [List.getD_eq_getElem?_getD, List.getElem?_eq_none (by show 5 ≤ j; omega)]
      rfl
    omega
set_option maxRecDepth 100000 in
set_option maxHeartbeats 4000000 in
theorem cJ_coder (E : En) (g : Mm) : Fn E 1 mJ0_coder_7d493 [vR 901] g (vI 0) := by
  refine Ok_of gmJ0_coder_7d493 (by omega) (Nat.le_of_ble_eq_true rfl) (fun X hX => ?_)
  show V E X 0 [some (vR 901)] [] g
  refine k_csS hX.1 dJ0_coder_7d493_0 fJcs ?_
  refine k_if_eq (tgt := 13) hX.1 dJ0_coder_7d493_3 (by decide) (by omega) (fun c_3 => ?_) (fun c_3 => ?_)
  · skip
    exact absurd c_3 (by decide)
  · skip
    refine k_aload_n hX.1 dJ0_coder_7d493_6 rfl rfl ?_
    refine k_cod hX.1 dJ0_coder_7d493_7 fJco ?_
    refine k_goto (tgt := 14) hX.1 dJ0_coder_7d493_10 (by decide) ?_
    refine k_bret hX dJ0_coder_7d493_14 rfl (by decide +kernel) ?_
    exact ⟨rfl, rfl⟩

set_option maxRecDepth 100000 in
set_option maxHeartbeats 4000000 in
theorem cJ_isLatin1 (E : En) (g : Mm) : Fn E 1 mJ0_isLatin1_aae02 [vR 901] g (vI 1) := by
  refine Ok_of gmJ0_isLatin1_aae02 (by omega) (Nat.le_of_ble_eq_true rfl) (fun X hX => ?_)
  show V E X 0 [some (vR 901)] [] g
  refine k_csS hX.1 dJ0_isLatin1_aae02_0 fJcs ?_
  refine k_if_eq (tgt := 17) hX.1 dJ0_isLatin1_aae02_3 (by decide) (by omega) (fun c_3 => ?_) (fun c_3 => ?_)
  · skip
    exact absurd c_3 (by decide)
  · skip
    refine k_aload_n hX.1 dJ0_isLatin1_aae02_6 rfl rfl ?_
    refine k_cod hX.1 dJ0_isLatin1_aae02_7 fJco ?_
    refine k_if_ne (tgt := 17) hX.1 dJ0_isLatin1_aae02_10 (by decide) (by omega) (fun c_10 => ?_) (fun c_10 => ?_)
    · skip
      exact absurd rfl c_10
    · skip
      refine k_iconst hX.1 dJ0_isLatin1_aae02_13 ?_
      refine k_goto (tgt := 18) hX.1 dJ0_isLatin1_aae02_14 (by decide) ?_
      refine k_zret hX dJ0_isLatin1_aae02_18 rfl (by omega) ?_
      exact ⟨rfl, rfl⟩

set_option maxRecDepth 100000 in
set_option maxHeartbeats 4000000 in
theorem cJ_length (E : En) (g : Mm) : Fn E 2 mJ0_length_8abf5 [vR 901] g (vI 5) := by
  refine Ok_of gmJ0_length_8abf5 (by omega) (Nat.le_of_ble_eq_true rfl) (fun X hX => ?_)
  show V E X 0 [some (vR 901)] [] g
  refine k_aload_n hX.1 dJ0_length_8abf5_0 rfl rfl ?_
  refine k_val hX.1 dJ0_length_8abf5_1 fJva ?_
  refine k_vlen hX.1 dJ0_length_8abf5_4 ?_
  refine k_aload_n hX.1 dJ0_length_8abf5_5 rfl rfl ?_
  refine k_callTf (d2 := 1) (n := 0) (as := []) hX.1 dJ0_length_8abf5_6 lkJ0_335 (fit_of hX (by omega) gmJ0_coder_7d493) rfl rfl rfl (Nat.le_of_ble_eq_true rfl) (cJ_coder E g) ?_
  refine k_shr0 hX.1 dJ0_length_8abf5_9 ?_
  refine k_iret hX dJ0_length_8abf5_10 rfl ?_
  exact ⟨rfl, rfl⟩

set_option maxRecDepth 100000 in
set_option maxHeartbeats 4000000 in
theorem cJ_canEncode (E : En) (g : Mm) {c : Int} (hc : 0 ≤ c ∧ c < 128) : Fn E 1 mJ1_canEncode_9a6ad [vI c] g (vI 1) := by
  refine Ok_of gmJ1_canEncode_9a6ad (by omega) (Nat.le_of_ble_eq_true rfl) (fun X hX => ?_)
  show V E X 0 [some (vI c)] [] g
  refine k_iload_n hX.1 dJ1_canEncode_9a6ad_0 rfl rfl ?_
  refine k_if_lt (tgt := 15) hX.1 dJ1_canEncode_9a6ad_1 (by decide) (by omega) (fun c_1 => ?_) (fun c_1 => ?_)
  · skip
    exact absurd c_1 (by omega)
  · skip
    refine k_iload_n hX.1 dJ1_canEncode_9a6ad_4 rfl rfl ?_
    refine k_sipush hX.1 dJ1_canEncode_9a6ad_5 (by decide) ?_
    refine k_icmp_gt (tgt := 15) hX.1 dJ1_canEncode_9a6ad_8 (by decide) (by omega) (by omega) (fun c_8 => ?_) (fun c_8 => ?_)
    · skip
      exact absurd c_8 (by omega)
    · skip
      refine k_iconst hX.1 dJ1_canEncode_9a6ad_11 ?_
      refine k_goto (tgt := 16) hX.1 dJ1_canEncode_9a6ad_12 (by decide) ?_
      refine k_zret hX dJ1_canEncode_9a6ad_16 rfl (by omega) ?_
      exact ⟨rfl, rfl⟩

set_option maxRecDepth 100000 in
set_option maxHeartbeats 4000000 in
theorem lp_ixc (E : En) (g : Mm) {c : Int} (hc : 0 ≤ c ∧ c < 128) {X : Cx} (hX : Wk E mJ1_indexOfChar_4cfef X 1 (fun r g' => r = some (vI (kix c)) ∧ g' = g)) : ∀ (m : Nat) (j : Nat), m + j = 5 ∧ (∀ i, i < j → pbs i ≠ c) → V E X 7 [some (vR 902), some (vI c), some (vI 0), some (vI 5), some (vI c), some (vI (j : Int))] [] g := by
  intro m
  induction m with
  | zero =>
    intro j hm
    refine k_iload hX.1 dJ1_indexOfChar_4cfef_7 rfl ?_
    refine k_iload_n hX.1 dJ1_indexOfChar_4cfef_9 rfl rfl ?_
    refine k_icmp_ge (tgt := 31) hX.1 dJ1_indexOfChar_4cfef_10 (by decide) (by omega) (by omega) (fun c_10 => ?_) (fun c_10 => ?_)
    · skip
      refine k_iconst hX.1 dJ1_indexOfChar_4cfef_31 ?_
      refine k_iret hX dJ1_indexOfChar_4cfef_32 rfl ?_
      refine ⟨?_, rfl⟩
      rw [kix_no (fun i hi => hm.2 i (by omega))]
    · skip
      exact absurd c_10 (by omega)
  | succ m ih =>
    intro j hm
    have pb := pbs_bd j
    refine k_iload hX.1 dJ1_indexOfChar_4cfef_7 rfl ?_
    refine k_iload_n hX.1 dJ1_indexOfChar_4cfef_9 rfl rfl ?_
    refine k_icmp_ge (tgt := 31) hX.1 dJ1_indexOfChar_4cfef_10 (by decide) (by omega) (by omega) (fun c_10 => ?_) (fun c_10 => ?_)
    · skip
      exact absurd c_10 (by omega)
    · skip
      refine k_aload_n hX.1 dJ1_indexOfChar_4cfef_13 rfl rfl ?_
      refine k_iload hX.1 dJ1_indexOfChar_4cfef_14 rfl ?_
      refine k_vld (j := j) hX.1 dJ1_indexOfChar_4cfef_16 (by omega) (by omega) (by omega) ?_
      refine k_iload hX.1 dJ1_indexOfChar_4cfef_17 rfl ?_
      refine k_icmp_ne (tgt := 25) hX.1 dJ1_indexOfChar_4cfef_19 (by decide) (by omega) (by omega) (fun c_19 => ?_) (fun c_19 => ?_)
      · skip
        refine k_iinc hX.1 dJ1_indexOfChar_4cfef_25 rfl (by decide) rfl rfl ?_
        try simp only [List.set_cons_zero, List.set_cons_succ]
        refine k_goto (tgt := 7) hX.1 dJ1_indexOfChar_4cfef_28 (by decide) ?_
        exact ih (j + 1) ⟨by omega, fun i hi => by
          by_cases e : i = j
          · subst e; exact c_19
          · exact hm.2 i (by omega)⟩
      · skip
        refine k_iload hX.1 dJ1_indexOfChar_4cfef_22 rfl ?_
        refine k_iret hX dJ1_indexOfChar_4cfef_24 rfl ?_
        refine ⟨?_, rfl⟩
        have h0 : pbs j = c := by omega
        rw [← h0, kix_at (by omega)]

set_option maxRecDepth 100000 in
set_option maxHeartbeats 4000000 in
theorem cJ_ixc (E : En) (g : Mm) {c : Int} (hc : 0 ≤ c ∧ c < 128) : Fn E 1 mJ1_indexOfChar_4cfef [vR 902, vI c, vI 0, vI 5] g (vI (kix c)) := by
  refine Ok_of gmJ1_indexOfChar_4cfef (by omega) (Nat.le_of_ble_eq_true rfl) (fun X hX => ?_)
  show V E X 0 [some (vR 902), some (vI c), some (vI 0), some (vI 5), none, none] [] g
  refine k_iload_n hX.1 dJ1_indexOfChar_4cfef_0 rfl rfl ?_
  refine k_i2b hX.1 dJ1_indexOfChar_4cfef_1 (by omega) ?_
  refine k_istore hX.1 dJ1_indexOfChar_4cfef_2 (by decide) rfl rfl ?_
  try simp only [List.set_cons_zero, List.set_cons_succ]
  refine k_iload_n hX.1 dJ1_indexOfChar_4cfef_4 rfl rfl ?_
  refine k_istore hX.1 dJ1_indexOfChar_4cfef_5 (by decide) rfl rfl ?_
  try simp only [List.set_cons_zero, List.set_cons_succ]
  exact lp_ixc E g hc hX 5 0 ⟨rfl, fun i hi => absurd hi (Nat.not_lt_zero i)⟩

set_option maxRecDepth 100000 in
set_option maxHeartbeats 4000000 in
theorem cJ_ix1 (E : En) (g : Mm) {c : Int} (hc : 0 ≤ c ∧ c < 128) : Fn E 2 mJ1_indexOf_4cfef [vR 902, vI c, vI 0, vI 5] g (vI (kix c)) := by
  refine Ok_of gmJ1_indexOf_4cfef (by omega) (Nat.le_of_ble_eq_true rfl) (fun X hX => ?_)
  show V E X 0 [some (vR 902), some (vI c), some (vI 0), some (vI 5)] [] g
  refine k_iload_n hX.1 dJ1_indexOf_4cfef_0 rfl rfl ?_
  refine k_callSf (d2 := 1) (n := 1) (as := [_]) hX.1 dJ1_indexOf_4cfef_1 lkJ1_88 (fit_of hX (by omega) gmJ1_canEncode_9a6ad) rfl rfl (Nat.le_of_ble_eq_true rfl) (cJ_canEncode E g hc) ?_
  refine k_if_ne (tgt := 9) hX.1 dJ1_indexOf_4cfef_4 (by decide) (by omega) (fun c_4 => ?_) (fun c_4 => ?_)
  · skip
    refine k_iload_n hX.1 dJ1_indexOf_4cfef_9 rfl rfl ?_
    refine k_iconst hX.1 dJ1_indexOf_4cfef_10 ?_
    refine k_max hX.1 dJ1_indexOf_4cfef_11 lkJ1_92 (by omega) (by omega) (Nat.le_of_ble_eq_true rfl) ?_
    refine k_istore_n hX.1 dJ1_indexOf_4cfef_14 rfl (by decide) rfl rfl ?_
    try simp only [List.set_cons_zero, List.set_cons_succ]
    refine k_iload_n hX.1 dJ1_indexOf_4cfef_15 rfl rfl ?_
    refine k_aload_n hX.1 dJ1_indexOf_4cfef_16 rfl rfl ?_
    refine k_vlen hX.1 dJ1_indexOf_4cfef_17 ?_
    refine k_min hX.1 dJ1_indexOf_4cfef_18 lkJ1_38 (by omega) (by omega) (Nat.le_of_ble_eq_true rfl) ?_
    refine k_istore_n hX.1 dJ1_indexOf_4cfef_21 rfl (by decide) rfl rfl ?_
    try simp only [List.set_cons_zero, List.set_cons_succ]
    refine k_iload_n hX.1 dJ1_indexOf_4cfef_22 rfl rfl ?_
    refine k_iload_n hX.1 dJ1_indexOf_4cfef_23 rfl rfl ?_
    refine k_icmp_lt (tgt := 29) hX.1 dJ1_indexOf_4cfef_24 (by decide) (by omega) (by omega) (fun c_24 => ?_) (fun c_24 => ?_)
    · skip
      refine k_aload_n hX.1 dJ1_indexOf_4cfef_29 rfl rfl ?_
      refine k_iload_n hX.1 dJ1_indexOf_4cfef_30 rfl rfl ?_
      refine k_iload_n hX.1 dJ1_indexOf_4cfef_31 rfl rfl ?_
      refine k_iload_n hX.1 dJ1_indexOf_4cfef_32 rfl rfl ?_
      refine k_callSf (d2 := 1) (n := 4) (as := [_, _, _, _]) hX.1 dJ1_indexOf_4cfef_33 lkJ1_95 (fit_of hX (by omega) gmJ1_indexOfChar_4cfef) rfl rfl (Nat.le_of_ble_eq_true rfl) (cJ_ixc E g hc) ?_
      refine k_iret hX dJ1_indexOf_4cfef_36 rfl ?_
      exact ⟨rfl, rfl⟩
    · skip
      exact absurd c_24 (by decide)
  · skip
    exact absurd c_4 (by decide)

set_option maxRecDepth 100000 in
set_option maxHeartbeats 4000000 in
theorem cJ_ix2 (E : En) (g : Mm) {c : Int} (hc : 0 ≤ c ∧ c < 128) : Fn E 3 mJ0_indexOf_7cf53 [vR 901, vI c, vI 0] g (vI (kix c)) := by
  refine Ok_of gmJ0_indexOf_7cf53 (by omega) (Nat.le_of_ble_eq_true rfl) (fun X hX => ?_)
  show V E X 0 [some (vR 901), some (vI c), some (vI 0)] [] g
  refine k_aload_n hX.1 dJ0_indexOf_7cf53_0 rfl rfl ?_
  refine k_callTf (d2 := 1) (n := 0) (as := []) hX.1 dJ0_indexOf_7cf53_1 lkJ0_492 (fit_of hX (by omega) gmJ0_isLatin1_aae02) rfl rfl rfl (Nat.le_of_ble_eq_true rfl) (cJ_isLatin1 E g) ?_
  refine k_if_eq (tgt := 23) hX.1 dJ0_indexOf_7cf53_4 (by decide) (by omega) (fun c_4 => ?_) (fun c_4 => ?_)
  · skip
    exact absurd c_4 (by decide)
  · skip
    refine k_aload_n hX.1 dJ0_indexOf_7cf53_7 rfl rfl ?_
    refine k_val hX.1 dJ0_indexOf_7cf53_8 fJva ?_
    refine k_iload_n hX.1 dJ0_indexOf_7cf53_11 rfl rfl ?_
    refine k_iload_n hX.1 dJ0_indexOf_7cf53_12 rfl rfl ?_
    refine k_aload_n hX.1 dJ0_indexOf_7cf53_13 rfl rfl ?_
    refine k_callTf (d2 := 2) (n := 0) (as := []) hX.1 dJ0_indexOf_7cf53_14 lkJ0_505 (fit_of hX (by omega) gmJ0_length_8abf5) rfl rfl rfl (Nat.le_of_ble_eq_true rfl) (cJ_length E g) ?_
    refine k_callSf (d2 := 2) (n := 4) (as := [_, _, _, _]) hX.1 dJ0_indexOf_7cf53_17 lkJ0_637 (fit_of hX (by omega) gmJ1_indexOf_4cfef) rfl rfl (Nat.le_of_ble_eq_true rfl) (cJ_ix1 E g hc) ?_
    refine k_goto (tgt := 36) hX.1 dJ0_indexOf_7cf53_20 (by decide) ?_
    refine k_iret hX dJ0_indexOf_7cf53_36 rfl ?_
    exact ⟨rfl, rfl⟩

set_option maxRecDepth 100000 in
set_option maxHeartbeats 4000000 in
theorem cJ_ix (E : En) (g : Mm) {c : Int} (hc : 0 ≤ c ∧ c < 128) : Fn E 4 mJ0_indexOf_0f7a4 [vR 901, vI c] g (vI (kix c)) := by
  refine Ok_of gmJ0_indexOf_0f7a4 (by omega) (Nat.le_of_ble_eq_true rfl) (fun X hX => ?_)
  show V E X 0 [some (vR 901), some (vI c)] [] g
  refine k_aload_n hX.1 dJ0_indexOf_0f7a4_0 rfl rfl ?_
  refine k_iload_n hX.1 dJ0_indexOf_0f7a4_1 rfl rfl ?_
  refine k_iconst hX.1 dJ0_indexOf_0f7a4_2 ?_
  refine k_callTf (d2 := 3) (n := 2) (as := [_, _]) hX.1 dJ0_indexOf_0f7a4_3 lkJ0_633 (fit_of hX (by omega) gmJ0_indexOf_7cf53) rfl rfl rfl (Nat.le_of_ble_eq_true rfl) (cJ_ix2 E g hc) ?_
  refine k_iret hX dJ0_indexOf_0f7a4_6 rfl ?_
  exact ⟨rfl, rfl⟩
