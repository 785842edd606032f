set_option maxRecDepth 100000 in
set_option maxHeartbeats 4000000 in
theorem lpM_lay1 (E : En) {A : St} {g : Mm} {n : Int} (hM : MW A g) (hW : WW A n) {c : Nat} (hc : c < 100000) (hl : ∀ p : Nat, (p : Int) < A 12 0 → A 2 p = -1 → 0 < nl_ A) {X : Cx} (hX : Wk E mX8_layPlan X 2 (fun r g' => r = some (vI (okI A c (nl_ A))) ∧ qN A g c g')) : ∀ (m : Nat) (t : Nat) (h : Mm), m + t = 3 ∧ qF g h ∧ (∀ q, q < t → h.1 61 q = 0) → V E X 4 [some (vR 46), some (vI (c : Int)), some (vI (c : Int)), some (vI (t : Int)), none, none, none] [] h := by
  obtain ⟨⟨hm1, hm2, hm3⟩, hmp, hml⟩ := id hM
  obtain ⟨⟨hw1, hw2, hw3, hw4, hw5, hw6, hw7, hw8⟩, hwp, hwl⟩ := id hW
  have hnl : ((nl_ A : Nat) : Int) = A 12 2 := by unfold nl_; omega
  have e0 : (c : Int) = ((c / Pl A 0 : Nat) : Int) := by rw [Pl, Nat.div_one]
  intro m
  induction m with
  | zero =>
    intro t h ⟨hm, hy, hv⟩
    refine k_iload_n hX.1 dX8_layPlan_4 rfl rfl ?_
    refine k_iconst hX.1 dX8_layPlan_5 ?_
    refine k_icmp_ge (tgt := 22) hX.1 dX8_layPlan_6 (by decide) (by omega) (by omega) (fun c_6 => ?_) (fun c_6 => ?_)
    · skip
      refine k_aload_n hX.1 dX8_layPlan_22 rfl rfl ?_
      refine k_geti hX.1 dX8_layPlan_23 flX8_119 rfl (by decide) rfl ?_
      refine k_top (b := A 12 0) (by rw [hy.2 46 (by omega)]; exact hm1) ?_
      refine k_iconst hX.1 dX8_layPlan_26 ?_
      refine k_isub hX.1 dX8_layPlan_27 ?_
      refine k_istore_n hX.1 dX8_layPlan_28 rfl (by decide) rfl rfl ?_
      try simp only [List.set_cons_zero, List.set_cons_succ]
      have hq := lpM_lay2 E hM hW hc hl hX (A 12 0).toNat 0 (A 12 0 - 1) h ⟨by omega, by omega, hy, fun t ht => by rw [hv t (by omega)]; rfl, fun q h1 h2 => by omega⟩
      rw [← e0] at hq
      exact hq
    · skip
      exact absurd c_6 (by omega)
  | succ m ih =>
    intro t h ⟨hm, hy, hv⟩
    refine k_iload_n hX.1 dX8_layPlan_4 rfl rfl ?_
    refine k_iconst hX.1 dX8_layPlan_5 ?_
    refine k_icmp_ge (tgt := 22) hX.1 dX8_layPlan_6 (by decide) (by omega) (by omega) (fun c_6 => ?_) (fun c_6 => ?_)
    · skip
      exact absurd c_6 (by omega)
    · skip
      refine k_aload_n hX.1 dX8_layPlan_9 rfl rfl ?_
      refine k_getr (t := 61) hX.1 dX8_layPlan_10 flX8_53 rfl (by decide) rfl rfl ?_
      refine k_iload_n hX.1 dX8_layPlan_13 rfl rfl ?_
      refine k_iconst hX.1 dX8_layPlan_14 ?_
      refine k_iast (j := t) hX.1 dX8_layPlan_15 rfl (by omega) (n := 3) rfl (by omega) (by omega) ?_
      refine k_iinc hX.1 dX8_layPlan_16 rfl (by decide) rfl rfl ?_
      try simp only [List.set_cons_zero, List.set_cons_succ]
      refine k_goto (tgt := 4) hX.1 dX8_layPlan_19 (by decide) ?_
      refine ih (t + 1) _ ⟨by omega, qF_w hy (by omega), fun q hq => ?_⟩
      by_cases e : q = t
      · subst e; rw [wr_at]
      · rw [wr_1, if_neg (by omega)]; exact hv q (by omega)

set_option maxRecDepth 100000 in
set_option maxHeartbeats 4000000 in
theorem cM_layPlan (E : En) {A : St} {g : Mm} {n : Int} (hM : MW A g) (hW : WW A n) {c : Nat} (hc : c < 100000) (hl : ∀ p : Nat, (p : Int) < A 12 0 → A 2 p = -1 → 0 < nl_ A) : Ok E 2 mX8_layPlan [vR 46, vI (c : Int)] g (fun r g' => r = some (vI (okI A c (nl_ A))) ∧ qN A g c g') := by
  obtain ⟨⟨hm1, hm2, hm3⟩, hmp, hml⟩ := id hM
  obtain ⟨⟨hw1, hw2, hw3, hw4, hw5, hw6, hw7, hw8⟩, hwp, hwl⟩ := id hW
  have hnl : ((nl_ A : Nat) : Int) = A 12 2 := by unfold nl_; omega
  refine Ok_of gmX8_layPlan (by omega) (Nat.le_of_ble_eq_true rfl) (fun X hX => ?_)
  show V E X 0 [some (vR 46), some (vI (c : Int)), none, none, none, none, none] [] g
  refine k_iload_n hX.1 dX8_layPlan_0 rfl rfl ?_
  refine k_istore_n hX.1 dX8_layPlan_1 rfl (by decide) rfl rfl ?_
  try simp only [List.set_cons_zero, List.set_cons_succ]
  refine k_iconst hX.1 dX8_layPlan_2 ?_
  refine k_istore_n hX.1 dX8_layPlan_3 rfl (by decide) rfl rfl ?_
  try simp only [List.set_cons_zero, List.set_cons_succ]
  exact lpM_lay1 E hM hW hc hl hX 3 0 g ⟨by omega, qF_rf g, fun q hq => by omega⟩

theorem snC_bd {A : St} {n : Int} (hW : WW A n) (hl : ∀ p : Nat, (p : Int) < A 12 0 → A 2 p = -1 → 0 < nl_ A) (c : Nat) : 0 ≤ snC A c ∧ snC A c ≤ 1600 := by
  have h := sm_bd2 (f := fun q => s2 A q (pt A c q) (pt A c (q + 1))) (c := 320) ((A 12 0).toNat - 1) (fun q hq => by
    have h1 := pt_bd hW hl (p := q) (by omega) c
    have h2 := pt_bd hW hl (p := q + 1) (by omega) c
    have := s2_bd (A := A) (p := q) (a := pt A c q) (b := pt A c (q + 1)) (c := 40) (by omega)
    omega)
  have h5 := hW.1.2.1
  unfold snC
  omega
abbrev bst (A : St) (c : Nat) : BS := fN (FP A (A 12 0).toNat 0 (rws A) 0 (fun _ => 0)) c (0, 0, fun _ => 0)
def relB (A : St) (c : Nat) : Prop := ((mb A c).1 = -1 ∧ (mb A c).2 = 268435456 ∧ (bst A c).1 = 0) ∨ ∃ k : Nat, k < c ∧ (mb A c).1 = (k : Int) ∧ (mb A c).2 = snC A k ∧ bst A c = (1, snC A k, cdT A k (A 12 0).toNat (fun _ => 0))
theorem snT_all {A : St} (hp : 1 ≤ A 12 0) (c : Nat) : snT A c (A 12 0).toNat 0 = snC A c := by
  obtain ⟨r, hr⟩ : ∃ r, (A 12 0).toNat = r + 1 := ⟨(A 12 0).toNat - 1, by omega⟩
  have h := snT_sum A c r 0 (by omega)
  have hz : rp A r = 0 := by unfold rp; omega
  rw [hr, snT, hz, ← h, sm]
  unfold sw
  rw [if_pos rfl]
theorem relB_s {A : St} {n : Int} (hW : WW A n) (hl : ∀ p : Nat, (p : Int) < A 12 0 → A 2 p = -1 → 0 < nl_ A) (hp : 1 ≤ A 12 0) {c : Nat} (h : relB A c) : relB A (c + 1) := by
  have hb := snC_bd hW hl c
  have e : bst A (c + 1) = FP A (A 12 0).toNat 0 (rws A) 0 (fun _ => 0) c (bst A c) := rfl
  unfold FP at e
  rw [snT_all hp, Int.zero_add] at e
  unfold relB
  rw [e]
  by_cases hc : okC A c
  · rw [if_pos hc]
    unfold ub
    rcases h with ⟨h1, h2, h3⟩ | ⟨k, h1, h2, h3, h4⟩
    · rw [if_pos (Or.inl h3)]
      refine Or.inr ⟨c, by omega, ?_, ?_, rfl⟩
      · rw [mb, if_pos ⟨hc, by omega⟩]
      · rw [mb, if_pos ⟨hc, by omega⟩]
    · have hbk := snC_bd hW hl k
      by_cases hs : snC A c < snC A k
      · rw [if_pos (Or.inr (by rw [h4]; exact hs))]
        refine Or.inr ⟨c, by omega, ?_, ?_, rfl⟩
        · rw [mb, if_pos ⟨hc, by omega⟩]
        · rw [mb, if_pos ⟨hc, by omega⟩]
      · rw [if_neg (by rw [h4]; show ¬ ((1 : Int) = 0 ∨ snC A c < snC A k); omega)]
        refine Or.inr ⟨k, by omega, ?_, ?_, h4⟩
        · rw [mb, if_neg (fun z => by have := z.2; omega)]; exact h2
        · rw [mb, if_neg (fun z => by have := z.2; omega)]; exact h3
  · rw [if_neg hc]
    have em : mb A (c + 1) = mb A c := by rw [mb, if_neg (fun z => hc z.1)]
    rw [em]
    rcases h with h | ⟨k, h1, h2⟩
    · exact Or.inl h
    · exact Or.inr ⟨k, by omega, h2⟩
theorem relB_all {A : St} {n : Int} (hW : WW A n) (hl : ∀ p : Nat, (p : Int) < A 12 0 → A 2 p = -1 → 0 < nl_ A) (hp : 1 ≤ A 12 0) : ∀ c, relB A c
  | 0 => Or.inl ⟨rfl, rfl, rfl⟩
  | c + 1 => relB_s hW hl hp (relB_all hW hl hp c)
theorem lp0_bst {A : St} {n : Int} (hW : WW A n) : lp0 A = bst A (Pl A (A 12 0).toNat) := by
  unfold lp0
  refine tr_FP hW (A 12 0).toNat 0 0 _ 0 _ _ (by omega) (fun t ht => ?_)
  have h := hW.2.2 t (by unfold nl_ at ht; omega)
  obtain ⟨-, h1, h2⟩ := h
  unfold rws
  omega
theorem no_open {A : St} : ∀ r, r ≤ (A 12 0).toNat → Pl A r = 0 ∨ ∀ p : Nat, rp A p < r → p < (A 12 0).toNat → A 2 p = -1 → 0 < nl_ A
  | 0, _ => Or.inr (fun p hp => by omega)
  | r + 1, h => by
    rcases no_open (A := A) r (by omega) with z | z
    · left; rw [Pl, z]; split <;> simp
    · by_cases ho : A 2 (rp A r) = -1
      · by_cases hn : nl_ A = 0
        · left; rw [Pl, if_pos ho, hn]; simp
        · exact Or.inr (fun p _ _ _ => by omega)
      · refine Or.inr (fun p h1 h2 h3 => ?_)
        by_cases y : rp A p = r
        · rw [← y, rp_rp h2] at ho; exact absurd h3 ho
        · exact z p (by omega) h2 h3
def rL (A : St) (w : Int) : Int := if (lp0 A).1 = 0 then -1 else if w = 0 then (lp0 A).2.1 else if w - 10 < A 12 0 then (lp0 A).2.2 (w - 10).toNat else -1
set_option maxRecDepth 100000 in
set_option maxHeartbeats 4000000 in
theorem lpM_least (E : En) {A : St} {g : Mm} {n : Int} (hM : MW A g) (hW : WW A n) {w : Int} (hw : w = 0 ∨ (10 ≤ w ∧ w ≤ 14)) (hp : 1 ≤ A 12 0) {X : Cx} (hX : Wk E mX8_leastNow X 4 (fun r g' => r = some (vI (rL A w)) ∧ qF g g')) : ∀ (m : Nat) (c : Nat) (h : Mm), m + c = Pl A (A 12 0).toNat ∧ qF g h → V E X 8 [some (vR 46), some (vI w), some (vI (mb A c).1), some (vI (mb A c).2), some (vI (c : Int)), none] [] h := by
  obtain ⟨⟨hm1, hm2, hm3⟩, hmp, hml⟩ := id hM
  obtain ⟨⟨hw1, hw2, hw3, hw4, hw5, hw6, hw7, hw8⟩, hwp, hwl⟩ := id hW
  have hnl : ((nl_ A : Nat) : Int) = A 12 2 := by unfold nl_; omega
  have hpb := Pl_bd5 hW
  intro m
  induction m with
  | zero =>
    intro c h ⟨hm, hy⟩
    obtain rfl : c = Pl A (A 12 0).toNat := by omega
    have hcase : ((mb A (Pl A (A 12 0).toNat)).1 = -1 ∧ (lp0 A).1 = 0) ∨ ∃ k : Nat, k < Pl A (A 12 0).toNat ∧ (mb A (Pl A (A 12 0).toNat)).1 = (k : Int) ∧ (mb A (Pl A (A 12 0).toNat)).2 = snC A k ∧ lp0 A = (1, snC A k, cdT A k (A 12 0).toNat (fun _ => 0)) ∧ ∀ p : Nat, (p : Int) < A 12 0 → A 2 p = -1 → 0 < nl_ A := by
      have hb := lp0_bst hW
      rcases no_open (A := A) (A 12 0).toNat (Nat.le_refl _) with z | z
      · rw [hb, z]; exact Or.inl ⟨rfl, rfl⟩
      · have hl : ∀ p : Nat, (p : Int) < A 12 0 → A 2 p = -1 → 0 < nl_ A := fun p h1 h2 => z p (by unfold rp; omega) (by omega) h2
        rw [hb]
        rcases relB_all hW hl hp (Pl A (A 12 0).toNat) with ⟨a, b, d⟩ | ⟨k, a, b, d, e⟩
        · exact Or.inl ⟨a, d⟩
        · exact Or.inr ⟨k, a, b, d, e, hl⟩
    refine k_iload hX.1 dX8_leastNow_8 rfl ?_
    refine k_aload_n hX.1 dX8_leastNow_10 rfl rfl ?_
    refine k_callVf (d2 := 2) (n := 0) (as := []) hX.1 dX8_leastNow_11 lkX8_185 (fit_of hX (by omega) gmX8_plans) rfl rfl (by decide) rfl rfl rfl (Nat.le_of_ble_eq_true rfl) (cM_plans E (MW_qF hM hy) hW) ?_
    refine k_icmp_ge (tgt := 64) hX.1 dX8_leastNow_14 (by decide) (by omega) (by omega) (fun c_14 => ?_) (fun c_14 => ?_)
    · skip
      rcases hcase with ⟨a1, a2⟩ | ⟨k, a1, a2, a3, a4, hl⟩
      · skip
        refine k_iload_n hX.1 dX8_leastNow_64 rfl rfl ?_
        refine k_iconst hX.1 dX8_leastNow_65 ?_
        refine k_icmp_eq (tgt := 73) hX.1 dX8_leastNow_66 (by decide) (by omega) (by omega) (fun c_66 => ?_) (fun c_66 => ?_)
        · skip
          refine k_iload_n hX.1 dX8_leastNow_73 rfl rfl ?_
          refine k_iconst hX.1 dX8_leastNow_74 ?_
          refine k_icmp_ne (tgt := 82) hX.1 dX8_leastNow_75 (by decide) (by omega) (by omega) (fun c_75 => ?_) (fun c_75 => ?_)
          · skip
            exact absurd c_75 (by omega)
          · skip
            refine k_iconst hX.1 dX8_leastNow_78 ?_
            refine k_goto (tgt := 83) hX.1 dX8_leastNow_79 (by decide) ?_
            refine k_iret hX dX8_leastNow_83 rfl ?_
            exact ⟨by unfold rL; rw [if_pos a2], hy⟩
        · skip
          exact absurd c_66 (by omega)
      · rw [a2, a3]
        have hsk := snC_bd hW hl k
        have hr : rL A w = if w = 0 then snC A k else if w - 10 < A 12 0 then pcd A k (w - 10).toNat else -1 := by
          unfold rL
          rw [a4]
          show (if (1 : Int) = 0 then -1 else if w = 0 then snC A k else if w - 10 < A 12 0 then cdT A k (A 12 0).toNat (fun _ => 0) (w - 10).toNat else -1) = _
          rw [if_neg (show ¬ (1 : Int) = 0 by omega)]
          by_cases z : w - 10 < A 12 0
          · by_cases y : w = 0
            · rw [if_pos y, if_pos y]
            · rw [if_neg y, if_neg y, if_pos z, if_pos z, cdT_lt A k (A 12 0).toNat _ _ (Nat.le_refl _) (by omega), if_neg (by omega)]
          · rw [if_neg z, if_neg z]
        refine k_iload_n hX.1 dX8_leastNow_64 rfl rfl ?_
        refine k_iconst hX.1 dX8_leastNow_65 ?_
        refine k_icmp_eq (tgt := 73) hX.1 dX8_leastNow_66 (by decide) (by omega) (by omega) (fun c_66 => ?_) (fun c_66 => ?_)
        · skip
          exact absurd c_66 (by omega)
        · skip
          refine k_iload_n hX.1 dX8_leastNow_69 rfl rfl ?_
          refine k_if_ne (tgt := 84) hX.1 dX8_leastNow_70 (by decide) (by omega) (fun c_70 => ?_) (fun c_70 => ?_)
          · skip
            refine k_aload_n hX.1 dX8_leastNow_84 rfl rfl ?_
            refine k_iload_n hX.1 dX8_leastNow_85 rfl rfl ?_
            refine k_callV (d2 := 2) (n := 1) (as := [_]) hX.1 dX8_leastNow_86 lkX8_188 (fit_of hX (by omega) gmX8_layPlan) rfl rfl (by decide) rfl rfl rfl (Nat.le_of_ble_eq_true rfl) (cM_layPlan E (MW_qF hM hy) hW (c := k) (by omega) hl) (fun r_86 g_86 q_86 => ?_)
            obtain ⟨rfl, hN⟩ := q_86
            show V E X 89 _ (vI _ :: _) _
            have hy2 := qF_tr hy hN.1
            refine k_pop hX.1 dX8_leastNow_89 ?_
            refine k_iload_n hX.1 dX8_leastNow_90 rfl rfl ?_
            refine k_bipush hX.1 dX8_leastNow_91 (by decide) ?_
            refine k_isub hX.1 dX8_leastNow_93 ?_
            refine k_aload_n hX.1 dX8_leastNow_94 rfl rfl ?_
            refine k_geti hX.1 dX8_leastNow_95 flX8_119 rfl (by decide) rfl ?_
            refine k_top (b := A 12 0) (by rw [hy2.2 46 (by omega)]; exact hm1) ?_
            refine k_icmp_ge (tgt := 113) hX.1 dX8_leastNow_98 (by decide) (by omega) (by omega) (fun c_98 => ?_) (fun c_98 => ?_)
            · skip
              refine k_iconst hX.1 dX8_leastNow_113 ?_
              refine k_iret hX dX8_leastNow_114 rfl ?_
              refine ⟨?_, hy2⟩
              rw [hr, if_neg (by omega)]
              first | rw [if_pos (by omega), hq, Int.toNat_natCast] | rw [if_neg (by omega)]
            · skip
              obtain ⟨q, hq⟩ : ∃ q : Nat, w - 10 = (q : Int) := ⟨(w - 10).toNat, by omega⟩
              refine k_aload_n hX.1 dX8_leastNow_101 rfl rfl ?_
              refine k_getr (t := 60) hX.1 dX8_leastNow_102 flX8_50 rfl (by decide) rfl rfl ?_
              refine k_iload_n hX.1 dX8_leastNow_105 rfl rfl ?_
              refine k_bipush hX.1 dX8_leastNow_106 (by decide) ?_
              refine k_isub hX.1 dX8_leastNow_108 ?_
              refine k_iald (j := q) hX.1 dX8_leastNow_109 rfl (by omega) (n := 5) rfl (by omega) (by omega) ?_
              refine k_top (hN.2 q (by omega)).2 ?_
              refine k_goto (tgt := 114) hX.1 dX8_leastNow_110 (by decide) ?_
              refine k_iret hX dX8_leastNow_114 rfl ?_
              refine ⟨?_, hy2⟩
              rw [hr, if_neg (by omega)]
              first | rw [if_pos (by omega), hq, Int.toNat_natCast] | rw [if_neg (by omega)]
          · skip
            have w0 : w = 0 := by omega
            refine k_iload_n hX.1 dX8_leastNow_73 rfl rfl ?_
            refine k_iconst hX.1 dX8_leastNow_74 ?_
            refine k_icmp_ne (tgt := 82) hX.1 dX8_leastNow_75 (by decide) (by omega) (by omega) (fun c_75 => ?_) (fun c_75 => ?_)
            · skip
              refine k_iload_n hX.1 dX8_leastNow_82 rfl rfl ?_
              refine k_iret hX dX8_leastNow_83 rfl ?_
              exact ⟨by rw [hr, if_pos w0], hy⟩
            · skip
              exact absurd c_75 (by omega)
      
    · skip
      exact absurd c_14 (by omega)
  | succ m ih =>
    intro c h ⟨hm, hy⟩
    have hl : ∀ p : Nat, (p : Int) < A 12 0 → A 2 p = -1 → 0 < nl_ A := by
      rcases no_open (A := A) (A 12 0).toNat (Nat.le_refl _) with z | z
      · omega
      · exact fun p h1 h2 => z p (by unfold rp; omega) (by omega) h2
    have hsb := snC_bd hW hl c
    have hrb := relB_all hW hl hp c
    have h1 : -1 ≤ (mb A c).1 ∧ (mb A c).1 ≤ 60000 ∧ 0 ≤ (mb A c).2 ∧ (mb A c).2 ≤ 268435456 := by
      rcases hrb with ⟨a, b, -⟩ | ⟨k, a, b, d, -⟩
      · omega
      · have := snC_bd hW hl k; omega
    have k1 := okI_01 A c (nl_ A)
    have k2 := okI_iff A c (nl_ A)
    refine k_iload hX.1 dX8_leastNow_8 rfl ?_
    refine k_aload_n hX.1 dX8_leastNow_10 rfl rfl ?_
    refine k_callVf (d2 := 2) (n := 0) (as := []) hX.1 dX8_leastNow_11 lkX8_185 (fit_of hX (by omega) gmX8_plans) rfl rfl (by decide) rfl rfl rfl (Nat.le_of_ble_eq_true rfl) (cM_plans E (MW_qF hM hy) hW) ?_
    refine k_icmp_ge (tgt := 64) hX.1 dX8_leastNow_14 (by decide) (by omega) (by omega) (fun c_14 => ?_) (fun c_14 => ?_)
    · skip
      exact absurd c_14 (by omega)
    · skip
      refine k_aload_n hX.1 dX8_leastNow_17 rfl rfl ?_
      refine k_iload hX.1 dX8_leastNow_18 rfl ?_
      refine k_callV (d2 := 2) (n := 1) (as := [_]) hX.1 dX8_leastNow_20 lkX8_188 (fit_of hX (by omega) gmX8_layPlan) rfl rfl (by decide) rfl rfl rfl (Nat.le_of_ble_eq_true rfl) (cM_layPlan E (MW_qF hM hy) hW (c := c) (by omega) hl) (fun r_20 g_20 q_20 => ?_)
      obtain ⟨rfl, hN⟩ := q_20
      show V E X 23 _ (vI _ :: _) _
      have hy2 := qF_tr hy hN.1
      refine k_if_eq (tgt := 58) hX.1 dX8_leastNow_23 (by decide) (by omega) (fun c_23 => ?_) (fun c_23 => ?_)
      · skip
        have em : mb A (c + 1) = mb A c := by rw [mb, if_neg (fun z => by have := k2.2 z.1; omega)]
        refine k_iinc hX.1 dX8_leastNow_58 rfl (by decide) rfl rfl ?_
        try simp only [List.set_cons_zero, List.set_cons_succ]
        refine k_goto (tgt := 8) hX.1 dX8_leastNow_61 (by decide) ?_
        first
          | (have hq := ih (c + 1) _ ⟨by omega, hy2⟩; rw [em] at hq; exact k_sub (by repeat first | exact trivial | refine And.intro rfl ?_) hq)
          | (have hq := ih (c + 1) _ ⟨by omega, hy2⟩; exact k_sub (by repeat first | exact trivial | refine And.intro rfl ?_) hq)
      · skip
        have hok : okC A c := k2.1 (by omega)
        refine k_aload_n hX.1 dX8_leastNow_26 rfl rfl ?_
        refine k_callVf (d2 := 3) (n := 0) (as := []) hX.1 dX8_leastNow_27 lkX8_191 (fit_of hX (by omega) gmX8_planSeen) rfl rfl (by decide) rfl rfl rfl (Nat.le_of_ble_eq_true rfl) (cM_planSeen E (MW_qF hM hy2) hW (f := pt A c) (fun q hq => ⟨(hN.2 q hq).1, by have := pt_bd hW hl hq c; omega⟩)) ?_
        refine k_top (show _ = snC A c from rfl) ?_
        refine k_istore hX.1 dX8_leastNow_30 (by decide) rfl rfl ?_
        try simp only [List.set_cons_zero, List.set_cons_succ]
        refine k_iload hX.1 dX8_leastNow_32 rfl ?_
        refine k_iload_n hX.1 dX8_leastNow_34 rfl rfl ?_
        refine k_join2 44 (fun z => z = (mb A (c + 1)).1) (fun x1 hx1 => ?_) (fun jn_35 => ?_)
        · skip
          subst hx1
          refine k_istore_n hX.1 dX8_leastNow_44 rfl (by decide) rfl rfl ?_
          try simp only [List.set_cons_zero, List.set_cons_succ]
          refine k_iload hX.1 dX8_leastNow_45 rfl ?_
          refine k_iload_n hX.1 dX8_leastNow_47 rfl rfl ?_
          refine k_join2 57 (fun z => z = (mb A (c + 1)).2) (fun x2 hx2 => ?_) (fun jn_48 => ?_)
          · skip
            subst hx2
            refine k_istore_n hX.1 dX8_leastNow_57 rfl (by decide) rfl rfl ?_
            try simp only [List.set_cons_zero, List.set_cons_succ]
            refine k_iinc hX.1 dX8_leastNow_58 rfl (by decide) rfl rfl ?_
            try simp only [List.set_cons_zero, List.set_cons_succ]
            refine k_goto (tgt := 8) hX.1 dX8_leastNow_61 (by decide) ?_
            first
              | (have hq := ih (c + 1) _ ⟨by omega, hy2⟩; rw [em] at hq; exact k_sub (by repeat first | exact trivial | refine And.intro rfl ?_) hq)
              | (have hq := ih (c + 1) _ ⟨by omega, hy2⟩; exact k_sub (by repeat first | exact trivial | refine And.intro rfl ?_) hq)
          · refine k_icmp_ge (tgt := 56) hX.1 dX8_leastNow_48 (by decide) (by omega) (by omega) (fun c_48 => ?_) (fun c_48 => ?_)
            · skip
              refine k_iload_n hX.1 dX8_leastNow_56 rfl rfl ?_
              exact jn_48 _ (by rw [mb]; first | rw [if_pos ⟨hok, by omega⟩] | rw [if_neg (fun z => by have := z.2; omega)])
            · skip
              refine k_iload hX.1 dX8_leastNow_51 rfl ?_
              refine k_goto (tgt := 57) hX.1 dX8_leastNow_53 (by decide) ?_
              exact jn_48 _ (by rw [mb]; first | rw [if_pos ⟨hok, by omega⟩] | rw [if_neg (fun z => by have := z.2; omega)])
        · refine k_icmp_ge (tgt := 43) hX.1 dX8_leastNow_35 (by decide) (by omega) (by omega) (fun c_35 => ?_) (fun c_35 => ?_)
          · skip
            refine k_iload_n hX.1 dX8_leastNow_43 rfl rfl ?_
            exact jn_35 _ (by rw [mb]; first | rw [if_pos ⟨hok, by omega⟩] | rw [if_neg (fun z => by have := z.2; omega)])
          · skip
            refine k_iload hX.1 dX8_leastNow_38 rfl ?_
            refine k_goto (tgt := 44) hX.1 dX8_leastNow_40 (by decide) ?_
            exact jn_35 _ (by rw [mb]; first | rw [if_pos ⟨hok, by omega⟩] | rw [if_neg (fun z => by have := z.2; omega)])

set_option maxRecDepth 100000 in
set_option maxHeartbeats 4000000 in
theorem cM_leastNow (E : En) {A : St} {g : Mm} {n : Int} (hM : MW A g) (hW : WW A n) {w : Int} (hw : w = 0 ∨ (10 ≤ w ∧ w ≤ 14)) (hp : 1 ≤ A 12 0) : Ok E 4 mX8_leastNow [vR 46, vI w] g (fun r g' => r = some (vI (rL A w)) ∧ qF g g') := by
  obtain ⟨⟨hm1, hm2, hm3⟩, hmp, hml⟩ := id hM
  obtain ⟨⟨hw1, hw2, hw3, hw4, hw5, hw6, hw7, hw8⟩, hwp, hwl⟩ := id hW
  have hnl : ((nl_ A : Nat) : Int) = A 12 2 := by unfold nl_; omega
  refine Ok_of gmX8_leastNow (by omega) (Nat.le_of_ble_eq_true rfl) (fun X hX => ?_)
  show V E X 0 [some (vR 46), some (vI w), none, none, none, none] [] g
  refine k_iconst hX.1 dX8_leastNow_0 ?_
  refine k_istore_n hX.1 dX8_leastNow_1 rfl (by decide) rfl rfl ?_
  try simp only [List.set_cons_zero, List.set_cons_succ]
  refine k_ldc (n := 268435456) hX.1 dX8_leastNow_2 lcX8_184 rfl ?_
  refine k_istore_n hX.1 dX8_leastNow_4 rfl (by decide) rfl rfl ?_
  try simp only [List.set_cons_zero, List.set_cons_succ]
  refine k_iconst hX.1 dX8_leastNow_5 ?_
  refine k_istore hX.1 dX8_leastNow_6 (by decide) rfl rfl ?_
  try simp only [List.set_cons_zero, List.set_cons_succ]
  exact lpM_least E hM hW hw hp hX (Pl A (A 12 0).toNat) 0 g ⟨by omega, qF_rf g⟩

theorem RM_ask {A : St} {g : Mm} (hR : RM A g) : RM (up A 12 5 (A 12 5 + 1)) (wr g 46 15 (A 12 5 + 1)) := by
  obtain ⟨h1, h2, ⟨a1, a2, a3, a4, a5⟩, h4⟩ := id hR
  refine RM_o hR (fun a q1 q2 q3 q4 => wr_off (by omega)) ⟨by rw [wr_1, if_neg (by omega)], by rw [wr_1, if_neg (by omega)], by rw [wr_1, if_neg (by omega)], by rw [wr_1, if_neg (by omega)]⟩ (fun i p q => up_off (by omega)) (fun q => by rw [up_off (by omega)] at q; exact q) ?_ ?_
  · unfold MPg
    rw [up_off (by omega), wr_1, if_neg (by omega), wr_off (by omega)]
    exact ⟨h2.1, fun k hk => by rw [up_off (by omega)]; exact h2.2 k hk⟩
  · unfold MT_
    rw [up_at, wr_at, up_off (by omega), up_off (by omega), wr_1, if_neg (by omega), wr_1, if_neg (by omega), wr_1, if_neg (by omega)]
    exact ⟨a1, rfl, a3, a4, a5⟩
set_option maxRecDepth 100000 in
set_option maxHeartbeats 4000000 in
theorem c8_least (E : En) {A : St} {g : Mm} {n : Int} (hR : RM A g) (hW : Wf A n) {w : Int} (hw : bd w) : Ok E 20 mX8_least [vR 46, vI w] g (fun r g' => r = some (vI (rLeast A w)) ∧ RM (nLeast A w) g' ∧ sameC g g') := by
  have hM0 := hR.1
  have hW0 := hW.1
  obtain ⟨⟨⟨hm1, hm2, hm3⟩, hmp, hml⟩, ⟨hg1, hg2⟩, ⟨ht1, ht2, ht3, ⟨ht4, ht5⟩, ht6⟩, hmk⟩ := id hR
  obtain ⟨⟨⟨hw1, hw2, hw3, hw4, hw5, hw6, hw7, hw8⟩, hwp, hwl⟩, ⟨hq1, hq2, hq3⟩, ⟨hz1, ⟨hz2, hz3⟩, ⟨hz4, hz5⟩⟩, hwk⟩ := id hW
  refine Ok_of gmX8_least (by omega) (Nat.le_of_ble_eq_true rfl) (fun X hX => ?_)
  show V E X 0 [some (vR 46), some (vI w)] [] g
  by_cases i0 : w = 0
  · skip
    by_cases i2 : A 12 0 = 0
    · skip
      refine k_iload_n hX.1 dX8_least_0 rfl rfl ?_
      refine k_if_eq (tgt := 18) hX.1 dX8_least_1 (by decide) (by omega) (fun c_1 => ?_) (fun c_1 => ?_)
      · skip
        refine k_aload_n hX.1 dX8_least_18 rfl rfl ?_
        refine k_geti hX.1 dX8_least_19 flX8_119 rfl (by decide) rfl ?_
        refine k_if_eq (tgt := 34) hX.1 dX8_least_22 (by decide) (by omega) (fun c_22 => ?_) (fun c_22 => ?_)
        · skip
          refine k_bipush hX.1 dX8_least_34 (by decide) ?_
          refine k_iret hX dX8_least_36 rfl ?_
          refine ⟨?_, ?_, sameC.rf g⟩
          · congr 2
            unfold rLeast
            rw [if_neg (fun z => by omega), if_pos (by omega)]
          · unfold nLeast
            rw [if_neg (fun z => by omega), if_pos (by omega)]
            exact hR
        · skip
          exact absurd c_22 (by omega)
      · skip
        exact absurd c_1 (by omega)
    · skip
      by_cases i3 : A 12 5 = 20
      · skip
        refine k_iload_n hX.1 dX8_least_0 rfl rfl ?_
        refine k_if_eq (tgt := 18) hX.1 dX8_least_1 (by decide) (by omega) (fun c_1 => ?_) (fun c_1 => ?_)
        · skip
          refine k_aload_n hX.1 dX8_least_18 rfl rfl ?_
          refine k_geti hX.1 dX8_least_19 flX8_119 rfl (by decide) rfl ?_
          refine k_if_eq (tgt := 34) hX.1 dX8_least_22 (by decide) (by omega) (fun c_22 => ?_) (fun c_22 => ?_)
          · skip
            exact absurd c_22 (by omega)
          · skip
            refine k_aload_n hX.1 dX8_least_25 rfl rfl ?_
            refine k_geti hX.1 dX8_least_26 flX8_194 rfl (by decide) rfl ?_
            refine k_bipush hX.1 dX8_least_29 (by decide) ?_
            refine k_icmp_ne (tgt := 37) hX.1 dX8_least_31 (by decide) (by omega) (by omega) (fun c_31 => ?_) (fun c_31 => ?_)
            · skip
              exact absurd c_31 (by omega)
            · skip
              refine k_bipush hX.1 dX8_least_34 (by decide) ?_
              refine k_iret hX dX8_least_36 rfl ?_
              refine ⟨?_, ?_, sameC.rf g⟩
              · congr 2
                unfold rLeast
                rw [if_neg (fun z => by omega), if_pos (by omega)]
              · unfold nLeast
                rw [if_neg (fun z => by omega), if_pos (by omega)]
                exact hR
        · skip
          exact absurd c_1 (by omega)
      · skip
        refine k_iload_n hX.1 dX8_least_0 rfl rfl ?_
        refine k_if_eq (tgt := 18) hX.1 dX8_least_1 (by decide) (by omega) (fun c_1 => ?_) (fun c_1 => ?_)
        · skip
          refine k_aload_n hX.1 dX8_least_18 rfl rfl ?_
          refine k_geti hX.1 dX8_least_19 flX8_119 rfl (by decide) rfl ?_
          refine k_if_eq (tgt := 34) hX.1 dX8_least_22 (by decide) (by omega) (fun c_22 => ?_) (fun c_22 => ?_)
          · skip
            exact absurd c_22 (by omega)
          · skip
            refine k_aload_n hX.1 dX8_least_25 rfl rfl ?_
            refine k_geti hX.1 dX8_least_26 flX8_194 rfl (by decide) rfl ?_
            refine k_bipush hX.1 dX8_least_29 (by decide) ?_
            refine k_icmp_ne (tgt := 37) hX.1 dX8_least_31 (by decide) (by omega) (by omega) (fun c_31 => ?_) (fun c_31 => ?_)
            · skip
              refine k_aload_n hX.1 dX8_least_37 rfl rfl ?_
              refine k_dupR hX.1 dX8_least_38 ?_
              refine k_geti hX.1 dX8_least_39 flX8_194 rfl (by decide) rfl ?_
              refine k_top (b := A 12 5) (by omega) ?_
              refine k_iconst hX.1 dX8_least_42 ?_
              refine k_iadd hX.1 dX8_least_43 ?_
              refine k_puti hX.1 dX8_least_44 flX8_194 rfl (by decide) rfl ?_
              refine k_aload_n hX.1 dX8_least_47 rfl rfl ?_
              refine k_iload_n hX.1 dX8_least_48 rfl rfl ?_
              refine k_callV (d2 := 4) (n := 1) (as := [_]) hX.1 dX8_least_49 lkX8_197 (fit_of hX (by omega) gmX8_leastNow) rfl rfl (by decide) rfl rfl rfl (Nat.le_of_ble_eq_true rfl) (cM_leastNow E (w := w) (MW_fr hM0 (fun a h1 h2 => wr_off (by omega)) ⟨by rw [wr_1, if_neg (by omega)], by rw [wr_1, if_neg (by omega)], by rw [wr_1, if_neg (by omega)]⟩ ⟨rfl, rfl, rfl⟩ (fun _ _ _ _ => rfl) (fun _ _ _ _ _ => rfl)) hW0 (by omega) (by omega)) (fun r_49 g_49 q_49 => ?_)
              obtain ⟨rfl, hy⟩ := q_49
              show V E X 52 _ (vI _ :: _) _
              refine k_iret hX dX8_least_52 rfl ?_
              refine ⟨?_, ?_, (((sameC.rf g).wr (by omega)).tr (sameC_qF hy))⟩
              · congr 2
                unfold rLeast
                rw [if_neg (show ¬ (¬ w = 0 ∧ (w < 10 ∨ 14 < w)) by omega), if_neg (show ¬ (A 12 0 = 0 ∨ 20 ≤ A 12 5) by omega)]
                rfl
              · unfold nLeast
                rw [if_neg (show ¬ (¬ w = 0 ∧ (w < 10 ∨ 14 < w)) by omega), if_neg (show ¬ (A 12 0 = 0 ∨ 20 ≤ A 12 5) by omega)]
                exact RM_qF (RM_ask hR) hy
            · skip
              exact absurd c_31 (by omega)
        · skip
          exact absurd c_1 (by omega)
  · skip
    by_cases i1 : 10 ≤ w ∧ w ≤ 14
    · skip
      by_cases i2 : A 12 0 = 0
      · skip
        refine k_iload_n hX.1 dX8_least_0 rfl rfl ?_
        refine k_if_eq (tgt := 18) hX.1 dX8_least_1 (by decide) (by omega) (fun c_1 => ?_) (fun c_1 => ?_)
        · skip
          exact absurd c_1 (by omega)
        · skip
          refine k_iload_n hX.1 dX8_least_4 rfl rfl ?_
          refine k_bipush hX.1 dX8_least_5 (by decide) ?_
          refine k_bipush hX.1 dX8_least_7 (by decide) ?_
          refine k_callSf (d2 := 1) (n := 3) (as := [_, _, _]) hX.1 dX8_least_9 lkX8_86 (fit_of hX (by omega) gmX8_within) rfl rfl (Nat.le_of_ble_eq_true rfl) (cM_within1 E g (by omega) (by omega) (by omega) (by omega)) ?_
          refine k_if_ne (tgt := 18) hX.1 dX8_least_12 (by decide) (by omega) (fun c_12 => ?_) (fun c_12 => ?_)
          · skip
            refine k_aload_n hX.1 dX8_least_18 rfl rfl ?_
            refine k_geti hX.1 dX8_least_19 flX8_119 rfl (by decide) rfl ?_
            refine k_if_eq (tgt := 34) hX.1 dX8_least_22 (by decide) (by omega) (fun c_22 => ?_) (fun c_22 => ?_)
            · skip
              refine k_bipush hX.1 dX8_least_34 (by decide) ?_
              refine k_iret hX dX8_least_36 rfl ?_
              refine ⟨?_, ?_, sameC.rf g⟩
              · congr 2
                unfold rLeast
                rw [if_neg (fun z => by omega), if_pos (by omega)]
              · unfold nLeast
                rw [if_neg (fun z => by omega), if_pos (by omega)]
                exact hR
            · skip
              exact absurd c_22 (by omega)
          · skip
            exact absurd c_12 (by decide)
      · skip
        by_cases i3 : A 12 5 = 20
        · skip
          refine k_iload_n hX.1 dX8_least_0 rfl rfl ?_
          refine k_if_eq (tgt := 18) hX.1 dX8_least_1 (by decide) (by omega) (fun c_1 => ?_) (fun c_1 => ?_)
          · skip
            exact absurd c_1 (by omega)
          · skip
            refine k_iload_n hX.1 dX8_least_4 rfl rfl ?_
            refine k_bipush hX.1 dX8_least_5 (by decide) ?_
            refine k_bipush hX.1 dX8_least_7 (by decide) ?_
            refine k_callSf (d2 := 1) (n := 3) (as := [_, _, _]) hX.1 dX8_least_9 lkX8_86 (fit_of hX (by omega) gmX8_within) rfl rfl (Nat.le_of_ble_eq_true rfl) (cM_within1 E g (by omega) (by omega) (by omega) (by omega)) ?_
            refine k_if_ne (tgt := 18) hX.1 dX8_least_12 (by decide) (by omega) (fun c_12 => ?_) (fun c_12 => ?_)
            · skip
              refine k_aload_n hX.1 dX8_least_18 rfl rfl ?_
              refine k_geti hX.1 dX8_least_19 flX8_119 rfl (by decide) rfl ?_
              refine k_if_eq (tgt := 34) hX.1 dX8_least_22 (by decide) (by omega) (fun c_22 => ?_) (fun c_22 => ?_)
              · skip
                exact absurd c_22 (by omega)
              · skip
                refine k_aload_n hX.1 dX8_least_25 rfl rfl ?_
                refine k_geti hX.1 dX8_least_26 flX8_194 rfl (by decide) rfl ?_
                refine k_bipush hX.1 dX8_least_29 (by decide) ?_
                refine k_icmp_ne (tgt := 37) hX.1 dX8_least_31 (by decide) (by omega) (by omega) (fun c_31 => ?_) (fun c_31 => ?_)
                · skip
                  exact absurd c_31 (by omega)
                · skip
                  refine k_bipush hX.1 dX8_least_34 (by decide) ?_
                  refine k_iret hX dX8_least_36 rfl ?_
                  refine ⟨?_, ?_, sameC.rf g⟩
                  · congr 2
                    unfold rLeast
                    rw [if_neg (fun z => by omega), if_pos (by omega)]
                  · unfold nLeast
                    rw [if_neg (fun z => by omega), if_pos (by omega)]
                    exact hR
            · skip
              exact absurd c_12 (by decide)
        · skip
          refine k_iload_n hX.1 dX8_least_0 rfl rfl ?_
          refine k_if_eq (tgt := 18) hX.1 dX8_least_1 (by decide) (by omega) (fun c_1 => ?_) (fun c_1 => ?_)
          · skip
            exact absurd c_1 (by omega)
          · skip
            refine k_iload_n hX.1 dX8_least_4 rfl rfl ?_
            refine k_bipush hX.1 dX8_least_5 (by decide) ?_
            refine k_bipush hX.1 dX8_least_7 (by decide) ?_
            refine k_callSf (d2 := 1) (n := 3) (as := [_, _, _]) hX.1 dX8_least_9 lkX8_86 (fit_of hX (by omega) gmX8_within) rfl rfl (Nat.le_of_ble_eq_true rfl) (cM_within1 E g (by omega) (by omega) (by omega) (by omega)) ?_
            refine k_if_ne (tgt := 18) hX.1 dX8_least_12 (by decide) (by omega) (fun c_12 => ?_) (fun c_12 => ?_)
            · skip
              refine k_aload_n hX.1 dX8_least_18 rfl rfl ?_
              refine k_geti hX.1 dX8_least_19 flX8_119 rfl (by decide) rfl ?_
              refine k_if_eq (tgt := 34) hX.1 dX8_least_22 (by decide) (by omega) (fun c_22 => ?_) (fun c_22 => ?_)
              · skip
                exact absurd c_22 (by omega)
              · skip
                refine k_aload_n hX.1 dX8_least_25 rfl rfl ?_
                refine k_geti hX.1 dX8_least_26 flX8_194 rfl (by decide) rfl ?_
                refine k_bipush hX.1 dX8_least_29 (by decide) ?_
                refine k_icmp_ne (tgt := 37) hX.1 dX8_least_31 (by decide) (by omega) (by omega) (fun c_31 => ?_) (fun c_31 => ?_)
                · skip
                  refine k_aload_n hX.1 dX8_least_37 rfl rfl ?_
                  refine k_dupR hX.1 dX8_least_38 ?_
                  refine k_geti hX.1 dX8_least_39 flX8_194 rfl (by decide) rfl ?_
                  refine k_top (b := A 12 5) (by omega) ?_
                  refine k_iconst hX.1 dX8_least_42 ?_
                  refine k_iadd hX.1 dX8_least_43 ?_
                  refine k_puti hX.1 dX8_least_44 flX8_194 rfl (by decide) rfl ?_
                  refine k_aload_n hX.1 dX8_least_47 rfl rfl ?_
                  refine k_iload_n hX.1 dX8_least_48 rfl rfl ?_
                  refine k_callV (d2 := 4) (n := 1) (as := [_]) hX.1 dX8_least_49 lkX8_197 (fit_of hX (by omega) gmX8_leastNow) rfl rfl (by decide) rfl rfl rfl (Nat.le_of_ble_eq_true rfl) (cM_leastNow E (w := w) (MW_fr hM0 (fun a h1 h2 => wr_off (by omega)) ⟨by rw [wr_1, if_neg (by omega)], by rw [wr_1, if_neg (by omega)], by rw [wr_1, if_neg (by omega)]⟩ ⟨rfl, rfl, rfl⟩ (fun _ _ _ _ => rfl) (fun _ _ _ _ _ => rfl)) hW0 (by omega) (by omega)) (fun r_49 g_49 q_49 => ?_)
                  obtain ⟨rfl, hy⟩ := q_49
                  show V E X 52 _ (vI _ :: _) _
                  refine k_iret hX dX8_least_52 rfl ?_
                  refine ⟨?_, ?_, (((sameC.rf g).wr (by omega)).tr (sameC_qF hy))⟩
                  · congr 2
                    unfold rLeast
                    rw [if_neg (show ¬ (¬ w = 0 ∧ (w < 10 ∨ 14 < w)) by omega), if_neg (show ¬ (A 12 0 = 0 ∨ 20 ≤ A 12 5) by omega)]
                    rfl
                  · unfold nLeast
                    rw [if_neg (show ¬ (¬ w = 0 ∧ (w < 10 ∨ 14 < w)) by omega), if_neg (show ¬ (A 12 0 = 0 ∨ 20 ≤ A 12 5) by omega)]
                    exact RM_qF (RM_ask hR) hy
                · skip
                  exact absurd c_31 (by omega)
            · skip
              exact absurd c_12 (by decide)
    · skip
      refine k_iload_n hX.1 dX8_least_0 rfl rfl ?_
      refine k_if_eq (tgt := 18) hX.1 dX8_least_1 (by decide) (by omega) (fun c_1 => ?_) (fun c_1 => ?_)
      · skip
        exact absurd c_1 (by omega)
      · skip
        refine k_iload_n hX.1 dX8_least_4 rfl rfl ?_
        refine k_bipush hX.1 dX8_least_5 (by decide) ?_
        refine k_bipush hX.1 dX8_least_7 (by decide) ?_
        refine k_callSf (d2 := 1) (n := 3) (as := [_, _, _]) hX.1 dX8_least_9 lkX8_86 (fit_of hX (by omega) gmX8_within) rfl rfl (Nat.le_of_ble_eq_true rfl) (cM_within0 E g (by omega) (by omega) (by omega) (by omega)) ?_
        refine k_if_ne (tgt := 18) hX.1 dX8_least_12 (by decide) (by omega) (fun c_12 => ?_) (fun c_12 => ?_)
        · skip
          exact absurd rfl c_12
        · skip
          refine k_bipush hX.1 dX8_least_15 (by decide) ?_
          refine k_iret hX dX8_least_17 rfl ?_
          refine ⟨?_, ?_, sameC.rf g⟩
          · congr 2
            unfold rLeast
            rw [if_pos ⟨by omega, by omega⟩]
          · unfold nLeast
            rw [if_pos ⟨by omega, by omega⟩]
            exact hR
