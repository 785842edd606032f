set_option maxRecDepth 100000 in
set_option maxHeartbeats 4000000 in
theorem cM_mix (E : En) (g : Mm) {v : Int64} : Pr E 1 mX8_mix [vR 46, vL v] g (wl g 46 37 (31 * g.2 46 37 + v)) := by
  refine Ok_of gmX8_mix (by omega) (Nat.le_of_ble_eq_true rfl) (fun X hX => ?_)
  show V E X 0 [some (vR 46), some (vL v), none] [] g
  refine k_aload_n hX.1 dX8_mix_0 rfl rfl ?_
  refine k_ldc2 hX.1 dX8_mix_1 lcX8_260 ?_
  refine k_aload_n hX.1 dX8_mix_4 rfl rfl ?_
  refine k_getl hX.1 dX8_mix_5 flX8_262 rfl (by decide) rfl ?_
  refine k_lmul hX.1 dX8_mix_8 ?_
  refine k_lload_n hX.1 dX8_mix_9 rfl rfl ?_
  refine k_ladd hX.1 dX8_mix_10 ?_
  refine k_putl hX.1 dX8_mix_11 flX8_262 rfl (by decide) rfl ?_
  refine k_vret hX dX8_mix_14 rfl ?_
  exact ⟨rfl, rfl⟩

def kH (A : St) (g k : Mm) (h : Int64) : Prop := RM A k ∧ sameC g k ∧ k.2 46 37 = h
theorem RM_wl {A : St} {k : Mm} {a b : Nat} {v : Int64} (h : RM A k) : RM A (wl k a b v) := h
theorem kH_mix {A : St} {g k : Mm} {h : Int64} {v : Int} (hk : kH A g k h) : kH A g (wl k 46 37 (31 * k.2 46 37 + (zi v).toInt64)) (mx h v) := by
  obtain ⟨h1, h2, h3⟩ := hk
  refine ⟨RM_wl h1, fun a ha => ⟨(h2 a ha).1, ?_⟩, ?_⟩
  · funext b
    rw [wl_2, if_neg (by omega), (h2 a ha).2]
  · rw [wl_2, if_pos ⟨rfl, rfl⟩, h3]; rfl
theorem kH_pF {A : St} {g k l : Mm} {h : Int64} (hk : kH A g k h) (hp : pF k l) : kH A g l h := ⟨RM_pF hk.1 hp, hk.2.1.tr (sameC_pF hp), by rw [hp.1]; exact hk.2.2⟩
set_option maxRecDepth 100000 in
set_option maxHeartbeats 4000000 in
theorem lpM_dg6 (E : En) {A : St} {g : Mm} {n : Int} (hW : Wf A n) {X : Cx} (hX : Wk E mX8_digest X 7 (fun r g' => r = some (vL (dgs A)) ∧ RM A g' ∧ sameC g g')) : ∀ (m : Nat) (w : Nat) (k : Mm), (m + w = 11 ∧ kH A g k (mxN (fun w => rCount A (w : Int)) w (mxN (A 11) (A 12 3).toNat (dg3 A)))) → V E X 165 [some (vR 46), some (vI (w : Int)), none] [] k := by
  intro m
  induction m with
  | zero =>
    intro w k ⟨hm, hk⟩
    obtain rfl : w = 11 := by omega
    refine k_iload_n hX.1 dX8_digest_165 rfl rfl ?_
    refine k_bipush hX.1 dX8_digest_166 (by decide) ?_
    refine k_icmp_ge (tgt := 187) hX.1 dX8_digest_168 (by decide) (by omega) (by omega) (fun c_168 => ?_) (fun c_168 => ?_)
    · skip
      refine k_aload_n hX.1 dX8_digest_187 rfl rfl ?_
      refine k_getl hX.1 dX8_digest_188 flX8_262 rfl (by decide) rfl ?_
      refine k_lret hX dX8_digest_191 rfl ?_
      exact ⟨by rw [hk.2.2]; rfl, hk.1, hk.2.1⟩
    · skip
      exact absurd c_168 (by omega)
  | succ m ih =>
    intro w k ⟨hm, hk⟩
    refine k_iload_n hX.1 dX8_digest_165 rfl rfl ?_
    refine k_bipush hX.1 dX8_digest_166 (by decide) ?_
    refine k_icmp_ge (tgt := 187) hX.1 dX8_digest_168 (by decide) (by omega) (by omega) (fun c_168 => ?_) (fun c_168 => ?_)
    · skip
      exact absurd c_168 (by omega)
    · skip
      refine k_aload_n hX.1 dX8_digest_171 rfl rfl ?_
      refine k_aload_n hX.1 dX8_digest_172 rfl rfl ?_
      refine k_iload_n hX.1 dX8_digest_173 rfl rfl ?_
      refine k_callVf (d2 := 5) (n := 1) (as := [_]) hX.1 dX8_digest_174 lkX8_257 (fit_of hX (by omega) gmX8_howMany) rfl rfl (by decide) rfl rfl rfl (Nat.le_of_ble_eq_true rfl) (cM_howMany E hk.1 hW (q := (w : Int)) (by omega)) ?_
      refine k_i2l hX.1 dX8_digest_177 ?_
      refine k_callVp (d2 := 1) (n := 1) (as := [_]) hX.1 dX8_digest_178 lkX8_267 (fit_of hX (by omega) gmX8_mix) rfl rfl (by decide) rfl rfl rfl (Nat.le_of_ble_eq_true rfl) (cM_mix E _) ?_
      refine k_iinc hX.1 dX8_digest_181 rfl (by decide) rfl rfl ?_
      try simp only [List.set_cons_zero, List.set_cons_succ]
      refine k_goto (tgt := 165) hX.1 dX8_digest_184 (by decide) ?_
      exact ih (w + 1) _ ⟨by omega, kH_mix hk⟩

set_option maxRecDepth 100000 in
set_option maxHeartbeats 4000000 in
theorem lpM_dg5 (E : En) {A : St} {g : Mm} {n : Int} (hW : Wf A n) {X : Cx} (hX : Wk E mX8_digest X 7 (fun r g' => r = some (vL (dgs A)) ∧ RM A g' ∧ sameC g g')) : ∀ (m : Nat) (i : Nat) (k : Mm), ((m : Int) + i = A 12 3 ∧ kH A g k (mxN (A 11) i (dg3 A))) → V E X 138 [some (vR 46), some (vI (i : Int)), none] [] k := by
  have hW0 := hW.1
  obtain ⟨⟨⟨hw1, hw2, hw3, hw4, hw5, hw6, hw7, hw8⟩, hwp, hwl⟩, ⟨hq1, hq2, hq3⟩, -⟩ := id hW
  intro m
  induction m with
  | zero =>
    intro i k ⟨hm, hk⟩
    obtain ⟨⟨⟨hm1, hm2, hm3⟩, hmp, hml⟩, ⟨hg1, hg2⟩, -⟩ := id hk.1
    obtain rfl : i = (A 12 3).toNat := by omega
    refine k_iload_n hX.1 dX8_digest_138 rfl rfl ?_
    refine k_aload_n hX.1 dX8_digest_139 rfl rfl ?_
    refine k_geti hX.1 dX8_digest_140 flX8_90 rfl (by decide) rfl ?_
    refine k_top (b := A 12 3) hg1 ?_
    refine k_icmp_ge (tgt := 163) hX.1 dX8_digest_143 (by decide) (by omega) (by omega) (fun c_143 => ?_) (fun c_143 => ?_)
    · skip
      refine k_iconst hX.1 dX8_digest_163 ?_
      refine k_istore_n hX.1 dX8_digest_164 rfl (by decide) rfl rfl ?_
      try simp only [List.set_cons_zero, List.set_cons_succ]
      exact lpM_dg6 E hW hX 11 0 k ⟨rfl, hk⟩
    · skip
      exact absurd c_143 (by omega)
  | succ m ih =>
    intro i k ⟨hm, hk⟩
    obtain ⟨⟨⟨hm1, hm2, hm3⟩, hmp, hml⟩, ⟨hg1, hg2⟩, -⟩ := id hk.1
    refine k_iload_n hX.1 dX8_digest_138 rfl rfl ?_
    refine k_aload_n hX.1 dX8_digest_139 rfl rfl ?_
    refine k_geti hX.1 dX8_digest_140 flX8_90 rfl (by decide) rfl ?_
    refine k_top (b := A 12 3) hg1 ?_
    refine k_icmp_ge (tgt := 163) hX.1 dX8_digest_143 (by decide) (by omega) (by omega) (fun c_143 => ?_) (fun c_143 => ?_)
    · skip
      exact absurd c_143 (by omega)
    · skip
      refine k_aload_n hX.1 dX8_digest_146 rfl rfl ?_
      refine k_aload_n hX.1 dX8_digest_147 rfl rfl ?_
      refine k_getr (t := 58) hX.1 dX8_digest_148 flX8_43 rfl (by decide) rfl rfl ?_
      refine k_iload_n hX.1 dX8_digest_151 rfl rfl ?_
      refine k_bald (j := i) hX.1 dX8_digest_152 rfl (by omega) (n := 18) rfl (by omega) (by omega) ?_
      refine k_top (b := A 11 i) (hg2 i (by omega)) ?_
      refine k_i2l hX.1 dX8_digest_153 ?_
      refine k_callVp (d2 := 1) (n := 1) (as := [_]) hX.1 dX8_digest_154 lkX8_267 (fit_of hX (by omega) gmX8_mix) rfl rfl (by decide) rfl rfl rfl (Nat.le_of_ble_eq_true rfl) (cM_mix E _) ?_
      refine k_iinc hX.1 dX8_digest_157 rfl (by decide) rfl rfl ?_
      try simp only [List.set_cons_zero, List.set_cons_succ]
      refine k_goto (tgt := 138) hX.1 dX8_digest_160 (by decide) ?_
      exact ih (i + 1) _ ⟨by omega, kH_mix hk⟩

set_option maxRecDepth 100000 in
set_option maxHeartbeats 4000000 in
theorem lpM_dg4 (E : En) {A : St} {g : Mm} {n : Int} (hW : Wf A n) {t : Nat} (ht : (t : Int) < A 12 2) {h0 : Int64} {X : Cx} (hX : Wk E mX8_digest X 7 (fun r g' => r = some (vL (dgs A)) ∧ RM A g' ∧ sameC g g')) : ∀ (m : Nat) (w : Nat) (k : Mm), m + w = 3 ∧ kH A g k (mxN (fun w => lt1 A t (w : Int)) w h0) → (∀ k : Mm, kH A g k (mxN (fun w => lt1 A t (w : Int)) 3 h0) → V E X 92 [some (vR 46), some (vI (t : Int)), some (vI 3)] [] k) → V E X 70 [some (vR 46), some (vI (t : Int)), some (vI (w : Int))] [] k := by
  have hW0 := hW.1
  obtain ⟨⟨⟨hw1, hw2, hw3, hw4, hw5, hw6, hw7, hw8⟩, hwp, hwl⟩, ⟨hq1, hq2, hq3⟩, -⟩ := id hW
  intro m
  induction m with
  | zero =>
    intro w k ⟨hm, hk⟩ hx
    obtain rfl : w = 3 := by omega
    refine k_iload_n hX.1 dX8_digest_70 rfl rfl ?_
    refine k_iconst hX.1 dX8_digest_71 ?_
    refine k_icmp_ge (tgt := 92) hX.1 dX8_digest_72 (by decide) (by omega) (by omega) (fun c_72 => ?_) (fun c_72 => ?_)
    · skip
      exact hx k hk
    · skip
      exact absurd c_72 (by omega)
  | succ m ih =>
    intro w k ⟨hm, hk⟩ hx
    refine k_iload_n hX.1 dX8_digest_70 rfl rfl ?_
    refine k_iconst hX.1 dX8_digest_71 ?_
    refine k_icmp_ge (tgt := 92) hX.1 dX8_digest_72 (by decide) (by omega) (by omega) (fun c_72 => ?_) (fun c_72 => ?_)
    · skip
      exact absurd c_72 (by omega)
    · skip
      refine k_aload_n hX.1 dX8_digest_75 rfl rfl ?_
      refine k_aload_n hX.1 dX8_digest_76 rfl rfl ?_
      refine k_iload_n hX.1 dX8_digest_77 rfl rfl ?_
      refine k_iload_n hX.1 dX8_digest_78 rfl rfl ?_
      refine k_callVf (d2 := 1) (n := 2) (as := [_, _]) hX.1 dX8_digest_79 lkX8_159 (fit_of hX (by omega) gmX8_lotNow) rfl rfl (by decide) rfl rfl rfl (Nat.le_of_ble_eq_true rfl) (cM_lotNow E hk.1.1 hW0 (t := t) (by omega) (q := (w : Int)) (by omega)) ?_
      refine k_i2l hX.1 dX8_digest_82 ?_
      refine k_callVp (d2 := 1) (n := 1) (as := [_]) hX.1 dX8_digest_83 lkX8_267 (fit_of hX (by omega) gmX8_mix) rfl rfl (by decide) rfl rfl rfl (Nat.le_of_ble_eq_true rfl) (cM_mix E _) ?_
      refine k_iinc hX.1 dX8_digest_86 rfl (by decide) rfl rfl ?_
      try simp only [List.set_cons_zero, List.set_cons_succ]
      refine k_goto (tgt := 70) hX.1 dX8_digest_89 (by decide) ?_
      exact ih (w + 1) _ ⟨by omega, kH_mix hk⟩ hx

set_option maxRecDepth 100000 in
set_option maxHeartbeats 4000000 in
theorem lpM_dg3 (E : En) {A : St} {g : Mm} {n : Int} (hW : Wf A n) {X : Cx} (hX : Wk E mX8_digest X 7 (fun r g' => r = some (vL (dgs A)) ∧ RM A g' ∧ sameC g g')) : ∀ (m : Nat) (t : Nat) (k : Mm), (m + t = (A 12 2).toNat ∧ kH A g k (dgL A t (dgP A (A 12 0).toNat 829))) → V E X 60 [some (vR 46), some (vI (t : Int)), none] [] k := by
  have hW0 := hW.1
  obtain ⟨⟨⟨hw1, hw2, hw3, hw4, hw5, hw6, hw7, hw8⟩, hwp, hwl⟩, ⟨hq1, hq2, hq3⟩, -⟩ := id hW
  intro m
  induction m with
  | zero =>
    intro t k ⟨hm, hk⟩
    obtain ⟨⟨⟨hm1, hm2, hm3⟩, hmp, hml⟩, ⟨hg1, hg2⟩, -⟩ := id hk.1
    obtain rfl : t = (A 12 2).toNat := by omega
    refine k_iload_n hX.1 dX8_digest_60 rfl rfl ?_
    refine k_aload_n hX.1 dX8_digest_61 rfl rfl ?_
    refine k_geti hX.1 dX8_digest_62 flX8_132 rfl (by decide) rfl ?_
    refine k_top (b := A 12 2) hm2 ?_
    refine k_icmp_ge (tgt := 120) hX.1 dX8_digest_65 (by decide) (by omega) (by omega) (fun c_65 => ?_) (fun c_65 => ?_)
    · skip
      refine k_aload_n hX.1 dX8_digest_120 rfl rfl ?_
      refine k_geti hX.1 dX8_digest_121 flX8_119 rfl (by decide) rfl ?_
      refine k_top (b := A 12 0) hm1 ?_
      refine k_if_le (tgt := 136) hX.1 dX8_digest_124 (by decide) (by omega) (fun c_124 => ?_) (fun c_124 => ?_)
      · skip
        have hk5 : kH A g k (dg3 A) := by
          unfold dg3
          rw [if_neg (show ¬ 0 < A 12 0 by omega)]
          exact hk
        refine k_iconst hX.1 dX8_digest_136 ?_
        refine k_istore_n hX.1 dX8_digest_137 rfl (by decide) rfl rfl ?_
        try simp only [List.set_cons_zero, List.set_cons_succ]
        exact lpM_dg5 E hW hX (A 12 3).toNat 0 _ ⟨by omega, hk5⟩
      · skip
        refine k_aload_n hX.1 dX8_digest_127 rfl rfl ?_
        refine k_aload_n hX.1 dX8_digest_128 rfl rfl ?_
        refine k_callV (d2 := 4) (n := 0) (as := []) hX.1 dX8_digest_129 lkX8_215 (fit_of hX (by omega) gmX8_fitsNow) rfl rfl (by decide) rfl rfl rfl (Nat.le_of_ble_eq_true rfl) (cM_fitsNow E hk.1.1 hW0 (by omega)) (fun r_129 g_129 q_129 => ?_)
        obtain ⟨rfl, hy⟩ := q_129
        show V E X 132 _ (vI _ :: _) _
        have hk4 := kH_pF hk hy
        refine k_i2l hX.1 dX8_digest_132 ?_
        refine k_callVp (d2 := 1) (n := 1) (as := [_]) hX.1 dX8_digest_133 lkX8_267 (fit_of hX (by omega) gmX8_mix) rfl rfl (by decide) rfl rfl rfl (Nat.le_of_ble_eq_true rfl) (cM_mix E _) ?_
        have hk5 := kH_mix (v := wyC A) hk4
        rw [show mx (dgL A (A 12 2).toNat (dgP A (A 12 0).toNat 829)) (wyC A) = dg3 A by unfold dg3; rw [if_pos (show 0 < A 12 0 by omega)]] at hk5
        refine k_iconst hX.1 dX8_digest_136 ?_
        refine k_istore_n hX.1 dX8_digest_137 rfl (by decide) rfl rfl ?_
        try simp only [List.set_cons_zero, List.set_cons_succ]
        exact lpM_dg5 E hW hX (A 12 3).toNat 0 _ ⟨by omega, hk5⟩
    · skip
      exact absurd c_65 (by omega)
  | succ m ih =>
    intro t k ⟨hm, hk⟩
    obtain ⟨⟨⟨hm1, hm2, hm3⟩, hmp, hml⟩, ⟨hg1, hg2⟩, -⟩ := id hk.1
    refine k_iload_n hX.1 dX8_digest_60 rfl rfl ?_
    refine k_aload_n hX.1 dX8_digest_61 rfl rfl ?_
    refine k_geti hX.1 dX8_digest_62 flX8_132 rfl (by decide) rfl ?_
    refine k_top (b := A 12 2) hm2 ?_
    refine k_icmp_ge (tgt := 120) hX.1 dX8_digest_65 (by decide) (by omega) (by omega) (fun c_65 => ?_) (fun c_65 => ?_)
    · skip
      exact absurd c_65 (by omega)
    · skip
      refine k_iconst hX.1 dX8_digest_68 ?_
      refine k_istore_n hX.1 dX8_digest_69 rfl (by decide) rfl rfl ?_
      try simp only [List.set_cons_zero, List.set_cons_succ]
      refine lpM_dg4 E hW (t := t) (by omega) hX 3 0 k ⟨rfl, hk⟩ (fun k2 hk2 => ?_)
      refine k_aload_n hX.1 dX8_digest_92 rfl rfl ?_
      refine k_aload_n hX.1 dX8_digest_93 rfl rfl ?_
      refine k_iload_n hX.1 dX8_digest_94 rfl rfl ?_
      refine k_iconst hX.1 dX8_digest_95 ?_
      refine k_callVf (d2 := 2) (n := 2) (as := [_, _]) hX.1 dX8_digest_96 lkX8_200 (fit_of hX (by omega) gmX8_wantedNow) rfl rfl (by decide) rfl rfl rfl (Nat.le_of_ble_eq_true rfl) (cM_wantedNow E hk2.1.1 hW0 (t := t) (by omega) (b := 0) (by omega)) ?_
      refine k_i2l hX.1 dX8_digest_99 ?_
      refine k_callVp (d2 := 1) (n := 1) (as := [_]) hX.1 dX8_digest_100 lkX8_267 (fit_of hX (by omega) gmX8_mix) rfl rfl (by decide) rfl rfl rfl (Nat.le_of_ble_eq_true rfl) (cM_mix E _) ?_
      have hk3 := kH_mix (v := want A t 0) hk2
      refine k_aload_n hX.1 dX8_digest_103 rfl rfl ?_
      refine k_aload_n hX.1 dX8_digest_104 rfl rfl ?_
      refine k_iload_n hX.1 dX8_digest_105 rfl rfl ?_
      refine k_iconst hX.1 dX8_digest_106 ?_
      refine k_callVf (d2 := 2) (n := 2) (as := [_, _]) hX.1 dX8_digest_107 lkX8_200 (fit_of hX (by omega) gmX8_wantedNow) rfl rfl (by decide) rfl rfl rfl (Nat.le_of_ble_eq_true rfl) (cM_wantedNow E hk3.1.1 hW0 (t := t) (by omega) (b := 1) (by omega)) ?_
      refine k_i2l hX.1 dX8_digest_110 ?_
      refine k_callVp (d2 := 1) (n := 1) (as := [_]) hX.1 dX8_digest_111 lkX8_267 (fit_of hX (by omega) gmX8_mix) rfl rfl (by decide) rfl rfl rfl (Nat.le_of_ble_eq_true rfl) (cM_mix E _) ?_
      refine k_iinc hX.1 dX8_digest_114 rfl (by decide) rfl rfl ?_
      try simp only [List.set_cons_zero, List.set_cons_succ]
      refine k_goto (tgt := 60) hX.1 dX8_digest_117 (by decide) ?_
      exact k_sub (by repeat first | exact trivial | refine And.intro rfl ?_) (ih (t + 1) _ ⟨by omega, kH_mix hk3⟩)

set_option maxRecDepth 100000 in
set_option maxHeartbeats 4000000 in
theorem lpM_dg2 (E : En) {A : St} {g : Mm} {n : Int} (hW : Wf A n) {p : Nat} (hp : (p : Int) < A 12 0) {h0 : Int64} {X : Cx} (hX : Wk E mX8_digest X 7 (fun r g' => r = some (vL (dgs A)) ∧ RM A g' ∧ sameC g g')) : ∀ (m : Nat) (w : Nat) (k : Mm), m + w = 9 ∧ kH A g k (mxN (fun w => pn A p (w : Int)) w h0) → (∀ k : Mm, kH A g k (mxN (fun w => pn A p (w : Int)) 9 h0) → V E X 42 [some (vR 46), some (vI (p : Int)), some (vI 9)] [] k) → V E X 19 [some (vR 46), some (vI (p : Int)), some (vI (w : Int))] [] k := by
  have hW0 := hW.1
  obtain ⟨⟨⟨hw1, hw2, hw3, hw4, hw5, hw6, hw7, hw8⟩, hwp, hwl⟩, ⟨hq1, hq2, hq3⟩, -⟩ := id hW
  intro m
  induction m with
  | zero =>
    intro w k ⟨hm, hk⟩ hx
    obtain rfl : w = 9 := by omega
    refine k_iload_n hX.1 dX8_digest_19 rfl rfl ?_
    refine k_bipush hX.1 dX8_digest_20 (by decide) ?_
    refine k_icmp_ge (tgt := 42) hX.1 dX8_digest_22 (by decide) (by omega) (by omega) (fun c_22 => ?_) (fun c_22 => ?_)
    · skip
      exact hx k hk
    · skip
      exact absurd c_22 (by omega)
  | succ m ih =>
    intro w k ⟨hm, hk⟩ hx
    refine k_iload_n hX.1 dX8_digest_19 rfl rfl ?_
    refine k_bipush hX.1 dX8_digest_20 (by decide) ?_
    refine k_icmp_ge (tgt := 42) hX.1 dX8_digest_22 (by decide) (by omega) (by omega) (fun c_22 => ?_) (fun c_22 => ?_)
    · skip
      exact absurd c_22 (by omega)
    · skip
      refine k_aload_n hX.1 dX8_digest_25 rfl rfl ?_
      refine k_aload_n hX.1 dX8_digest_26 rfl rfl ?_
      refine k_iload_n hX.1 dX8_digest_27 rfl rfl ?_
      refine k_iload_n hX.1 dX8_digest_28 rfl rfl ?_
      refine k_callVf (d2 := 4) (n := 2) (as := [_, _]) hX.1 dX8_digest_29 lkX8_152 (fit_of hX (by omega) gmX8_partNow) rfl rfl (by decide) rfl rfl rfl (Nat.le_of_ble_eq_true rfl) (cM_partNow E hk.1.1 hW0 (p := p) hp (q := (w : Int)) (by omega)) ?_
      refine k_i2l hX.1 dX8_digest_32 ?_
      refine k_callVp (d2 := 1) (n := 1) (as := [_]) hX.1 dX8_digest_33 lkX8_267 (fit_of hX (by omega) gmX8_mix) rfl rfl (by decide) rfl rfl rfl (Nat.le_of_ble_eq_true rfl) (cM_mix E _) ?_
      refine k_iinc hX.1 dX8_digest_36 rfl (by decide) rfl rfl ?_
      try simp only [List.set_cons_zero, List.set_cons_succ]
      refine k_goto (tgt := 19) hX.1 dX8_digest_39 (by decide) ?_
      exact ih (w + 1) _ ⟨by omega, kH_mix hk⟩ hx

set_option maxRecDepth 100000 in
set_option maxHeartbeats 4000000 in
theorem lpM_dg1 (E : En) {A : St} {g : Mm} {n : Int} (hW : Wf A n) {X : Cx} (hX : Wk E mX8_digest X 7 (fun r g' => r = some (vL (dgs A)) ∧ RM A g' ∧ sameC g g')) : ∀ (m : Nat) (p : Nat) (k : Mm), (m + p = (A 12 0).toNat ∧ kH A g k (dgP A p 829)) → V E X 9 [some (vR 46), some (vI (p : Int)), none] [] k := by
  have hW0 := hW.1
  obtain ⟨⟨⟨hw1, hw2, hw3, hw4, hw5, hw6, hw7, hw8⟩, hwp, hwl⟩, ⟨hq1, hq2, hq3⟩, -⟩ := id hW
  intro m
  induction m with
  | zero =>
    intro p k ⟨hm, hk⟩
    obtain ⟨⟨⟨hm1, hm2, hm3⟩, hmp, hml⟩, ⟨hg1, hg2⟩, -⟩ := id hk.1
    obtain rfl : p = (A 12 0).toNat := by omega
    refine k_iload_n hX.1 dX8_digest_9 rfl rfl ?_
    refine k_aload_n hX.1 dX8_digest_10 rfl rfl ?_
    refine k_geti hX.1 dX8_digest_11 flX8_119 rfl (by decide) rfl ?_
    refine k_top (b := A 12 0) hm1 ?_
    refine k_icmp_ge (tgt := 58) hX.1 dX8_digest_14 (by decide) (by omega) (by omega) (fun c_14 => ?_) (fun c_14 => ?_)
    · skip
      refine k_iconst hX.1 dX8_digest_58 ?_
      refine k_istore_n hX.1 dX8_digest_59 rfl (by decide) rfl rfl ?_
      try simp only [List.set_cons_zero, List.set_cons_succ]
      exact lpM_dg3 E hW hX (A 12 2).toNat 0 k ⟨by omega, hk⟩
    · skip
      exact absurd c_14 (by omega)
  | succ m ih =>
    intro p k ⟨hm, hk⟩
    obtain ⟨⟨⟨hm1, hm2, hm3⟩, hmp, hml⟩, ⟨hg1, hg2⟩, -⟩ := id hk.1
    refine k_iload_n hX.1 dX8_digest_9 rfl rfl ?_
    refine k_aload_n hX.1 dX8_digest_10 rfl rfl ?_
    refine k_geti hX.1 dX8_digest_11 flX8_119 rfl (by decide) rfl ?_
    refine k_top (b := A 12 0) hm1 ?_
    refine k_icmp_ge (tgt := 58) hX.1 dX8_digest_14 (by decide) (by omega) (by omega) (fun c_14 => ?_) (fun c_14 => ?_)
    · skip
      exact absurd c_14 (by omega)
    · skip
      refine k_iconst hX.1 dX8_digest_17 ?_
      refine k_istore_n hX.1 dX8_digest_18 rfl (by decide) rfl rfl ?_
      try simp only [List.set_cons_zero, List.set_cons_succ]
      refine lpM_dg2 E hW (p := p) (by omega) hX 9 0 k ⟨rfl, hk⟩ (fun k2 hk2 => ?_)
      refine k_aload_n hX.1 dX8_digest_42 rfl rfl ?_
      refine k_aload_n hX.1 dX8_digest_43 rfl rfl ?_
      refine k_iload_n hX.1 dX8_digest_44 rfl rfl ?_
      refine k_callV (d2 := 4) (n := 1) (as := [_]) hX.1 dX8_digest_45 lkX8_218 (fit_of hX (by omega) gmX8_sureNow) rfl rfl (by decide) rfl rfl rfl (Nat.le_of_ble_eq_true rfl) (cM_sureNow E hk2.1.1 hW0 (p := p) (by omega)) (fun r_45 g_45 q_45 => ?_)
      obtain ⟨rfl, hy⟩ := q_45
      show V E X 48 _ (vI _ :: _) _
      have hk4 := kH_pF hk2 hy
      refine k_i2l hX.1 dX8_digest_48 ?_
      refine k_callVp (d2 := 1) (n := 1) (as := [_]) hX.1 dX8_digest_49 lkX8_267 (fit_of hX (by omega) gmX8_mix) rfl rfl (by decide) rfl rfl rfl (Nat.le_of_ble_eq_true rfl) (cM_mix E _) ?_
      refine k_iinc hX.1 dX8_digest_52 rfl (by decide) rfl rfl ?_
      try simp only [List.set_cons_zero, List.set_cons_succ]
      refine k_goto (tgt := 9) hX.1 dX8_digest_55 (by decide) ?_
      exact k_sub (by repeat first | exact trivial | refine And.intro rfl ?_) (ih (p + 1) _ ⟨by omega, kH_mix hk4⟩)

set_option maxRecDepth 100000 in
set_option maxHeartbeats 4000000 in
theorem c8_digest (E : En) {A : St} {g : Mm} {n : Int} (hR : RM A g) (hW : Wf A n) : Ok E 7 mX8_digest [vR 46] g (fun r g' => r = some (vL (dgs A)) ∧ RM A g' ∧ sameC g g') := by
  refine Ok_of gmX8_digest (by omega) (Nat.le_of_ble_eq_true rfl) (fun X hX => ?_)
  show V E X 0 [some (vR 46), none, none] [] g
  refine k_aload_n hX.1 dX8_digest_0 rfl rfl ?_
  refine k_ldc2 hX.1 dX8_digest_1 lcX8_265 ?_
  refine k_putl hX.1 dX8_digest_4 flX8_262 rfl (by decide) rfl ?_
  refine k_iconst hX.1 dX8_digest_7 ?_
  refine k_istore_n hX.1 dX8_digest_8 rfl (by decide) rfl rfl ?_
  try simp only [List.set_cons_zero, List.set_cons_succ]
  exact lpM_dg1 E hW hX (A 12 0).toNat 0 _ ⟨by omega, RM_wl hR, fun a ha => ⟨rfl, by funext b; rw [wl_2, if_neg (by omega)]⟩, by rw [wl_2, if_pos ⟨rfl, rfl⟩]; rfl⟩
