theorem start_D {s : State} {args : Array Value} (hts : ∀ w ∈ TB, w.before args s = true) : ∃ D : va_G, ∀ (k : Nat) (q : vw_C), vwCl[k]? = some q → u_Kn s q.1 q.2.1 q.2.2 (D.1 k) (D.2 k) := by
  obtain ⟨c0, i0, k0⟩ := u_known (C := RX0) (T := TX0) (N := 2) (n := 2) hts fx0.2.1 (hts _ in_0)
  obtain ⟨c1, i1, k1⟩ := u_known (C := RX1) (T := TX1) (N := 5) (n := 5) hts fx1.2.1 (hts _ in_1)
  obtain ⟨c2, i2, k2⟩ := u_known (C := RX2) (T := TX2) (N := 3) (n := 3) hts fx2.2.1 (hts _ in_2)
  obtain ⟨c3, i3, k3⟩ := u_known (C := RX3) (T := TX3) (N := 2) (n := 2) hts fx3.2.1 (hts _ in_3)
  obtain ⟨c4, i4, k4⟩ := u_known (C := RX4) (T := TX4) (N := 8) (n := 8) hts fx4.2.1 (hts _ in_4)
  obtain ⟨c5, i5, k5⟩ := u_known (C := RX5) (T := TX5) (N := 6) (n := 6) hts fx5.2.1 (hts _ in_5)
  obtain ⟨c6, i6, k6⟩ := u_known (C := RX6) (T := TX6) (N := 5) (n := 5) hts fx6.2.1 (hts _ in_6)
  obtain ⟨c7, i7, k7⟩ := u_known (C := RX7) (T := TX7) (N := 9) (n := 9) hts fx7.2.1 (hts _ in_7)
  obtain ⟨c8, i8, k8⟩ := u_known (C := RX8) (T := TX8) (N := 38) (n := 38) hts fx8.2.1 (hts _ in_8)
  refine ⟨(fun k => [c0, c1, c2, c3, c4, c5, c6, c7, c8].getD k 0, fun k => [i0, i1, i2, i3, i4, i5, i6, i7, i8].getD k (fun _ => 0)), ?_⟩
  intro k q hq
  match k, hq with
  | 0, hq => have e : (RX0, TX0, 2) = q := Option.some.inj hq; subst e; exact k0
  | 1, hq => have e : (RX1, TX1, 5) = q := Option.some.inj hq; subst e; exact k1
  | 2, hq => have e : (RX2, TX2, 3) = q := Option.some.inj hq; subst e; exact k2
  | 3, hq => have e : (RX3, TX3, 2) = q := Option.some.inj hq; subst e; exact k3
  | 4, hq => have e : (RX4, TX4, 8) = q := Option.some.inj hq; subst e; exact k4
  | 5, hq => have e : (RX5, TX5, 6) = q := Option.some.inj hq; subst e; exact k5
  | 6, hq => have e : (RX6, TX6, 5) = q := Option.some.inj hq; subst e; exact k6
  | 7, hq => have e : (RX7, TX7, 9) = q := Option.some.inj hq; subst e; exact k7
  | 8, hq => have e : (RX8, TX8, 38) = q := Option.some.inj hq; subst e; exact k8
  | k + 9, hq => exact absurd (List.getElem?_eq_some_iff.mp hq).1 (by show ¬ k + 9 < 9; omega)
theorem start_y {s : State} {args : Array Value} {D : va_G} (hts : ∀ w ∈ lw_tbl, w.before args s = true) (hD : ∀ (k : Nat) (q : vw_C), vwCl[k]? = some q → u_Kn s q.1 q.2.1 q.2.2 (D.1 k) (D.2 k)) : ∃ y : Nat → ClassId, cW D y s := by
  have hI : (Cond.arrayClass .int).before args s = true := hts _ (TB_in _ wa_I)
  have hB : (Cond.arrayClass .byte).before args s = true := hts _ (TB_in _ wa_B)
  have hP : va_AO RX4 s := va_AO.of (hts (Cond.arrayOver (.object RX4)) (List.mem_of_getElem? (i := 92) (by decide +kernel)))
  have hL : va_AO RX2 s := va_AO.of (hts (Cond.arrayOver (.object RX2)) (List.mem_of_getElem? (i := 94) (by decide +kernel)))
  have hA : va_AOA .int s := hts (Cond.arrayOver (.array .int)) (List.mem_of_getElem? (i := 226) (by decide +kernel))
  obtain ⟨cI, kI, pI, i1, i2, i3⟩ := Cond.arrayClass_spec hI
  obtain ⟨cB, kB, pB, b1, b2, b3⟩ := Cond.arrayClass_spec hB
  obtain ⟨pP, cP, kP, p1, -, p3, p4, p5⟩ := Cond.arrayOver_spec hP
  obtain ⟨pL, cL, kL, l1, -, l3, l4, l5⟩ := Cond.arrayOver_spec hL
  obtain ⟨pA, cA, kA, a1, -, a3, a4, a5⟩ := AOA_spec hA
  refine ⟨fun k => if k = 10 then cI else if k = 11 then cB else if k = 12 then cL else if k = 13 then cP else cA, ⟨hD, ?_⟩, fun w hw => ?_, hP, hL, hA⟩
  · intro k q hq
    match k, hq with
    | 0, hq => have e : (cI, FieldType.int) = q := Option.some.inj hq; subst e; exact ⟨fun N z => ⟨(fun k h => by cases h), kI, i2, pI, i3⟩, i1⟩
    | 1, hq => have e : (cB, FieldType.byte) = q := Option.some.inj hq; subst e; exact ⟨fun N z => ⟨(fun k h => by cases h), kB, b2, pB, b3⟩, b1⟩
    | 2, hq => have e : (cL, FieldType.object RX2) = q := Option.some.inj hq; subst e; exact ⟨fun N z => ⟨(fun k h => by cases h), kL, l3, pL, l4⟩, kL, pL, l3, l4, l1, l5⟩
    | 3, hq => have e : (cP, FieldType.object RX4) = q := Option.some.inj hq; subst e; exact ⟨fun N z => ⟨(fun k h => by cases h), kP, p3, pP, p4⟩, kP, pP, p3, p4, p1, p5⟩
    | 4, hq => have e : (cA, FieldType.array .int) = q := Option.some.inj hq; subst e; exact ⟨fun N z => ⟨(fun k h => by cases h), kA, a3, pA, a4⟩, a5⟩
    | k + 5, hq => exact absurd (List.getElem?_eq_some_iff.mp hq).1 (by show ¬ k + 5 < 5; omega)
  · have hm := List.mem_filter.mp hw
    have hb := hts w hm.1
    have hg := hm.2
    cases w <;> first | exact va_Nw.of rfl hb | (simp [isNest] at hg)
theorem start_cs {s : State} {b : Nat} (hts : ∀ w ∈ lw_tbl, w.before #[Value.ref b] s = true) (hgv : (Jvm.Cond.and given_1 narrow_1).before #[Value.ref b] s = true) {A : Nat → Prop} (hA : ∀ a : Nat, a < s.heap.size → ¬ A a) : ∃ t k v : Nat, va_Z "DyeLots" "LIGHTS" "[I" (.ref t) A s s.heap ∧ va_T .int t 5 (fun j => .int (zi (lgt j))) A s s.heap ∧ va_Z "java/lang/String" "COMPACT_STRINGS" "Z" (.int 1) A s s.heap ∧ vk_S 1 [5] [[112, 98, 115, 99, 104]] (fun _ => k) (fun _ => v) A s s.heap ∧ vk_R "DyeLots$Page" 23 "pbsch" k s ∧ vk_R "DyeLots$Work" 43 "pbsch" k s := by
  have hs := flat_of_before _ hgv
  have hlen := va_eqt (hs (.eq (.length (.static "DyeLots" "LIGHTS" "[I")) (.int (Int32.ofNat 5))) (by decide +kernel))
  have e0 := va_eqt (hs (.eq (.elem (.static "DyeLots" "LIGHTS" "[I") (.int (Int32.ofNat 0))) (.int (zi (lgt 0)))) (by decide +kernel))
  have e1 := va_eqt (hs (.eq (.elem (.static "DyeLots" "LIGHTS" "[I") (.int (Int32.ofNat 1))) (.int (zi (lgt 1)))) (by decide +kernel))
  have e2 := va_eqt (hs (.eq (.elem (.static "DyeLots" "LIGHTS" "[I") (.int (Int32.ofNat 2))) (.int (zi (lgt 2)))) (by decide +kernel))
  have e3 := va_eqt (hs (.eq (.elem (.static "DyeLots" "LIGHTS" "[I") (.int (Int32.ofNat 3))) (.int (zi (lgt 3)))) (by decide +kernel))
  have e4 := va_eqt (hs (.eq (.elem (.static "DyeLots" "LIGHTS" "[I") (.int (Int32.ofNat 4))) (.int (zi (lgt 4)))) (by decide +kernel))
  obtain ⟨t, ht, hT⟩ := va_Tof (N := 5) (f := fun j => .int (zi (lgt j))) (A := A) (by decide) (hs (.arrayOf (.static "DyeLots" "LIGHTS" "[I") .int) (by decide +kernel)) hlen (fun j hj => by
    rcases (show j = 0 ∨ j = 1 ∨ j = 2 ∨ j = 3 ∨ j = 4 by omega) with rfl | rfl | rfl | rfl | rfl
    · exact e0
    · exact e1
    · exact e2
    · exact e3
    · exact e4) hA
  have hZ := va_Zof (A := A) (hts (.laysStatic "DyeLots" "LIGHTS" "[I") (List.mem_of_getElem? (i := 437) (by decide +kernel))) (hts (.initialized "DyeLots") (List.mem_of_getElem? (i := 43) (by decide +kernel))) ht hA
  have hC := va_Zof (A := A) (hts (.laysStatic "java/lang/String" "COMPACT_STRINGS" "Z") (List.mem_of_getElem? (i := 322) (by decide +kernel))) (hts (.initialized "java/lang/String") (List.mem_of_getElem? (i := 52) (by decide +kernel))) (va_eqi (hs (.eq (.static "java/lang/String" "COMPACT_STRINGS" "Z") (.int 1)) (by decide +kernel))) hA
  have x0 := hs (.eq (.elem (.field (.string "DyeLots$Page" 23) "java/lang/String" "value" "[B") (.int (Int32.ofNat 0))) (.int 112)) (by decide +kernel)
  have x1 := hs (.eq (.elem (.field (.string "DyeLots$Page" 23) "java/lang/String" "value" "[B") (.int (Int32.ofNat 1))) (.int 98)) (by decide +kernel)
  have x2 := hs (.eq (.elem (.field (.string "DyeLots$Page" 23) "java/lang/String" "value" "[B") (.int (Int32.ofNat 2))) (.int 115)) (by decide +kernel)
  have x3 := hs (.eq (.elem (.field (.string "DyeLots$Page" 23) "java/lang/String" "value" "[B") (.int (Int32.ofNat 3))) (.int 99)) (by decide +kernel)
  have x4 := hs (.eq (.elem (.field (.string "DyeLots$Page" 23) "java/lang/String" "value" "[B") (.int (Int32.ofNat 4))) (.int 104)) (by decide +kernel)
  have y0 := hs (.exactly (.string "DyeLots$Page" 23) "java/lang/String") (by decide +kernel)
  have y1 := hs (.eq (.field (.string "DyeLots$Page" 23) "java/lang/String" "coder" "B") (.int 0)) (by decide +kernel)
  have y2 := hs (.arrayOf (.field (.string "DyeLots$Page" 23) "java/lang/String" "value" "[B") .byte) (by decide +kernel)
  have y3 := hs (.eq (.length (.field (.string "DyeLots$Page" 23) "java/lang/String" "value" "[B")) (.int (Int32.ofNat 5))) (by decide +kernel)
  have y4 := hs (.eq (.string "DyeLots$Page" 23) (.string "DyeLots$Work" 43)) (by decide +kernel)
  have w1 : ∀ i : Nat, i < 1 → [5].getD i 0 < 2 ^ 31 := fun i hi => by
    obtain rfl : i = 0 := by omega
    decide
  have w2 : ∀ i : Nat, i < 1 → (Cond.eq (.length (.field (.string "DyeLots$Page" 23) "java/lang/String" "value" "[B")) (.int (Int32.ofNat ([5].getD i 0)))).before #[Value.ref b] s = true := fun i hi => by
    obtain rfl : i = 0 := by omega
    exact y3
  obtain ⟨adK, adV, hS, hev⟩ := vk_Sof (args := #[Value.ref b]) (s := s) (N := 1) (tm := fun _ => (.string "DyeLots$Page" 23)) (len := [5]) (byt := [[112, 98, 115, 99, 104]]) (A := A) w1 (fun i hi => y0) (fun i hi => y1) (fun i hi => y2) w2 (fun i hi j hj => by
    obtain rfl : i = 0 := by omega
    have hj : j < 5 := hj
    rcases (show j = 0 ∨ j = 1 ∨ j = 2 ∨ j = 3 ∨ j = 4 by omega) with rfl | rfl | rfl | rfl | rfl
    · exact x0
    · exact x1
    · exact x2
    · exact x3
    · exact x4) (fun i j hi hj hij => absurd (show i = j by omega) hij) hA
  have hk0 := hev 0 (by decide)
  refine ⟨t, adK 0, adV 0, hZ, hT, hC, ⟨fun i hi => ?_, fun i j hi hj _ => by omega⟩, vk_R.of (hts (.stringRef "DyeLots$Page" 23 "pbsch") (List.mem_of_getElem? (i := 308) (by decide +kernel))) hk0, vk_R.of (hts (.stringRef "DyeLots$Work" 43 "pbsch") (List.mem_of_getElem? (i := 410) (by decide +kernel))) (va_eqR y4 hk0)⟩
  obtain rfl : i = 0 := by omega
  exact hS.1 0 hi
def eaF (t k v b a7 a8 : Nat) (u7 u8 : Nat → Nat) (n : Nat) : Nat := if n = 900 then t else if n = 901 then k else if n = 902 then v else if n = 903 then b else if n = 0 then a7 else if n < 46 then u7 n else if n = 46 then a8 else u8 (n - 46)
theorem eaF_7 {t k v b a7 a8 : Nat} {u7 u8 : Nat → Nat} {n : Nat} (h0 : 0 < n) (h1 : n < 46) : eaF t k v b a7 a8 u7 u8 n = u7 n := by
  unfold eaF
  rw [if_neg (show ¬ n = 900 by omega), if_neg (show ¬ n = 901 by omega), if_neg (show ¬ n = 902 by omega), if_neg (show ¬ n = 903 by omega), if_neg (show ¬ n = 0 by omega), if_pos h1]
def Zm : Mm := (fun _ _ => 0, fun _ _ => 0)
theorem refs_at {D : va_G} {H : Heap} {a n : Nat} {cA : ClassId} {f f' : Nat → Option Nat} (h : va_at D vwCl (a, rfE cA n f) H) (hf : ∀ i, i < n → f i = f' i) : va_at D vwCl (a, rfE cA n f') H := by
  show H[a]? = some (vp_cell _ _)
  rw [vp_cell_q, ← arrV_same (c := cA) (N := n) (f := fun j => va_rf (f j)) (g := fun j => va_rf (f' j)) (fun j hj => by show va_rf (f j) = va_rf (f' j); rw [hf j hj])]
  exact h
section SP
variable {l : Launch} {D : va_G} {y : Nat → ClassId} {t k v b a7 a8 : Nat} {u7 u8 : Nat → Nat}
theorem start_get (n : Nat) (hn : n < 72) : ∃ e : va_E, (o7 y a7 u7 ++ o8 y a8 u8)[n]? = some (eaF t k v b a7 a8 u7 u8 n, e) := by
  match n, hn with
  | 0, _ => exact ⟨_, rfl⟩
  | 1, _ => exact ⟨_, rfl⟩
  | 2, _ => exact ⟨_, rfl⟩
  | 3, _ => exact ⟨_, rfl⟩
  | 4, _ => exact ⟨_, rfl⟩
  | 5, _ => exact ⟨_, rfl⟩
  | 6, _ => exact ⟨_, rfl⟩
  | 7, _ => exact ⟨_, rfl⟩
  | 8, _ => exact ⟨_, rfl⟩
  | 9, _ => exact ⟨_, rfl⟩
  | 10, _ => exact ⟨_, rfl⟩
  | 11, _ => exact ⟨_, rfl⟩
  | 12, _ => exact ⟨_, rfl⟩
  | 13, _ => exact ⟨_, rfl⟩
  | 14, _ => exact ⟨_, rfl⟩
  | 15, _ => exact ⟨_, rfl⟩
  | 16, _ => exact ⟨_, rfl⟩
  | 17, _ => exact ⟨_, rfl⟩
  | 18, _ => exact ⟨_, rfl⟩
  | 19, _ => exact ⟨_, rfl⟩
  | 20, _ => exact ⟨_, rfl⟩
  | 21, _ => exact ⟨_, rfl⟩
  | 22, _ => exact ⟨_, rfl⟩
  | 23, _ => exact ⟨_, rfl⟩
  | 24, _ => exact ⟨_, rfl⟩
  | 25, _ => exact ⟨_, rfl⟩
  | 26, _ => exact ⟨_, rfl⟩
  | 27, _ => exact ⟨_, rfl⟩
  | 28, _ => exact ⟨_, rfl⟩
  | 29, _ => exact ⟨_, rfl⟩
  | 30, _ => exact ⟨_, rfl⟩
  | 31, _ => exact ⟨_, rfl⟩
  | 32, _ => exact ⟨_, rfl⟩
  | 33, _ => exact ⟨_, rfl⟩
  | 34, _ => exact ⟨_, rfl⟩
  | 35, _ => exact ⟨_, rfl⟩
  | 36, _ => exact ⟨_, rfl⟩
  | 37, _ => exact ⟨_, rfl⟩
  | 38, _ => exact ⟨_, rfl⟩
  | 39, _ => exact ⟨_, rfl⟩
  | 40, _ => exact ⟨_, rfl⟩
  | 41, _ => exact ⟨_, rfl⟩
  | 42, _ => exact ⟨_, rfl⟩
  | 43, _ => exact ⟨_, rfl⟩
  | 44, _ => exact ⟨_, rfl⟩
  | 45, _ => exact ⟨_, rfl⟩
  | 46, _ => exact ⟨_, rfl⟩
  | 47, _ => exact ⟨_, rfl⟩
  | 48, _ => exact ⟨_, rfl⟩
  | 49, _ => exact ⟨_, rfl⟩
  | 50, _ => exact ⟨_, rfl⟩
  | 51, _ => exact ⟨_, rfl⟩
  | 52, _ => exact ⟨_, rfl⟩
  | 53, _ => exact ⟨_, rfl⟩
  | 54, _ => exact ⟨_, rfl⟩
  | 55, _ => exact ⟨_, rfl⟩
  | 56, _ => exact ⟨_, rfl⟩
  | 57, _ => exact ⟨_, rfl⟩
  | 58, _ => exact ⟨_, rfl⟩
  | 59, _ => exact ⟨_, rfl⟩
  | 60, _ => exact ⟨_, rfl⟩
  | 61, _ => exact ⟨_, rfl⟩
  | 62, _ => exact ⟨_, rfl⟩
  | 63, _ => exact ⟨_, rfl⟩
  | 64, _ => exact ⟨_, rfl⟩
  | 65, _ => exact ⟨_, rfl⟩
  | 66, _ => exact ⟨_, rfl⟩
  | 67, _ => exact ⟨_, rfl⟩
  | 68, _ => exact ⟨_, rfl⟩
  | 69, _ => exact ⟨_, rfl⟩
  | 70, _ => exact ⟨_, rfl⟩
  | 71, _ => exact ⟨_, rfl⟩
  | n + 72, h => exact absurd h (by omega)
theorem start_P {H : Heap} (hP : va_P D vwCl (o7 y a7 u7 ++ o8 y a8 u8) H) : va_P D vwCl (wsO (l, D, eaF t k v b a7 a8 u7 u8, y) Zm) H := by
  intro n q hq
  obtain ⟨hn, rfl⟩ := wsO_of _ _ hq
  match n, hn with
  | 0, _ => exact hP 0 _ rfl
  | 1, _ => exact hP 1 _ rfl
  | 2, _ => exact hP 2 _ rfl
  | 3, _ => exact hP 3 _ rfl
  | 4, _ => exact refs_at (n := 5) (f := fun j => some (u7 (6 + j))) (f' := fun j => some (eaF t k v b a7 a8 u7 u8 (6 + j))) (hP 4 _ rfl) (fun i hi => by show some (u7 (6 + i)) = some (eaF t k v b a7 a8 u7 u8 (6 + i)); rw [eaF_7 (by omega) (by omega)])
  | 5, _ => exact refs_at (n := 3) (f := fun j => some (u7 (11 + j))) (f' := fun j => some (eaF t k v b a7 a8 u7 u8 (11 + j))) (hP 5 _ rfl) (fun i hi => by show some (u7 (11 + i)) = some (eaF t k v b a7 a8 u7 u8 (11 + i)); rw [eaF_7 (by omega) (by omega)])
  | 6, _ => exact hP 6 _ rfl
  | 7, _ => exact hP 7 _ rfl
  | 8, _ => exact hP 8 _ rfl
  | 9, _ => exact hP 9 _ rfl
  | 10, _ => exact hP 10 _ rfl
  | 11, _ => exact hP 11 _ rfl
  | 12, _ => exact hP 12 _ rfl
  | 13, _ => exact hP 13 _ rfl
  | 14, _ => exact hP 14 _ rfl
  | 15, _ => exact refs_at (n := 5) (f := fun j => some (u7 (17 + j))) (f' := fun j => some (eaF t k v b a7 a8 u7 u8 (17 + j))) (hP 15 _ rfl) (fun i hi => by show some (u7 (17 + i)) = some (eaF t k v b a7 a8 u7 u8 (17 + i)); rw [eaF_7 (by omega) (by omega)])
  | 16, _ => exact refs_at (n := 3) (f := fun j => some (u7 (22 + j))) (f' := fun j => some (eaF t k v b a7 a8 u7 u8 (22 + j))) (hP 16 _ rfl) (fun i hi => by show some (u7 (22 + i)) = some (eaF t k v b a7 a8 u7 u8 (22 + i)); rw [eaF_7 (by omega) (by omega)])
  | 17, _ => exact hP 17 _ rfl
  | 18, _ => exact hP 18 _ rfl
  | 19, _ => exact hP 19 _ rfl
  | 20, _ => exact hP 20 _ rfl
  | 21, _ => exact hP 21 _ rfl
  | 22, _ => exact hP 22 _ rfl
  | 23, _ => exact hP 23 _ rfl
  | 24, _ => exact hP 24 _ rfl
  | 25, _ => exact hP 25 _ rfl
  | 26, _ => exact hP 26 _ rfl
  | 27, _ => exact hP 27 _ rfl
  | 28, _ => exact hP 28 _ rfl
  | 29, _ => exact hP 29 _ rfl
  | 30, _ => exact hP 30 _ rfl
  | 31, _ => exact hP 31 _ rfl
  | 32, _ => exact refs_at (n := 5) (f := fun j => some (u7 (33 + j))) (f' := fun j => some (eaF t k v b a7 a8 u7 u8 (33 + j))) (hP 32 _ rfl) (fun i hi => by show some (u7 (33 + i)) = some (eaF t k v b a7 a8 u7 u8 (33 + i)); rw [eaF_7 (by omega) (by omega)])
  | 33, _ => exact hP 33 _ rfl
  | 34, _ => exact hP 34 _ rfl
  | 35, _ => exact hP 35 _ rfl
  | 36, _ => exact hP 36 _ rfl
  | 37, _ => exact hP 37 _ rfl
  | 38, _ => exact refs_at (n := 5) (f := fun j => some (u7 (39 + j))) (f' := fun j => some (eaF t k v b a7 a8 u7 u8 (39 + j))) (hP 38 _ rfl) (fun i hi => by show some (u7 (39 + i)) = some (eaF t k v b a7 a8 u7 u8 (39 + i)); rw [eaF_7 (by omega) (by omega)])
  | 39, _ => exact hP 39 _ rfl
  | 40, _ => exact hP 40 _ rfl
  | 41, _ => exact hP 41 _ rfl
  | 42, _ => exact hP 42 _ rfl
  | 43, _ => exact hP 43 _ rfl
  | 44, _ => exact hP 44 _ rfl
  | 45, _ => exact hP 45 _ rfl
  | 46, _ => exact hP 46 _ rfl
  | 47, _ => exact hP 47 _ rfl
  | 48, _ => exact hP 48 _ rfl
  | 49, _ => exact hP 49 _ rfl
  | 50, _ => exact hP 50 _ rfl
  | 51, _ => exact hP 51 _ rfl
  | 52, _ => exact hP 52 _ rfl
  | 53, _ => exact hP 53 _ rfl
  | 54, _ => exact hP 54 _ rfl
  | 55, _ => exact hP 55 _ rfl
  | 56, _ => exact hP 56 _ rfl
  | 57, _ => exact hP 57 _ rfl
  | 58, _ => exact hP 58 _ rfl
  | 59, _ => exact hP 59 _ rfl
  | 60, _ => exact hP 60 _ rfl
  | 61, _ => exact hP 61 _ rfl
  | 62, _ => exact hP 62 _ rfl
  | 63, _ => exact hP 63 _ rfl
  | 64, _ => exact hP 64 _ rfl
  | 65, _ => exact hP 65 _ rfl
  | 66, _ => exact hP 66 _ rfl
  | 67, _ => exact hP 67 _ rfl
  | 68, _ => exact hP 68 _ rfl
  | 69, _ => exact hP 69 _ rfl
  | 70, _ => exact hP 70 _ rfl
  | 71, _ => exact hP 71 _ rfl
  | n + 72, h => exact absurd h (by omega)
end SP
theorem RC_0 : RC Z0 Zm := ⟨⟨⟨rfl, rfl, rfl⟩, fun p hp => absurd (show (p : Int) < 0 from hp) (by omega), fun p hp => absurd (show (p : Int) < 0 from hp) (by omega)⟩, ⟨rfl, fun p hp => absurd (show (p : Int) < 0 from hp) (by omega)⟩, ⟨rfl, rfl, rfl⟩, fun h => absurd (show (0 : Int) = 1 from h) (by decide), fun p _ => ⟨Or.inl rfl, Or.inl rfl⟩⟩
theorem RM_0 : RM Z0 Zm := ⟨⟨⟨rfl, rfl, rfl⟩, fun p hp => absurd (show (p : Int) < 0 from hp) (by omega), fun p hp => absurd (show (p : Int) < 0 from hp) (by omega)⟩, ⟨rfl, fun p hp => absurd (show (p : Int) < 0 from hp) (by omega)⟩, ⟨rfl, rfl, Or.inl rfl, ⟨Int.le_refl 0, Int.le_refl 0⟩, ⟨fun h => absurd (show (0 : Int) = 1 from h) (by decide), fun h => absurd (show (0 : Int) = 1 from h.1) (by decide)⟩⟩, fun h => absurd (show (0 : Int) = 1 from h) (by decide)⟩
/-- from the entry, for every script of at most 2048 ints, the law comes to its end with true -/
theorem whole_start {p : Program} {e : Env} {s : State} {m : MethodId} {below : List Frame} {meth : Method} {c : Code} (l : Launch) (hflags : l.flags = flags0) {b L : Nat} {xs : Nat → Int32} (hL : L ≤ 2048) (C0 : lw_At p s m meth c b L xs) : W p l e room_1 s m #[Value.ref b] below meth c s.heap [] 0 0 (lw_Z below #[Value.ref b] s) (entryFrame m ([Value.ref b] : List Value).toArray 4) := by
  obtain ⟨hx, hb, hr, hml, hown, hts, hXs, hbl, hlocks, hgv⟩ := id C0
  have htb : ∀ w ∈ TB, w.before #[Value.ref b] s = true := fun w hw => hts w (TB_in w hw)
  obtain ⟨D, hD⟩ := start_D htb
  obtain ⟨y, hW⟩ := start_y hts hD
  obtain ⟨t, k, v, z1, z2, z3, z4, z5, z6⟩ := start_cs (A := fun q : Nat => s.heap.size ≤ q) hts hgv (fun a h => Nat.not_le.mpr h)
  have hl := lv_entry ([.ref b]) (n := 4) (Nat.le_of_ble_eq_true rfl)
  rw [lg_entry_eq]
  generalize (lg_sl ([.ref b]) ++ List.replicate (4 - (lg_sl ([.ref b])).length) Slot.unset).toArray = rl at hl ⊢
  have hl : lv_has rl 4 [(0, .ref b)] := hl
  have hX : Gk D y mL 4 (p, e, room_1, s, m, #[Value.ref b], below, meth, c, lw_Z below #[Value.ref b] s, fun q : Nat => s.heap.size ≤ q) 72 423 := ⟨hx, hb, hml, hown, htb, fun _ h => h, by decide, (Nat.le_of_ble_eq_true rfl), (Nat.le_of_ble_eq_true rfl), (Nat.le_of_ble_eq_true rfl), (Nat.le_of_ble_eq_true rfl), hW⟩
  have K : G l D (p, e, room_1, s, m, #[Value.ref b], below, meth, c, lw_Z below #[Value.ref b] s, fun q : Nat => s.heap.size ≤ q) 0 [(0, .ref b)] [] [] 0 0 := by
    refine g_new hX fx7 clL_7 in_7 ii_7 z7 df7 dL_law_0 (Nat.le_of_ble_eq_true rfl) (Nat.le_of_ble_eq_true rfl) (fun a7 => ?_)
    refine g_dup hX dL_law_3 ?_
    refine g_call (wr := []) (out2 := o7 y a7) (mc2 := 45) (ms2 := 254) hX liL_9 (by decide) (Nat.le_of_ble_eq_true rfl) (Nat.le_of_ble_eq_true rfl) (Nat.le_of_ble_eq_true rfl) (ct7 a7) dL_law_4 (fun u7 => ?_)
    refine g_as (ls' := [(1, .ref a7), (0, .ref b)]) hX dL_law_7 rfl (by decide) rfl ?_
    refine g_new hX fx8 clL_10 in_8 ii_8 z8 df8 dL_law_8 (Nat.le_of_ble_eq_true rfl) (Nat.le_of_ble_eq_true rfl) (fun a8 => ?_)
    refine g_dup hX dL_law_11 ?_
    refine g_call (wr := [] ++ o7 y a7 u7) (out2 := o8 y a8) (mc2 := 25) (ms2 := 122) hX liL_12 (by decide) (Nat.le_of_ble_eq_true rfl) (Nat.le_of_ble_eq_true rfl) (Nat.le_of_ble_eq_true rfl) (ct8 a8) dL_law_12 (fun u8 => ?_)
    refine g_as (ls' := [(2, .ref a8), (1, .ref a7), (0, .ref b)]) hX dL_law_15 rfl (by decide) rfl ?_
    refine g_ic hX dL_law_16 ?_
    refine g_is (ls' := [(3, .int (zi 0)), (2, .ref a8), (1, .ref a7), (0, .ref b)]) hX dL_law_17 rfl (by decide) rfl ?_
    refine g_cell (c1 := 72) (s1 := 423) (Nat.le_of_ble_eq_true rfl) (Nat.le_of_ble_eq_true rfl) ?_
    intro H locs rl hP hD2 hS hl
    have hP : va_P D vwCl (o7 y a7 u7 ++ o8 y a8 u8) H := hP
    have hD2 : va_D (fun q : Nat => s.heap.size ≤ q) (o7 y a7 u7 ++ o8 y a8 u8) := hD2
    have hi : einj (l, D, eaF t k v b a7 a8 u7 u8, y) := by
      intro i j hi hj he
      obtain ⟨e1, h1⟩ := start_get (y := y) (t := t) (k := k) (v := v) (b := b) (a7 := a7) (a8 := a8) (u7 := u7) (u8 := u8) i hi
      obtain ⟨e2, h2⟩ := start_get (y := y) (t := t) (k := k) (v := v) (b := b) (a7 := a7) (a8 := a8) (u7 := u7) (u8 := u8) j hj
      exact hD2.1 i j _ _ h1 h2 he
    have hAA : ∀ q, wA (l, D, eaF t k v b a7 a8 u7 u8, y) q → s.heap.size ≤ q := by
      rintro q ⟨i, hi, rfl⟩
      obtain ⟨e1, h1⟩ := start_get (y := y) (t := t) (k := k) (v := v) (b := b) (a7 := a7) (a8 := a8) (u7 := u7) (u8 := u8) i hi
      exact hD2.2 i _ h1
    have hXk : Xk (l, D, eaF t k v b a7 a8 u7 u8, y) mL (p, e, room_1, s, m, #[Value.ref b], below, meth, c, 72, 423, lw_Z below #[Value.ref b] s, fun q : Nat => s.heap.size ≤ q) := ⟨hx, hb, hml, hown, htb, ⟨hW.1, hi, z1, z2, z3, z4, z5, z6, hW.2.1⟩, hAA, (Nat.le_of_ble_eq_true rfl), (Nat.le_of_ble_eq_true rfl), (Nat.le_of_ble_eq_true rfl), (Nat.le_of_ble_eq_true rfl)⟩
    have hLX : LX (l, D, eaF t k v b a7 a8 u7 u8, y) (p, e, room_1, s, m, #[Value.ref b], below, meth, c, 72, 423, lw_Z below #[Value.ref b] s, fun q : Nat => s.heap.size ≤ q) L xs := ⟨hXs, hbl, rfl, rfl, rfl, rfl, (Nat.le_of_ble_eq_true rfl), (Nat.le_of_ble_eq_true rfl), hr, hlocks⟩
    exact law_loop hXk hLX hL 513 0 Z0 Zm ⟨rfl, by omega, RC_0, RM_0, WZ_0⟩ H locs rl (start_P hP) hS (lv_sub hl [3, 2, 1, 0] rfl)
  exact K s.heap [] rl (fun k q h => by simp at h) ⟨fun i j p q h => by simp at h, fun k q h => by simp at h⟩ va_S.rf (by rw [hml]; exact hl)
