section GA
variable {l : Launch} {D : va_G} {y : Nat → ClassId} {M : Mt} {X : Cw} {pc d : Nat} {ls : List (Nat × Value)} {cells slots mc ms : Nat}
/-- this.f = new int[N] -/
theorem g_arr (hX : Gk D y M d X mc ms) (hi : Gi X) {ci idx N Nf j a : Nat} {C : String} {T : u_T} {ty : Nat → FieldType} {fs : List Value} {wr : va_W} (hf : FXk ci C T Nf ty) (hl : ls[0]? = some (0, .ref a)) (hlk : FLk M.1.cls idx ci j) (hC : C = M.1.cls) (hfin : (T j).2.2.2 = true) (hty : ty j = .array .int) (hl0 : j < fs.length) (hN : N ≤ 1000) (d0 : decode M.2.1 pc = .ok (.aload_n 0, 1)) (d1 : decode M.2.1 (pc + 1) = .ok (.iconst (N : Int), 1)) (d2 : decode M.2.1 (pc + 1 + 1) = .ok (.newarray .int, 2)) (d3 : decode M.2.1 (pc + 1 + 1 + 2) = .ok (.putfield idx, 3)) (hc : cells + 1 ≤ mc) (hs : slots + N ≤ ms) (k : ∀ q : Nat, G l D X (pc + 1 + 1 + 2 + 3) ls [] ((a, .inr (ci, fs.set j (.ref q))) :: (wr ++ [(q, ziE (y 10) N)])) (cells + 1) (slots + N)) : G l D X pc ls [] ((a, .inr (ci, fs)) :: wr) cells slots := by
  refine g_al hX 0 d0 rfl hl ?_
  refine g_ic hX d1 ?_
  refine g_newI hX hN wa_I d2 hc hs (fun q => ?_)
  exact g_put hX hi (q0 := 0) hf rfl hlk hC hfin (by rw [hty]; rfl) (by rw [hty]; rfl) hl0 d3 (k q)
theorem g_arrP (hX : Gk D y M d X mc ms) (hi : Gi X) {ci idx N Nf j a : Nat} {C : String} {T : u_T} {ty : Nat → FieldType} {fs : List Value} {wr : va_W} (hf : FXk ci C T Nf ty) (hl : ls[0]? = some (0, .ref a)) (hlk : FLk M.1.cls idx ci j) (hC : C = M.1.cls) (hfin : (T j).2.2.2 = true) (hty : ty j = .array .int) (hl0 : j < fs.length) (hN : N ≤ 1000) (hn : (Int8.ofInt (N : Int)).toInt32 = zi (N : Int)) (d0 : decode M.2.1 pc = .ok (.aload_n 0, 1)) (d1 : decode M.2.1 (pc + 1) = .ok (.bipush (N : Int), 2)) (d2 : decode M.2.1 (pc + 1 + 2) = .ok (.newarray .int, 2)) (d3 : decode M.2.1 (pc + 1 + 2 + 2) = .ok (.putfield idx, 3)) (hc : cells + 1 ≤ mc) (hs : slots + N ≤ ms) (k : ∀ q : Nat, G l D X (pc + 1 + 2 + 2 + 3) ls [] ((a, .inr (ci, fs.set j (.ref q))) :: (wr ++ [(q, ziE (y 10) N)])) (cells + 1) (slots + N)) : G l D X pc ls [] ((a, .inr (ci, fs)) :: wr) cells slots := by
  refine g_al hX 0 d0 rfl hl ?_
  refine g_bp hX d1 hn ?_
  refine g_newI hX hN wa_I d2 hc hs (fun q => ?_)
  exact g_put hX hi (q0 := 0) hf rfl hlk hC hfin (by rw [hty]; rfl) (by rw [hty]; rfl) hl0 d3 (k q)
theorem g_arrB (hX : Gk D y M d X mc ms) (hi : Gi X) {ci idx N Nf j a : Nat} {C : String} {T : u_T} {ty : Nat → FieldType} {fs : List Value} {wr : va_W} (hf : FXk ci C T Nf ty) (hl : ls[0]? = some (0, .ref a)) (hlk : FLk M.1.cls idx ci j) (hC : C = M.1.cls) (hfin : (T j).2.2.2 = true) (hty : ty j = .array .byte) (hl0 : j < fs.length) (hN : N ≤ 1000) (hn : (Int8.ofInt (N : Int)).toInt32 = zi (N : Int)) (d0 : decode M.2.1 pc = .ok (.aload_n 0, 1)) (d1 : decode M.2.1 (pc + 1) = .ok (.bipush (N : Int), 2)) (d2 : decode M.2.1 (pc + 1 + 2) = .ok (.newarray .byte, 2)) (d3 : decode M.2.1 (pc + 1 + 2 + 2) = .ok (.putfield idx, 3)) (hc : cells + 1 ≤ mc) (hs : slots + N ≤ ms) (k : ∀ q : Nat, G l D X (pc + 1 + 2 + 2 + 3) ls [] ((a, .inr (ci, fs.set j (.ref q))) :: (wr ++ [(q, ziE (y 11) N)])) (cells + 1) (slots + N)) : G l D X pc ls [] ((a, .inr (ci, fs)) :: wr) cells slots := by
  refine g_al hX 0 d0 rfl hl ?_
  refine g_bp hX d1 hn ?_
  refine g_newB hX hN wa_B d2 hc hs (fun q => ?_)
  exact g_put hX hi (q0 := 0) hf rfl hlk hC hfin (by rw [hty]; rfl) (by rw [hty]; rfl) hl0 d3 (k q)
/-- this.f = new int[N][K] -/
theorem g_arr2 (hX : Gk D y M d X mc ms) (hi : Gi X) {ci idx ix2 N K Nf j a : Nat} {C : String} {T : u_T} {ty : Nat → FieldType} {fs : List Value} {wr : va_W} (hf : FXk ci C T Nf ty) (hl : ls[0]? = some (0, .ref a)) (hlk : FLk M.1.cls idx ci j) (hC : C = M.1.cls) (hfin : (T j).2.2.2 = true) (hty : ty j = .array (.array .int)) (hl0 : j < fs.length) (hN : N ≤ 1000) (hK : K ≤ 1000) (hn : (Int8.ofInt (K : Int)).toInt32 = zi (K : Int)) (hcl : Cond.classLink M.1.cls ix2 "[[I" ∈ TB) (d0 : decode M.2.1 pc = .ok (.aload_n 0, 1)) (d1 : decode M.2.1 (pc + 1) = .ok (.iconst (N : Int), 1)) (d2 : decode M.2.1 (pc + 1 + 1) = .ok (.bipush (K : Int), 2)) (d3 : decode M.2.1 (pc + 1 + 1 + 2) = .ok (.multianewarray ix2 2, 4)) (d4 : decode M.2.1 (pc + 1 + 1 + 2 + 4) = .ok (.putfield idx, 3)) (hc : cells + 1 + N ≤ mc) (hs : slots + N + N * K ≤ ms) (k : ∀ (q : Nat) (r : Nat → Nat), G l D X (pc + 1 + 1 + 2 + 4 + 3) ls [] ((a, .inr (ci, fs.set j (.ref q))) :: ((wr ++ [(q, rfE (y 14) N (fun i => if i < N then some (r i) else none))]) ++ (List.range N).map (fun i => (r i, ziE (y 10) K)))) (cells + 1 + N) (slots + N + N * K)) : G l D X pc ls [] ((a, .inr (ci, fs)) :: wr) cells slots := by
  refine g_al hX 0 d0 rfl hl ?_
  refine g_ic hX d1 ?_
  refine g_bp hX d2 hn ?_
  refine g_mna hX hN hK hcl wa_I d3 hc hs (fun q r => ?_)
  exact g_put hX hi (q0 := 0) hf rfl hlk hC hfin (by rw [hty]; rfl) (by rw [hty]; rfl) hl0 d4 (k q r)
/-- this.f = new C(), C a nest mate -/
theorem g_mkN (hX : Gk D y M d X mc ms) (hi : Gi X) {ci c2 idx ix2 ix3 Nf N2 j a d2 mc2 ms2 : Nat} {C C2 host : String} {T T2 : u_T} {ty ty2 : Nat → FieldType} {fs f2 : List Value} {wr : va_W} {M2 : Mt} {out2 : Nat → (Nat → Nat) → va_W} (hf : FXk ci C T Nf ty) (hf2 : FXk c2 C2 T2 N2 ty2) (hl : ls[0]? = some (0, .ref a)) (hlk : FLk M.1.cls idx ci j) (hC : C = M.1.cls) (hfin : (T j).2.2.2 = true) (hty : ty j = .object C2) (hl0 : j < fs.length) (hcl : Cond.classLink M.1.cls ix2 C2 ∈ TB) (hin : Cond.instantiable C2 N2 ∈ TB) (hini : Cond.initialized C2 ∈ TB) (hf0 : ∀ j, j < N2 → defaultValue (ty2 j) = vp_V f2 j) (hlk2 : LkI M.1.cls ix3 M2 host) (hfit : d2 + 1 ≤ d) (hct : ∀ q sz : Nat, Ct l D y M2 d2 mc2 ms2 q sz (.inr (c2, f2)) (out2 q)) (d0 : decode M.2.1 pc = .ok (.aload_n 0, 1)) (d1 : decode M.2.1 (pc + 1) = .ok (.new ix2, 3)) (d2' : decode M.2.1 (pc + 1 + 3) = .ok (.dup, 1)) (d3 : decode M.2.1 (pc + 1 + 3 + 1) = .ok (.invokespecial ix3, 3)) (d4 : decode M.2.1 (pc + 1 + 3 + 1 + 3) = .ok (.putfield idx, 3)) (hc : cells + 1 + mc2 ≤ mc) (hs : slots + N2 + ms2 ≤ ms) (k : ∀ (q : Nat) (u : Nat → Nat), G l D X (pc + 1 + 3 + 1 + 3 + 3) ls [] ((a, .inr (ci, fs.set j (.ref q))) :: (wr ++ out2 q u)) (cells + 1 + mc2) (slots + N2 + ms2)) : G l D X pc ls [] ((a, .inr (ci, fs)) :: wr) cells slots := by
  refine g_al hX 0 d0 rfl hl ?_
  refine g_new hX hf2 hcl hin hini f2 hf0 d1 (by omega) (by omega) (fun q => ?_)
  refine g_dup hX d2' ?_
  refine g_callN hX hlk2 hfit (Nat.le_of_ble_eq_true rfl) hc hs (hct q) d3 (fun u => ?_)
  exact g_put hX hi (q0 := 0) hf rfl hlk hC hfin (by rw [hty]; rfl) (by rw [hty]; rfl) hl0 d4 (k q u)
theorem g_mk (hX : Gk D y M d X mc ms) (hi : Gi X) {ci c2 idx ix2 ix3 Nf N2 j a d2 mc2 ms2 : Nat} {C C2 : String} {T T2 : u_T} {ty ty2 : Nat → FieldType} {fs f2 : List Value} {wr : va_W} {M2 : Mt} {out2 : Nat → (Nat → Nat) → va_W} (hf : FXk ci C T Nf ty) (hf2 : FXk c2 C2 T2 N2 ty2) (hl : ls[0]? = some (0, .ref a)) (hlk : FLk M.1.cls idx ci j) (hC : C = M.1.cls) (hfin : (T j).2.2.2 = true) (hty : ty j = .object C2) (hl0 : j < fs.length) (hcl : Cond.classLink M.1.cls ix2 C2 ∈ TB) (hin : Cond.instantiable C2 N2 ∈ TB) (hini : Cond.initialized C2 ∈ TB) (hf0 : ∀ j, j < N2 → defaultValue (ty2 j) = vp_V f2 j) (hlk2 : LkP M.1.cls ix3 M2) (hfit : d2 + 1 ≤ d) (hct : ∀ q sz : Nat, Ct l D y M2 d2 mc2 ms2 q sz (.inr (c2, f2)) (out2 q)) (d0 : decode M.2.1 pc = .ok (.aload_n 0, 1)) (d1 : decode M.2.1 (pc + 1) = .ok (.new ix2, 3)) (d2' : decode M.2.1 (pc + 1 + 3) = .ok (.dup, 1)) (d3 : decode M.2.1 (pc + 1 + 3 + 1) = .ok (.invokespecial ix3, 3)) (d4 : decode M.2.1 (pc + 1 + 3 + 1 + 3) = .ok (.putfield idx, 3)) (hc : cells + 1 + mc2 ≤ mc) (hs : slots + N2 + ms2 ≤ ms) (k : ∀ (q : Nat) (u : Nat → Nat), G l D X (pc + 1 + 3 + 1 + 3 + 3) ls [] ((a, .inr (ci, fs.set j (.ref q))) :: (wr ++ out2 q u)) (cells + 1 + mc2) (slots + N2 + ms2)) : G l D X pc ls [] ((a, .inr (ci, fs)) :: wr) cells slots := by
  refine g_al hX 0 d0 rfl hl ?_
  refine g_new hX hf2 hcl hin hini f2 hf0 d1 (by omega) (by omega) (fun q => ?_)
  refine g_dup hX d2' ?_
  refine g_call hX hlk2 hfit (Nat.le_of_ble_eq_true rfl) hc hs (hct q) d3 (fun u => ?_)
  exact g_put hX hi (q0 := 0) hf rfl hlk hC hfin (by rw [hty]; rfl) (by rw [hty]; rfl) hl0 d4 (k q u)
end GA
theorem cl2 : Cond.classLink RX1 15 "[[I" ∈ TB := inTB 225 (by decide +kernel) (by decide +kernel)
abbrev z0 : List Value := [.null, .long 0]
theorem df0 : ∀ j, j < 2 → defaultValue (tyX0 j) = vp_V z0 j := by decide +kernel
abbrev z1 : List Value := [.null, .null, .null, .int 0, .int 0]
theorem df1 : ∀ j, j < 5 → defaultValue (tyX1 j) = vp_V z1 j := by decide +kernel
abbrev z2 : List Value := [.int 0, .int 0, .int 0]
theorem df2 : ∀ j, j < 3 → defaultValue (tyX2 j) = vp_V z2 j := by decide +kernel
abbrev z3 : List Value := [.null, .int 0]
theorem df3 : ∀ j, j < 2 → defaultValue (tyX3 j) = vp_V z3 j := by decide +kernel
abbrev z4 : List Value := [.int 0, .int 0, .int 0, .int 0, .int 0, .int 0, .int 0, .int 0]
theorem df4 : ∀ j, j < 8 → defaultValue (tyX4 j) = vp_V z4 j := by decide +kernel
abbrev z5 : List Value := [.null, .null, .null, .null, .int 0, .int 0]
theorem df5 : ∀ j, j < 6 → defaultValue (tyX5 j) = vp_V z5 j := by decide +kernel
abbrev z6 : List Value := [.null, .null, .int 0, .int 0, .int 0]
theorem df6 : ∀ j, j < 5 → defaultValue (tyX6 j) = vp_V z6 j := by decide +kernel
abbrev z7 : List Value := [.null, .null, .null, .null, .null, .null, .int 0, .int 0, .int 0]
theorem df7 : ∀ j, j < 9 → defaultValue (tyX7 j) = vp_V z7 j := by decide +kernel
abbrev z8 : List Value := [.int 0, .int 0, .int 0, .null, .null, .null, .null, .null, .null, .null, .null, .int 0, .null, .null, .null, .int 0, .int 0, .null, .int 0, .int 0, .null, .null, .null, .long 0, .null, .int 0, .int 0, .int 0, .null, .null, .null, .null, .null, .null, .null, .null, .null, .long 0]
theorem df8 : ∀ j, j < 38 → defaultValue (tyX8 j) = vp_V z8 j := by decide +kernel
abbrev o4 (y : Nat → ClassId) (a : Nat) (u : Nat → Nat) : va_W := [(a, .inr (4, [.int 0, .int 0, .int 0, .int 0, .int 0, .int 0, .int 0, .int 0]))]
abbrev o2 (y : Nat → ClassId) (a : Nat) (u : Nat → Nat) : va_W := [(a, .inr (2, [.int 0, .int 0, .int 0]))]
abbrev o3 (y : Nat → ClassId) (a : Nat) (u : Nat → Nat) : va_W := [(a, .inr (3, [.ref (u 1), .int 0])), (u 1, ziE (y 10) 18)]
abbrev o0 (y : Nat → ClassId) (a : Nat) (u : Nat → Nat) : va_W := [(a, .inr (0, [.ref (u 1), .long 0])), (u 1, ziE (y 10) 3)]
abbrev o5 (y : Nat → ClassId) (a : Nat) (u : Nat → Nat) : va_W := [(a, .inr (5, [.ref (u 1), .ref (u 2), .ref (u 3), .ref (u 4), .int 0, .int 0])), (u 1, ziE (y 10) 5), (u 2, ziE (y 10) 5), (u 3, ziE (y 10) 5), (u 4, ziE (y 10) 3)]
abbrev o1 (y : Nat → ClassId) (a : Nat) (u : Nat → Nat) : va_W := [(a, .inr (1, [.ref (u 1), .ref (u 2), .ref (u 8), .int 0, .int 0])), (u 1, ziE (y 10) 6), (u 2, rfE (y 14) 5 (fun j => some (u (3 + j)))), (u 3, ziE (y 10) 6), (u 4, ziE (y 10) 6), (u 5, ziE (y 10) 6), (u 6, ziE (y 10) 6), (u 7, ziE (y 10) 6), (u 8, rfE (y 14) 5 (fun j => some (u (9 + j)))), (u 9, ziE (y 10) 6), (u 10, ziE (y 10) 6), (u 11, ziE (y 10) 6), (u 12, ziE (y 10) 6), (u 13, ziE (y 10) 6)]
abbrev o6 (y : Nat → ClassId) (a : Nat) (u : Nat → Nat) : va_W := [(a, .inr (6, [.ref (u 1), .ref (u 2), .int 0, .int 0, .int 0])), (u 1, rfE (y 13) 5 (fun j => some (u (3 + j)))), (u 2, rfE (y 12) 3 (fun j => some (u (8 + j)))), (u 3, .inr (4, [.int 0, .int 0, .int 0, .int 0, .int 0, .int 0, .int 0, .int 0])), (u 4, .inr (4, [.int 0, .int 0, .int 0, .int 0, .int 0, .int 0, .int 0, .int 0])), (u 5, .inr (4, [.int 0, .int 0, .int 0, .int 0, .int 0, .int 0, .int 0, .int 0])), (u 6, .inr (4, [.int 0, .int 0, .int 0, .int 0, .int 0, .int 0, .int 0, .int 0])), (u 7, .inr (4, [.int 0, .int 0, .int 0, .int 0, .int 0, .int 0, .int 0, .int 0])), (u 8, .inr (2, [.int 0, .int 0, .int 0])), (u 9, .inr (2, [.int 0, .int 0, .int 0])), (u 10, .inr (2, [.int 0, .int 0, .int 0]))]
abbrev o7 (y : Nat → ClassId) (a : Nat) (u : Nat → Nat) : va_W := [(a, .inr (7, [.ref (u 1), .ref (u 3), .ref (u 14), .ref (u 25), .ref (u 30), .ref (u 44), .int 0, .int 0, .int 0])), (u 1, .inr (3, [.ref (u 2), .int 0])), (u 2, ziE (y 10) 18), (u 3, .inr (6, [.ref (u 4), .ref (u 5), .int 0, .int 0, .int 0])), (u 4, rfE (y 13) 5 (fun j => some (u (6 + j)))), (u 5, rfE (y 12) 3 (fun j => some (u (11 + j)))), (u 6, .inr (4, [.int 0, .int 0, .int 0, .int 0, .int 0, .int 0, .int 0, .int 0])), (u 7, .inr (4, [.int 0, .int 0, .int 0, .int 0, .int 0, .int 0, .int 0, .int 0])), (u 8, .inr (4, [.int 0, .int 0, .int 0, .int 0, .int 0, .int 0, .int 0, .int 0])), (u 9, .inr (4, [.int 0, .int 0, .int 0, .int 0, .int 0, .int 0, .int 0, .int 0])), (u 10, .inr (4, [.int 0, .int 0, .int 0, .int 0, .int 0, .int 0, .int 0, .int 0])), (u 11, .inr (2, [.int 0, .int 0, .int 0])), (u 12, .inr (2, [.int 0, .int 0, .int 0])), (u 13, .inr (2, [.int 0, .int 0, .int 0])), (u 14, .inr (6, [.ref (u 15), .ref (u 16), .int 0, .int 0, .int 0])), (u 15, rfE (y 13) 5 (fun j => some (u (17 + j)))), (u 16, rfE (y 12) 3 (fun j => some (u (22 + j)))), (u 17, .inr (4, [.int 0, .int 0, .int 0, .int 0, .int 0, .int 0, .int 0, .int 0])), (u 18, .inr (4, [.int 0, .int 0, .int 0, .int 0, .int 0, .int 0, .int 0, .int 0])), (u 19, .inr (4, [.int 0, .int 0, .int 0, .int 0, .int 0, .int 0, .int 0, .int 0])), (u 20, .inr (4, [.int 0, .int 0, .int 0, .int 0, .int 0, .int 0, .int 0, .int 0])), (u 21, .inr (4, [.int 0, .int 0, .int 0, .int 0, .int 0, .int 0, .int 0, .int 0])), (u 22, .inr (2, [.int 0, .int 0, .int 0])), (u 23, .inr (2, [.int 0, .int 0, .int 0])), (u 24, .inr (2, [.int 0, .int 0, .int 0])), (u 25, .inr (5, [.ref (u 26), .ref (u 27), .ref (u 28), .ref (u 29), .int 0, .int 0])), (u 26, ziE (y 10) 5), (u 27, ziE (y 10) 5), (u 28, ziE (y 10) 5), (u 29, ziE (y 10) 3), (u 30, .inr (1, [.ref (u 31), .ref (u 32), .ref (u 38), .int 0, .int 0])), (u 31, ziE (y 10) 6), (u 32, rfE (y 14) 5 (fun j => some (u (33 + j)))), (u 33, ziE (y 10) 6), (u 34, ziE (y 10) 6), (u 35, ziE (y 10) 6), (u 36, ziE (y 10) 6), (u 37, ziE (y 10) 6), (u 38, rfE (y 14) 5 (fun j => some (u (39 + j)))), (u 39, ziE (y 10) 6), (u 40, ziE (y 10) 6), (u 41, ziE (y 10) 6), (u 42, ziE (y 10) 6), (u 43, ziE (y 10) 6), (u 44, .inr (0, [.ref (u 45), .long 0])), (u 45, ziE (y 10) 3)]
abbrev o8 (y : Nat → ClassId) (a : Nat) (u : Nat → Nat) : va_W := [(a, .inr (8, [.int 0, .int 0, .int 0, .ref (u 1), .ref (u 2), .ref (u 3), .ref (u 4), .ref (u 5), .ref (u 6), .ref (u 7), .ref (u 8), .int 0, .ref (u 9), .ref (u 10), .ref (u 11), .int 0, .int 0, .ref (u 12), .int 0, .int 0, .ref (u 13), .ref (u 14), .ref (u 15), .long 0, .ref (u 16), .int 0, .int 0, .int 0, .ref (u 17), .ref (u 18), .ref (u 19), .ref (u 20), .ref (u 21), .ref (u 22), .ref (u 23), .ref (u 24), .ref (u 25), .long 0])), (u 1, ziE (y 10) 5), (u 2, ziE (y 10) 5), (u 3, ziE (y 10) 5), (u 4, ziE (y 10) 5), (u 5, ziE (y 10) 5), (u 6, ziE (y 10) 5), (u 7, ziE (y 10) 5), (u 8, ziE (y 10) 5), (u 9, ziE (y 10) 3), (u 10, ziE (y 10) 3), (u 11, ziE (y 10) 3), (u 12, ziE (y 11) 18), (u 13, ziE (y 10) 5), (u 14, ziE (y 10) 5), (u 15, ziE (y 10) 3), (u 16, ziE (y 10) 3), (u 17, ziE (y 10) 5), (u 18, ziE (y 10) 5), (u 19, ziE (y 10) 5), (u 20, ziE (y 10) 5), (u 21, ziE (y 10) 5), (u 22, ziE (y 10) 5), (u 23, ziE (y 10) 3), (u 24, ziE (y 10) 3), (u 25, ziE (y 10) 3)]
theorem ct4 {l : Launch} {D : va_G} {y : Nat → ClassId} (a sz : Nat) : Ct l D y mX4_init 1 0 0 a sz (.inr (4, z4)) (o4 y a) := by
  refine Ct_of gmX4_init rfl rfl (by decide) (by decide) (fun X hX hi hE => ?_)
  refine g_al hX 0 dX4_init_0 rfl rfl ?_
  refine g_obj hX loX4 wo_i wo_c (Nat.le_of_ble_eq_true rfl) dX4_init_1 ?_
  exact g_ret hX hE (fun _ => 0) rfl dX4_init_4
theorem ct2 {l : Launch} {D : va_G} {y : Nat → ClassId} (a sz : Nat) : Ct l D y mX2_init 1 0 0 a sz (.inr (2, z2)) (o2 y a) := by
  refine Ct_of gmX2_init rfl rfl (by decide) (by decide) (fun X hX hi hE => ?_)
  refine g_al hX 0 dX2_init_0 rfl rfl ?_
  refine g_obj hX loX2 wo_i wo_c (Nat.le_of_ble_eq_true rfl) dX2_init_1 ?_
  exact g_ret hX hE (fun _ => 0) rfl dX2_init_4
theorem ct3 {l : Launch} {D : va_G} {y : Nat → ClassId} (a sz : Nat) : Ct l D y mX3_init 1 1 18 a sz (.inr (3, z3)) (o3 y a) := by
  refine Ct_of gmX3_init rfl rfl (by decide) (by decide) (fun X hX hi hE => ?_)
  refine g_al hX 0 dX3_init_0 rfl rfl ?_
  refine g_obj hX loX3 wo_i wo_c (Nat.le_of_ble_eq_true rfl) dX3_init_1 ?_
  refine g_arrP (N := 18) (ls := [(0, .ref a)]) (pc := 4) (a := a) (fs := [.null, .int 0]) (wr := []) (cells := 0) (slots := 0) hX hi fx3 rfl flX3_9 rfl rfl rfl (Nat.le_of_ble_eq_true rfl) (Nat.le_of_ble_eq_true rfl) (by decide) dX3_init_4 dX3_init_5 dX3_init_7 dX3_init_9 (Nat.le_of_ble_eq_true rfl) (Nat.le_of_ble_eq_true rfl) (fun q1 => ?_)
  exact g_ret hX hE (fun i => [a, q1].getD i 0) rfl dX3_init_12
theorem ct0 {l : Launch} {D : va_G} {y : Nat → ClassId} (a sz : Nat) : Ct l D y mX0_init 1 1 3 a sz (.inr (0, z0)) (o0 y a) := by
  refine Ct_of gmX0_init rfl rfl (by decide) (by decide) (fun X hX hi hE => ?_)
  refine g_al hX 0 dX0_init_0 rfl rfl ?_
  refine g_obj hX loX0 wo_i wo_c (Nat.le_of_ble_eq_true rfl) dX0_init_1 ?_
  refine g_arr (N := 3) (ls := [(0, .ref a)]) (pc := 4) (a := a) (fs := [.null, .long 0]) (wr := []) (cells := 0) (slots := 0) hX hi fx0 rfl flX0_9 rfl rfl rfl (Nat.le_of_ble_eq_true rfl) (Nat.le_of_ble_eq_true rfl) dX0_init_4 dX0_init_5 dX0_init_6 dX0_init_8 (Nat.le_of_ble_eq_true rfl) (Nat.le_of_ble_eq_true rfl) (fun q1 => ?_)
  exact g_ret hX hE (fun i => [a, q1].getD i 0) rfl dX0_init_11
theorem ct5 {l : Launch} {D : va_G} {y : Nat → ClassId} (a sz : Nat) : Ct l D y mX5_init 1 4 18 a sz (.inr (5, z5)) (o5 y a) := by
  refine Ct_of gmX5_init rfl rfl (by decide) (by decide) (fun X hX hi hE => ?_)
  refine g_al hX 0 dX5_init_0 rfl rfl ?_
  refine g_obj hX loX5 wo_i wo_c (Nat.le_of_ble_eq_true rfl) dX5_init_1 ?_
  refine g_arr (N := 5) (ls := [(0, .ref a)]) (pc := 4) (a := a) (fs := [.null, .null, .null, .null, .int 0, .int 0]) (wr := []) (cells := 0) (slots := 0) hX hi fx5 rfl flX5_9 rfl rfl rfl (Nat.le_of_ble_eq_true rfl) (Nat.le_of_ble_eq_true rfl) dX5_init_4 dX5_init_5 dX5_init_6 dX5_init_8 (Nat.le_of_ble_eq_true rfl) (Nat.le_of_ble_eq_true rfl) (fun q1 => ?_)
  refine g_arr (N := 5) (ls := [(0, .ref a)]) (pc := 11) (a := a) (fs := [.ref q1, .null, .null, .null, .int 0, .int 0]) (wr := [(q1, ziE (y 10) 5)]) (cells := 1) (slots := 5) hX hi fx5 rfl flX5_15 rfl rfl rfl (Nat.le_of_ble_eq_true rfl) (Nat.le_of_ble_eq_true rfl) dX5_init_11 dX5_init_12 dX5_init_13 dX5_init_15 (Nat.le_of_ble_eq_true rfl) (Nat.le_of_ble_eq_true rfl) (fun q2 => ?_)
  refine g_arr (N := 5) (ls := [(0, .ref a)]) (pc := 18) (a := a) (fs := [.ref q1, .ref q2, .null, .null, .int 0, .int 0]) (wr := [(q1, ziE (y 10) 5), (q2, ziE (y 10) 5)]) (cells := 2) (slots := 10) hX hi fx5 rfl flX5_18 rfl rfl rfl (Nat.le_of_ble_eq_true rfl) (Nat.le_of_ble_eq_true rfl) dX5_init_18 dX5_init_19 dX5_init_20 dX5_init_22 (Nat.le_of_ble_eq_true rfl) (Nat.le_of_ble_eq_true rfl) (fun q3 => ?_)
  refine g_arr (N := 3) (ls := [(0, .ref a)]) (pc := 25) (a := a) (fs := [.ref q1, .ref q2, .ref q3, .null, .int 0, .int 0]) (wr := [(q1, ziE (y 10) 5), (q2, ziE (y 10) 5), (q3, ziE (y 10) 5)]) (cells := 3) (slots := 15) hX hi fx5 rfl flX5_21 rfl rfl rfl (Nat.le_of_ble_eq_true rfl) (Nat.le_of_ble_eq_true rfl) dX5_init_25 dX5_init_26 dX5_init_27 dX5_init_29 (Nat.le_of_ble_eq_true rfl) (Nat.le_of_ble_eq_true rfl) (fun q4 => ?_)
  exact g_ret hX hE (fun i => [a, q1, q2, q3, q4].getD i 0) rfl dX5_init_32
theorem ct1 {l : Launch} {D : va_G} {y : Nat → ClassId} (a sz : Nat) : Ct l D y mX1_init 1 13 76 a sz (.inr (1, z1)) (o1 y a) := by
  refine Ct_of gmX1_init rfl rfl (by decide) (by decide) (fun X hX hi hE => ?_)
  refine g_al hX 0 dX1_init_0 rfl rfl ?_
  refine g_obj hX loX1 wo_i wo_c (Nat.le_of_ble_eq_true rfl) dX1_init_1 ?_
  refine g_arrP (N := 6) (ls := [(0, .ref a)]) (pc := 4) (a := a) (fs := [.null, .null, .null, .int 0, .int 0]) (wr := []) (cells := 0) (slots := 0) hX hi fx1 rfl flX1_9 rfl rfl rfl (Nat.le_of_ble_eq_true rfl) (Nat.le_of_ble_eq_true rfl) (by decide) dX1_init_4 dX1_init_5 dX1_init_7 dX1_init_9 (Nat.le_of_ble_eq_true rfl) (Nat.le_of_ble_eq_true rfl) (fun q1 => ?_)
  refine g_arr2 (N := 5) (K := 6) (ls := [(0, .ref a)]) (pc := 12) (a := a) (fs := [.ref q1, .null, .null, .int 0, .int 0]) (wr := [(q1, ziE (y 10) 6)]) (cells := 1) (slots := 6) hX hi fx1 rfl flX1_17 rfl rfl rfl (Nat.le_of_ble_eq_true rfl) (Nat.le_of_ble_eq_true rfl) (Nat.le_of_ble_eq_true rfl) (by decide) cl2 dX1_init_12 dX1_init_13 dX1_init_14 dX1_init_16 dX1_init_20 (Nat.le_of_ble_eq_true rfl) (Nat.le_of_ble_eq_true rfl) (fun q2 r2 => ?_)
  refine g_refs 2 (f' := fun j => some (r2 j)) rfl (fun i hi => if_pos hi) ?_
  refine g_arr2 (N := 5) (K := 6) (ls := [(0, .ref a)]) (pc := 23) (a := a) (fs := [.ref q1, .ref q2, .null, .int 0, .int 0]) (wr := [(q1, ziE (y 10) 6), (q2, rfE (y 14) 5 (fun j => some (r2 j))), (r2 0, ziE (y 10) 6), (r2 1, ziE (y 10) 6), (r2 2, ziE (y 10) 6), (r2 3, ziE (y 10) 6), (r2 4, ziE (y 10) 6)]) (cells := 7) (slots := 41) hX hi fx1 rfl flX1_20 rfl rfl rfl (Nat.le_of_ble_eq_true rfl) (Nat.le_of_ble_eq_true rfl) (Nat.le_of_ble_eq_true rfl) (by decide) cl2 dX1_init_23 dX1_init_24 dX1_init_25 dX1_init_27 dX1_init_31 (Nat.le_of_ble_eq_true rfl) (Nat.le_of_ble_eq_true rfl) (fun q3 r3 => ?_)
  refine g_refs 8 (f' := fun j => some (r3 j)) rfl (fun i hi => if_pos hi) ?_
  refine g_cell (c1 := 13) (s1 := 76) (Nat.le_of_ble_eq_true rfl) (Nat.le_of_ble_eq_true rfl) ?_
  refine g_refs 2 (f' := fun j => some ([a, q1, q2, r2 0, r2 1, r2 2, r2 3, r2 4, q3, r3 0, r3 1, r3 2, r3 3, r3 4].getD (3 + j) 0)) rfl (fun i hi => by rcases (show i = 0 ∨ i = 1 ∨ i = 2 ∨ i = 3 ∨ i = 4 by omega) with rfl | rfl | rfl | rfl | rfl <;> rfl) ?_
  refine g_refs 8 (f' := fun j => some ([a, q1, q2, r2 0, r2 1, r2 2, r2 3, r2 4, q3, r3 0, r3 1, r3 2, r3 3, r3 4].getD (9 + j) 0)) rfl (fun i hi => by rcases (show i = 0 ∨ i = 1 ∨ i = 2 ∨ i = 3 ∨ i = 4 by omega) with rfl | rfl | rfl | rfl | rfl <;> rfl) ?_
  exact g_ret hX hE (fun i => [a, q1, q2, r2 0, r2 1, r2 2, r2 3, r2 4, q3, r3 0, r3 1, r3 2, r3 3, r3 4].getD i 0) rfl dX1_init_34
theorem wk_p {l : Launch} {D : va_G} {y : Nat → ClassId} {X : Cw} {mc ms cells slots a pa : Nat} {fs : List Value} {wr : va_W} {f : Nat → Option Nat} (hX : Gk D y mX6_init 2 X mc ms) (hfs : fs[0]? = some (.ref pa)) {j : Nat} (hj : j < 5) (hc : cells + 1 ≤ mc) (hs : slots + 8 ≤ ms) (k : ∀ q : Nat, G l D X 22 [(1, .int (zi ((j + 1 : Nat) : Int))), (0, .ref a)] [] ((a, .inr (6, fs)) :: (pa, rfE (y 13) 5 (va_up f j (some q))) :: (wr ++ [(q, .inr (4, z4))])) (cells + 1) (slots + 8)) : G l D X 22 [(1, .int (zi (j : Int))), (0, .ref a)] [] ((a, .inr (6, fs)) :: (pa, rfE (y 13) 5 f) :: wr) cells slots := by
  refine g_il hX 0 dX6_init_22 rfl rfl ?_
  refine g_al hX 1 dX6_init_23 rfl rfl ?_
  refine g_get hX 0 fx6 rfl flX6_11 hfs dX6_init_24 ?_
  refine g_alen hX 1 3 rfl rfl dX6_init_27 ?_
  refine g_geF (tgt := 50) hX dX6_init_28 rfl hj (by decide) ?_
  refine g_al hX 1 dX6_init_31 rfl rfl ?_
  refine g_get hX 0 fx6 rfl flX6_11 hfs dX6_init_32 ?_
  refine g_il hX 0 dX6_init_35 rfl rfl ?_
  refine g_new hX fx4 clX6_9 in_4 ii_4 z4 df4 dX6_init_36 hc hs (fun q => ?_)
  refine g_dup hX dX6_init_39 ?_
  refine g_callN (mc2 := 0) (ms2 := 0) hX liX6_23 (by decide) (Nat.le_of_ble_eq_true rfl) hc hs (ct4 q) dX6_init_40 (fun u => ?_)
  refine g_ast hX 1 3 ((a, .inr (6, fs)) :: (pa, rfE (y 13) 5 f) :: wr).length 4 rfl rfl (List.getElem?_concat_length) rfl hj (by decide) dX6_init_43 ?_
  refine g_iinc (ls' := [(1, .int (zi ((j + 1 : Nat) : Int))), (0, .ref a)]) hX dX6_init_44 (i := 0) (z := (j : Int)) rfl (by decide) rfl ?_
  exact g_goto hX dX6_init_47 (tgt := 22) rfl (k q)
theorem wk_p_e {l : Launch} {D : va_G} {y : Nat → ClassId} {X : Cw} {mc ms cells slots a pa : Nat} {fs : List Value} {wr : va_W} {f : Nat → Option Nat} (hX : Gk D y mX6_init 2 X mc ms) (hfs : fs[0]? = some (.ref pa)) (k : G l D X 50 [(1, .int (zi (5 : Int))), (0, .ref a)] [] ((a, .inr (6, fs)) :: (pa, rfE (y 13) 5 f) :: wr) cells slots) : G l D X 22 [(1, .int (zi ((5 : Nat) : Int))), (0, .ref a)] [] ((a, .inr (6, fs)) :: (pa, rfE (y 13) 5 f) :: wr) cells slots := by
  refine g_il hX 0 dX6_init_22 rfl rfl ?_
  refine g_al hX 1 dX6_init_23 rfl rfl ?_
  refine g_get hX 0 fx6 rfl flX6_11 hfs dX6_init_24 ?_
  refine g_alen hX 1 3 rfl rfl dX6_init_27 ?_
  exact g_geT (tgt := 50) hX dX6_init_28 rfl k
theorem wk_l {l : Launch} {D : va_G} {y : Nat → ClassId} {X : Cw} {mc ms cells slots a pa : Nat} {fs : List Value} {wr : va_W} {f : Nat → Option Nat} {w1 : Nat × va_E} (hX : Gk D y mX6_init 2 X mc ms) (hfs : fs[1]? = some (.ref pa)) {j : Nat} (hj : j < 3) (hc : cells + 1 ≤ mc) (hs : slots + 3 ≤ ms) (k : ∀ q : Nat, G l D X 52 [(1, .int (zi ((j + 1 : Nat) : Int))), (0, .ref a)] [] ((a, .inr (6, fs)) :: w1 :: (pa, rfE (y 12) 3 (va_up f j (some q))) :: (wr ++ [(q, .inr (2, z2))])) (cells + 1) (slots + 3)) : G l D X 52 [(1, .int (zi (j : Int))), (0, .ref a)] [] ((a, .inr (6, fs)) :: w1 :: (pa, rfE (y 12) 3 f) :: wr) cells slots := by
  refine g_il hX 0 dX6_init_52 rfl rfl ?_
  refine g_al hX 1 dX6_init_53 rfl rfl ?_
  refine g_get hX 0 fx6 rfl flX6_19 hfs dX6_init_54 ?_
  refine g_alen hX 2 2 rfl rfl dX6_init_57 ?_
  refine g_geF (tgt := 80) hX dX6_init_58 rfl hj (by decide) ?_
  refine g_al hX 1 dX6_init_61 rfl rfl ?_
  refine g_get hX 0 fx6 rfl flX6_19 hfs dX6_init_62 ?_
  refine g_il hX 0 dX6_init_65 rfl rfl ?_
  refine g_new hX fx2 clX6_17 in_2 ii_2 z2 df2 dX6_init_66 hc hs (fun q => ?_)
  refine g_dup hX dX6_init_69 ?_
  refine g_callN (mc2 := 0) (ms2 := 0) hX liX6_24 (by decide) (Nat.le_of_ble_eq_true rfl) hc hs (ct2 q) dX6_init_70 (fun u => ?_)
  refine g_ast hX 2 2 ((a, .inr (6, fs)) :: w1 :: (pa, rfE (y 12) 3 f) :: wr).length 2 rfl rfl (List.getElem?_concat_length) rfl hj (by decide) dX6_init_73 ?_
  refine g_iinc (ls' := [(1, .int (zi ((j + 1 : Nat) : Int))), (0, .ref a)]) hX dX6_init_74 (i := 0) (z := (j : Int)) rfl (by decide) rfl ?_
  exact g_goto hX dX6_init_77 (tgt := 52) rfl (k q)
theorem wk_l_e {l : Launch} {D : va_G} {y : Nat → ClassId} {X : Cw} {mc ms cells slots a pa : Nat} {fs : List Value} {wr : va_W} {f : Nat → Option Nat} {w1 : Nat × va_E} (hX : Gk D y mX6_init 2 X mc ms) (hfs : fs[1]? = some (.ref pa)) (k : G l D X 80 [(1, .int (zi (3 : Int))), (0, .ref a)] [] ((a, .inr (6, fs)) :: w1 :: (pa, rfE (y 12) 3 f) :: wr) cells slots) : G l D X 52 [(1, .int (zi ((3 : Nat) : Int))), (0, .ref a)] [] ((a, .inr (6, fs)) :: w1 :: (pa, rfE (y 12) 3 f) :: wr) cells slots := by
  refine g_il hX 0 dX6_init_52 rfl rfl ?_
  refine g_al hX 1 dX6_init_53 rfl rfl ?_
  refine g_get hX 0 fx6 rfl flX6_19 hfs dX6_init_54 ?_
  refine g_alen hX 2 2 rfl rfl dX6_init_57 ?_
  exact g_geT (tgt := 80) hX dX6_init_58 rfl k
theorem ct6 {l : Launch} {D : va_G} {y : Nat → ClassId} (a sz : Nat) : Ct l D y mX6_init 2 10 57 a sz (.inr (6, z6)) (o6 y a) := by
  refine Ct_of gmX6_init rfl rfl (by decide) (by decide) (fun X hX hi hE => ?_)
  refine g_al hX 0 dX6_init_0 rfl rfl ?_
  refine g_obj hX loX6 wo_i wo_c (Nat.le_of_ble_eq_true rfl) dX6_init_1 ?_
  refine g_al hX 0 dX6_init_4 rfl rfl ?_
  refine g_ic hX dX6_init_5 ?_
  refine g_anew (N := 5) hX 3 rfl (Or.inl rfl) (Nat.le_of_ble_eq_true rfl) clX6_9 dX6_init_6 (Nat.le_of_ble_eq_true rfl) (Nat.le_of_ble_eq_true rfl) (fun pa => ?_)
  refine g_put hX hi (q0 := 0) fx6 rfl flX6_11 rfl rfl rfl rfl (Nat.le_of_ble_eq_true rfl) dX6_init_9 ?_
  refine g_al hX 0 dX6_init_12 rfl rfl ?_
  refine g_ic hX dX6_init_13 ?_
  refine g_anew (N := 3) hX 2 rfl (Or.inr rfl) (Nat.le_of_ble_eq_true rfl) clX6_17 dX6_init_14 (Nat.le_of_ble_eq_true rfl) (Nat.le_of_ble_eq_true rfl) (fun la => ?_)
  refine g_put hX hi (q0 := 0) fx6 rfl flX6_19 rfl rfl rfl rfl (Nat.le_of_ble_eq_true rfl) dX6_init_17 ?_
  refine g_ic hX dX6_init_20 ?_
  refine g_is (ls' := [(1, .int (zi ((0 : Nat) : Int))), (0, .ref a)]) hX dX6_init_21 rfl (by decide) rfl ?_
  refine wk_p (fs := [.ref pa, .ref la, .int 0, .int 0, .int 0]) (wr := [(la, rfE (y 12) 3 (fun _ => none))]) (f := (fun _ => none)) (cells := 2) (slots := 8) (j := 0) hX rfl (by decide) (Nat.le_of_ble_eq_true rfl) (Nat.le_of_ble_eq_true rfl) (fun p0 => ?_)
  refine wk_p (fs := [.ref pa, .ref la, .int 0, .int 0, .int 0]) (wr := [(la, rfE (y 12) 3 (fun _ => none)), (p0, .inr (4, z4))]) (f := (va_up (fun _ => none) 0 (some p0))) (cells := 3) (slots := 16) (j := 1) hX rfl (by decide) (Nat.le_of_ble_eq_true rfl) (Nat.le_of_ble_eq_true rfl) (fun p1 => ?_)
  refine wk_p (fs := [.ref pa, .ref la, .int 0, .int 0, .int 0]) (wr := [(la, rfE (y 12) 3 (fun _ => none)), (p0, .inr (4, z4)), (p1, .inr (4, z4))]) (f := (va_up (va_up (fun _ => none) 0 (some p0)) 1 (some p1))) (cells := 4) (slots := 24) (j := 2) hX rfl (by decide) (Nat.le_of_ble_eq_true rfl) (Nat.le_of_ble_eq_true rfl) (fun p2 => ?_)
  refine wk_p (fs := [.ref pa, .ref la, .int 0, .int 0, .int 0]) (wr := [(la, rfE (y 12) 3 (fun _ => none)), (p0, .inr (4, z4)), (p1, .inr (4, z4)), (p2, .inr (4, z4))]) (f := (va_up (va_up (va_up (fun _ => none) 0 (some p0)) 1 (some p1)) 2 (some p2))) (cells := 5) (slots := 32) (j := 3) hX rfl (by decide) (Nat.le_of_ble_eq_true rfl) (Nat.le_of_ble_eq_true rfl) (fun p3 => ?_)
  refine wk_p (fs := [.ref pa, .ref la, .int 0, .int 0, .int 0]) (wr := [(la, rfE (y 12) 3 (fun _ => none)), (p0, .inr (4, z4)), (p1, .inr (4, z4)), (p2, .inr (4, z4)), (p3, .inr (4, z4))]) (f := (va_up (va_up (va_up (va_up (fun _ => none) 0 (some p0)) 1 (some p1)) 2 (some p2)) 3 (some p3))) (cells := 6) (slots := 40) (j := 4) hX rfl (by decide) (Nat.le_of_ble_eq_true rfl) (Nat.le_of_ble_eq_true rfl) (fun p4 => ?_)
  refine wk_p_e (fs := [.ref pa, .ref la, .int 0, .int 0, .int 0]) (wr := [(la, rfE (y 12) 3 (fun _ => none)), (p0, .inr (4, z4)), (p1, .inr (4, z4)), (p2, .inr (4, z4)), (p3, .inr (4, z4)), (p4, .inr (4, z4))]) (f := (va_up (va_up (va_up (va_up (va_up (fun _ => none) 0 (some p0)) 1 (some p1)) 2 (some p2)) 3 (some p3)) 4 (some p4))) hX rfl ?_
  refine g_ic hX dX6_init_50 ?_
  refine g_is (ls' := [(1, .int (zi ((0 : Nat) : Int))), (0, .ref a)]) hX dX6_init_51 rfl (by decide) rfl ?_
  refine wk_l (fs := [.ref pa, .ref la, .int 0, .int 0, .int 0]) (w1 := (pa, rfE (y 13) 5 (va_up (va_up (va_up (va_up (va_up (fun _ => none) 0 (some p0)) 1 (some p1)) 2 (some p2)) 3 (some p3)) 4 (some p4)))) (wr := [(p0, .inr (4, z4)), (p1, .inr (4, z4)), (p2, .inr (4, z4)), (p3, .inr (4, z4)), (p4, .inr (4, z4))]) (f := (fun _ => none)) (cells := 7) (slots := 48) (j := 0) hX rfl (by decide) (Nat.le_of_ble_eq_true rfl) (Nat.le_of_ble_eq_true rfl) (fun l0 => ?_)
  refine wk_l (fs := [.ref pa, .ref la, .int 0, .int 0, .int 0]) (w1 := (pa, rfE (y 13) 5 (va_up (va_up (va_up (va_up (va_up (fun _ => none) 0 (some p0)) 1 (some p1)) 2 (some p2)) 3 (some p3)) 4 (some p4)))) (wr := [(p0, .inr (4, z4)), (p1, .inr (4, z4)), (p2, .inr (4, z4)), (p3, .inr (4, z4)), (p4, .inr (4, z4)), (l0, .inr (2, z2))]) (f := (va_up (fun _ => none) 0 (some l0))) (cells := 8) (slots := 51) (j := 1) hX rfl (by decide) (Nat.le_of_ble_eq_true rfl) (Nat.le_of_ble_eq_true rfl) (fun l1 => ?_)
  refine wk_l (fs := [.ref pa, .ref la, .int 0, .int 0, .int 0]) (w1 := (pa, rfE (y 13) 5 (va_up (va_up (va_up (va_up (va_up (fun _ => none) 0 (some p0)) 1 (some p1)) 2 (some p2)) 3 (some p3)) 4 (some p4)))) (wr := [(p0, .inr (4, z4)), (p1, .inr (4, z4)), (p2, .inr (4, z4)), (p3, .inr (4, z4)), (p4, .inr (4, z4)), (l0, .inr (2, z2)), (l1, .inr (2, z2))]) (f := (va_up (va_up (fun _ => none) 0 (some l0)) 1 (some l1))) (cells := 9) (slots := 54) (j := 2) hX rfl (by decide) (Nat.le_of_ble_eq_true rfl) (Nat.le_of_ble_eq_true rfl) (fun l2 => ?_)
  refine wk_l_e (fs := [.ref pa, .ref la, .int 0, .int 0, .int 0]) (w1 := (pa, rfE (y 13) 5 (va_up (va_up (va_up (va_up (va_up (fun _ => none) 0 (some p0)) 1 (some p1)) 2 (some p2)) 3 (some p3)) 4 (some p4)))) (wr := [(p0, .inr (4, z4)), (p1, .inr (4, z4)), (p2, .inr (4, z4)), (p3, .inr (4, z4)), (p4, .inr (4, z4)), (l0, .inr (2, z2)), (l1, .inr (2, z2)), (l2, .inr (2, z2))]) (f := (va_up (va_up (va_up (fun _ => none) 0 (some l0)) 1 (some l1)) 2 (some l2))) hX rfl ?_
  refine g_refs 1 (f' := fun j => some ([a, pa, la, p0, p1, p2, p3, p4, l0, l1, l2].getD (3 + j) 0)) rfl (fun i hi => by rcases (show i = 0 ∨ i = 1 ∨ i = 2 ∨ i = 3 ∨ i = 4 by omega) with rfl | rfl | rfl | rfl | rfl <;> rfl) ?_
  refine g_refs 2 (f' := fun j => some ([a, pa, la, p0, p1, p2, p3, p4, l0, l1, l2].getD (8 + j) 0)) rfl (fun i hi => by rcases (show i = 0 ∨ i = 1 ∨ i = 2 by omega) with rfl | rfl | rfl <;> rfl) ?_
  exact g_ret hX hE (fun i => [a, pa, la, p0, p1, p2, p3, p4, l0, l1, l2].getD i 0) rfl dX6_init_80
