/-! ===== my machine: numbers as Int, one fixed world of 72 cells ===== -/
abbrev mv : Type := Int ⊕ (Int64 ⊕ Nat)
abbrev vI (z : Int) : mv := .inl z
abbrev vL (x : Int64) : mv := .inr (.inl x)
abbrev vR (k : Nat) : mv := .inr (.inr k)
def zi (z : Int) : Int32 := Int32.ofInt z
abbrev bd (z : Int) : Prop := -2147483648 ≤ z ∧ z < 2147483648
theorem zi_toInt {z : Int} (h : bd z) : (zi z).toInt = z := Int32.toInt_ofInt_of_le h.1 (by omega)
theorem zi_of (x : Int32) : zi x.toInt = x := Int32.ofInt_toInt x
theorem zi_add (a b : Int) : zi a + zi b = zi (a + b) := (Int32.ofInt_add a b).symm
theorem zi_sub (a b : Int) : zi a - zi b = zi (a - b) := (Int32.ofInt_sub a b).symm
theorem zi_mul (a b : Int) : zi a * zi b = zi (a * b) := (Int32.ofInt_mul a b).symm
theorem zi_neg (a : Int) : -zi a = zi (-a) := (Int32.ofInt_neg a).symm
theorem zi_lt {a b : Int} (ha : bd a) (hb : bd b) : zi a < zi b ↔ a < b := by rw [Int32.lt_iff_toInt_lt, zi_toInt ha, zi_toInt hb]
theorem zi_le {a b : Int} (ha : bd a) (hb : bd b) : zi a ≤ zi b ↔ a ≤ b := by rw [Int32.le_iff_toInt_le, zi_toInt ha, zi_toInt hb]
theorem zi_eq {a b : Int} (ha : bd a) (hb : bd b) : zi a = zi b ↔ a = b := ⟨fun h => by rw [← zi_toInt ha, ← zi_toInt hb, h], fun h => by rw [h]⟩
theorem zi_0 : zi 0 = 0 := rfl
theorem zi_nat (n : Nat) : zi (n : Int) = Int32.ofNat n := by
  apply Int32.toInt_inj.mp
  simp [zi, Int32.toInt_ofInt, Int32.toInt_ofNat]
theorem zi_clamp {z : Int} (h0 : 0 ≤ z) (h1 : z < 2147483648) : (zi z).toNatClampNeg = z.toNat := by
  rw [Int32.toNatClampNeg, zi_toInt ⟨by omega, h1⟩]
theorem zi_in {z : Int} {n : Nat} (h0 : 0 ≤ z) (h1 : z < n) (hn : n ≤ 2147483647) : vp_in (zi z) n := by
  have hb : bd z := ⟨by omega, by omega⟩
  rw [vp_in_iff, zi_toInt hb]
  exact ⟨h0, h1⟩
theorem zi_div {a b : Int} (ha : 0 ≤ a) (ha2 : a < 2147483648) (hb : 0 < b) (hb2 : b < 2147483648) : zi a / zi b = zi (a / b) := by
  have h1 : bd a := ⟨by omega, ha2⟩
  have h2 : bd b := ⟨by omega, hb2⟩
  have hq : 0 ≤ a / b := Int.ediv_nonneg ha (by omega)
  have hq2 : a / b ≤ a := Int.ediv_le_self _ ha
  have h3 : bd (a / b) := ⟨by omega, by omega⟩
  apply Int32.toInt_inj.mp
  rw [Int32.toInt_div_of_ne_right _ _ (by
    intro hh
    have h4 : (zi b).toInt = (-1 : Int32).toInt := by rw [hh]
    rw [zi_toInt h2] at h4
    have h5 : (-1 : Int32).toInt = -1 := by decide
    omega), zi_toInt h1, zi_toInt h2, zi_toInt h3, Int.tdiv_eq_ediv_of_nonneg ha]
theorem zi_rem {a b : Int} (ha : 0 ≤ a) (ha2 : a < 2147483648) (hb : 0 < b) (hb2 : b < 2147483648) : zi a - zi a / zi b * zi b = zi (a % b) := by
  rw [zi_div ha ha2 hb hb2, zi_mul, zi_sub, Int.emod_def, Int.mul_comm]
theorem zi_b {a : Int} (h : -128 ≤ a ∧ a < 128) : (zi a).toInt8.toInt32 = zi a := by
  apply Int32.toInt_inj.mp
  rw [Int8.toInt_toInt32, Int32.toInt_toInt8, zi_toInt ⟨by omega, by omega⟩, Int.bmod_eq_of_le (by omega) (by omega)]
theorem zi_c {a : Int} (h : 0 ≤ a ∧ a < 65536) : ((zi a).toUInt32 % 65536).toInt32 = zi a := by
  obtain ⟨n, rfl⟩ := Int.eq_ofNat_of_zero_le h.1
  have hn : n < 65536 := by omega
  rw [zi_nat]
  exact (pk_char (nI n)).trans (by rw [pk_tn (by omega), Nat.mod_eq_of_lt hn]; rfl)
abbrev Mm : Type := (Nat → Nat → Int) × (Nat → Nat → Int64)
def wr (g : Mm) (k j : Nat) (v : Int) : Mm := (fun a b => if a = k ∧ b = j then v else g.1 a b, g.2)
def wl (g : Mm) (k j : Nat) (v : Int64) : Mm := (g.1, fun a b => if a = k ∧ b = j then v else g.2 a b)
theorem wr_1 (g : Mm) (k j : Nat) (v : Int) (a b : Nat) : (wr g k j v).1 a b = if a = k ∧ b = j then v else g.1 a b := rfl
theorem wr_2 (g : Mm) (k j : Nat) (v : Int) : (wr g k j v).2 = g.2 := rfl
theorem wl_1 (g : Mm) (k j : Nat) (v : Int64) : (wl g k j v).1 = g.1 := rfl
theorem wl_2 (g : Mm) (k j : Nat) (v : Int64) (a b : Nat) : (wl g k j v).2 a b = if a = k ∧ b = j then v else g.2 a b := rfl
/-- the surroundings: the launch, the classes' numbers and slots, the cells' addresses, the array classes -/
abbrev En : Type := Launch × va_G × (Nat → Nat) × (Nat → ClassId)
abbrev eL (E : En) : Launch := E.1
abbrev eD (E : En) : va_G := E.2.1
abbrev ea (E : En) : Nat → Nat := E.2.2.1
abbrev ey (E : En) : Nat → ClassId := E.2.2.2
def tv (E : En) (v : mv) : Value := match v with | .inl z => .int (zi z) | .inr (.inl x) => .long x | .inr (.inr k) => .ref (ea E k)
def fv (E : En) (g : Mm) (k j : Nat) : Value := if fk (sk k) j = 1 then .long (g.2 k j) else if fk (sk k) j = 2 then .ref (ea E (rf k j)) else .int (zi (g.1 k j))
def ent (E : En) (g : Mm) (k : Nat) : va_E := if sk k < 9 then .inr (sk k, (List.range (nf (sk k))).map (fv E g k)) else if sk k < 12 then .inl (ey E (sk k), ln k, .inl (fun j => zi (g.1 k j))) else .inl (ey E (sk k), ln k, .inr (.inr (.inr (.inr (fun j => some (ea E (ra k + j)))))))
def wsO (E : En) (g : Mm) : va_W := (List.range 72).map (fun k => (ea E k, ent E g k))
def wA (E : En) (q : Nat) : Prop := ∃ k, k < 72 ∧ q = ea E k
def einj (E : En) : Prop := ∀ i j, i < 72 → j < 72 → ea E i = ea E j → i = j
theorem wsO_get (E : En) (g : Mm) {k : Nat} (h : k < 72) : (wsO E g)[k]? = some (ea E k, ent E g k) := by
  simp [wsO, List.getElem?_map, List.getElem?_range h]
theorem wsO_of (E : En) (g : Mm) {k : Nat} {q : Nat × va_E} (h : (wsO E g)[k]? = some q) : k < 72 ∧ q = (ea E k, ent E g k) := by
  have hl : k < 72 := by
    have := (List.getElem?_eq_some_iff.mp h).1
    simpa [wsO] using this
  rw [wsO_get E g hl] at h
  exact ⟨hl, (Option.some.inj h).symm⟩
theorem wsO_D {E : En} (hi : einj E) (g : Mm) {A : Nat → Prop} (hA : ∀ q, wA E q → A q) : va_D A (wsO E g) := by
  refine ⟨fun i j p q h1 h2 h3 => ?_, fun k q h => ?_⟩
  · obtain ⟨a1, rfl⟩ := wsO_of E g h1
    obtain ⟨a2, rfl⟩ := wsO_of E g h2
    exact hi i j a1 a2 h3
  · obtain ⟨a1, rfl⟩ := wsO_of E g h
    exact hA _ ⟨k, a1, rfl⟩
theorem wsO_set {E : En} {g g' : Mm} {k : Nat} {x : va_E} (hk : k < 72) (hx : ent E g' k = x) (ho : ∀ a, a ≠ k → ent E g' a = ent E g a) : (wsO E g).set k (ea E k, x) = wsO E g' := by
  apply List.ext_getElem?
  intro i
  by_cases hi : i < 72
  · by_cases e : i = k
    · subst e
      rw [wsO_get E g' hi, List.getElem?_set_self (by simpa [wsO] using hi), hx]
    · rw [List.getElem?_set_ne (fun q => e q.symm), wsO_get E g hi, wsO_get E g' hi, ho i e]
  · rw [List.getElem?_eq_none (by simp [wsO]; omega), List.getElem?_eq_none (by simp [wsO]; omega)]
theorem ent_ne {E : En} {g g' : Mm} {a : Nat} (h1 : g'.1 a = g.1 a) (h2 : g'.2 a = g.2 a) : ent E g' a = ent E g a := by
  unfold ent
  have h3 : fv E g' a = fv E g a := by funext j; simp [fv, h1, h2]
  rw [h1, h3]
theorem ent_obj {E : En} {g : Mm} {k ci : Nat} (h : sk k = ci) (hc : ci < 9) : ent E g k = .inr (ci, (List.range (nf ci)).map (fv E g k)) := by
  subst h; simp [ent, hc]
theorem ent_ints {E : En} {g : Mm} {k t : Nat} (h : sk k = t) (h1 : ¬ t < 9) (h2 : t < 12) : ent E g k = .inl (ey E t, ln k, .inl (fun j => zi (g.1 k j))) := by
  subst h; simp [ent, h1, h2]
theorem ent_refs {E : En} {g : Mm} {k t : Nat} (h : sk k = t) (h2 : ¬ t < 12) : ent E g k = .inl (ey E t, ln k, .inr (.inr (.inr (.inr (fun j => some (ea E (ra k + j))))))) := by
  subst h
  have h1 : ¬ sk k < 9 := by omega
  simp [ent, h1, h2]
theorem sk_lt {k t : Nat} (h : sk k = t) (ht : t < 99) : k < 72 := by
  apply Classical.byContradiction
  intro hk
  have : sk k = 99 := by
    unfold sk
    rw [List.getD_eq_getElem?_getD, List.getElem?_eq_none (by show 72 ≤ k; omega)]
    rfl
  omega
abbrev tyL (E : En) : List (ClassId × FieldType) := [(ey E 10, .int), (ey E 11, .byte), (ey E 12, .object RX2), (ey E 13, .object RX4), (ey E 14, .array .int)]
def lgt (j : Nat) : Int := [2, 4, 3, 1, 0].getD j 0
def pbs (j : Nat) : Int := [112, 98, 115, 99, 104].getD j 0
/-- what a state gives: classes, the constant cells 900 (LIGHTS), 901 (the kinds' letters), 902 (its bytes), nest words -/
def cs (E : En) (A : Nat → Prop) (U : State) : Prop :=
  va_K (eD E) vwCl (tyL E) U ∧ einj E ∧ va_Z "DyeLots" "LIGHTS" "[I" (.ref (ea E 900)) A U U.heap ∧ va_T .int (ea E 900) 5 (fun j => .int (zi (lgt j))) A U U.heap ∧
  va_Z "java/lang/String" "COMPACT_STRINGS" "Z" (.int 1) A U U.heap ∧ vk_S 1 [5] [[112, 98, 115, 99, 104]] (fun _ => ea E 901) (fun _ => ea E 902) A U U.heap ∧
  vk_R "DyeLots$Page" 23 "pbsch" (ea E 901) U ∧ vk_R "DyeLots$Work" 43 "pbsch" (ea E 901) U ∧ ∀ w ∈ nestW, va_Nw w U
theorem nest_warm {w : Cond} (hw : w ∈ nestW) {s U : State} (hW : s.WarmedH U.vm) (h : va_Nw w s) : va_Nw w U := by
  have hg := (List.mem_filter.mp hw).2
  cases w <;> first | exact va_Nw.warmF hW h | exact va_Nw.warmM hW h | (simp [isNest] at hg)
theorem cs.go {E : En} {A B : Nat → Prop} {s U : State} (h : cs E A s) (hW : s.WarmedH U.vm) (hq : ∀ a : Nat, a < s.heap.size → ¬ A a → U.heap[a]? = s.heap[a]?) (hAB : ∀ q, B q → A q) : cs E B U := by
  obtain ⟨h1, h2, h3, h4, h5, h6, h7, h8, h9⟩ := h
  exact ⟨va_K.moved hW.alike h1, h2, ((h3.kept hq).moved hW.alike).narrow hAB, ((h4.kept hq).moved hW.alike).narrow hAB, ((h5.kept hq).moved hW.alike).narrow hAB, ((h6.kept hq).moved hW.alike).narrow hAB, h7.warm hW, h8.warm hW, fun w hw => nest_warm hw hW (h9 w hw)⟩
theorem cs.blind {E : En} {A : Nat → Prop} {s U : State} (h : cs E A s) (hv : U.vm = s.vm) (hh : U.heap = s.heap) : cs E A U := by
  obtain ⟨h1, h2, h3, h4, h5, h6, h7, h8, h9⟩ := h
  have al : s.vm.Alike U.vm := by rw [hv]; exact Vm.Alike.refl _
  refine ⟨va_K.moved al h1, h2, ?_, ?_, ?_, ?_, h7.same hv, h8.same hv, fun w hw => ?_⟩
  · rw [hh]; exact h3.moved al
  · rw [hh]; exact h4.moved al
  · rw [hh]; exact h5.moved al
  · rw [hh]; exact h6.moved al
  · have hg := (List.mem_filter.mp hw).2
    have h10 := h9 w hw
    cases w <;> first | exact va_Nw.same rfl hv.symm h10 | (simp [isNest] at hg)
abbrev Cx : Type := Program × Env × Room × State × MethodId × Array Value × List Frame × Method × Code × Nat × Nat × (State → Prop) × (Nat → Prop)
/-- the listed locals, by their places -/
def asc (E : En) : Nat → List (Option mv) → List (Nat × Value)
  | _, [] => []
  | i, none :: l => asc E (i + 1) l
  | i, some v :: l => (i, tv E v) :: asc E (i + 1) l
theorem asc_mem (E : En) : ∀ (ls : List (Option mv)) (i n : Nat) (v : mv), ls[n]? = some (some v) → (i + n, tv E v) ∈ asc E i ls
  | [], i, n, v, h => by simp at h
  | x :: l, i, 0, v, h => by
    simp at h
    subst h
    simp [asc]
  | x :: l, i, n + 1, v, h => by
    have h1 := asc_mem E l (i + 1) n v (by simpa using h)
    have e : i + (n + 1) = i + 1 + n := by omega
    rw [e]
    cases x with
    | none => exact h1
    | some w => exact List.mem_cons_of_mem _ h1
theorem asc_of (E : En) : ∀ (ls : List (Option mv)) (i : Nat) (q : Nat × Value), q ∈ asc E i ls → ∃ n v, ls[n]? = some (some v) ∧ q = (i + n, tv E v)
  | [], i, q, h => by simp [asc] at h
  | x :: l, i, q, h => by
    cases x with
    | none =>
      obtain ⟨n, v, h1, h2⟩ := asc_of E l (i + 1) q h
      exact ⟨n + 1, v, by simpa using h1, by rw [h2]; congr 1; omega⟩
    | some w =>
      rcases List.mem_cons.mp h with h | h
      · exact ⟨0, w, by simp, h⟩
      · obtain ⟨n, v, h1, h2⟩ := asc_of E l (i + 1) q h
        exact ⟨n + 1, v, by simpa using h1, by rw [h2]; congr 1; omega⟩
theorem lv_less {rl : Array Slot} {n : Nat} {l l' : List (Nat × Value)} (h : lv_has rl n l) (hl : ∀ q ∈ l', q ∈ l) : lv_has rl n l' := ⟨h.1, h.2.1, fun q hq => h.2.2 q (hl q hq)⟩
/-- V: from pc, with these locals, stack and memory, the machine comes to X's end -/
def V (E : En) (X : Cx) (pc : Nat) (ls : List (Option mv)) (st : List mv) (g : Mm) : Prop := match X with
  | (p, e, R, s, m, args, below, meth, c, cells, slots, Q, A0) => ∀ (H : Heap) (locs : List Loc) (rl : Array Slot), va_P (eD E) vwCl (wsO E g) H → va_S A0 s.heap H locs → lv_has rl c.maxLocals (asc E 0 ls) → W p (eL E) e R s m args below meth c H locs cells slots Q (F0 m pc rl (st.map (tv E)))
def Xk (E : En) (M : Mt) (X : Cx) : Prop := match X with
  | (p, _, R, s, m, args, _, _, c, cells, slots, _, A0) => p.tables.exec = Jvm.exec ∧ c.code = M.2.1 ∧ c.maxLocals = M.2.2.1 ∧ s.vm.findClass M.1.cls = some m.cls ∧ (∀ w ∈ TB, w.before args s = true) ∧ cs E A0 s ∧ (∀ q, wA E q → A0 q) ∧ 1 ≤ R.frames ∧ 60 ≤ R.locals ∧ cells ≤ R.cells ∧ slots ≤ R.slots
def rm (d : Nat) : Room := { frames := d, cells := 0, slots := 0, locals := 64 * d }
def Pq (E : En) (as : List mv) (g : Mm) : Array Value → State → Prop := fun a U => a = (as.map (tv E)).toArray ∧ va_P (eD E) vwCl (wsO E g) U.heap ∧ cs E (wA E) U
def Qq (E : En) (post : Option mv → Mm → Prop) : Array Value → State → Outcome → State → Prop := fun _ st o t => (∃ (r : Option mv) (g : Mm), o = .returned (r.map (tv E)) ∧ post r g ∧ va_P (eD E) vwCl (wsO E g) t.heap) ∧ va_F (wA E) st t
def Ok (E : En) (d : Nat) (M : Mt) (as : List mv) (g : Mm) (post : Option mv → Mm → Prop) : Prop := Met (eL E) M.1 (mcode M :: TB) (rm d) (Pq E as g) (Qq E post) 0 0 (wA E)
/-- the end of a method's own frame -/
abbrev mQ (E : En) (X : Cx) (post : Option mv → Mm → Prop) : Prop := match X with
  | (_, _, _, s, _, args, below, meth, _, cells, slots, Q, A0) => Q = MQ below (Qq E post) args s cells slots (wA E) ∧ meth.locks = false ∧ A0 = wA E
abbrev mRt (M : Mt) (X : Cx) : Prop := match X with | (_, _, _, _, _, _, _, meth, _, _, _, _, _) => meth.sig.returnType = M.2.2.2
/-- a method's walk: its surroundings and its end -/
def Wk (E : En) (M : Mt) (X : Cx) (d : Nat) (post : Option mv → Mm → Prop) : Prop := Xk E M X ∧ mQ E X post ∧ mRt M X ∧ X.2.2.1 = rm d
/-- locals at entry: arguments, a long takes two places -/
def lin : List mv → List (Option mv)
  | [] => []
  | .inr (.inl x) :: l => some (vL x) :: none :: lin l
  | v :: l => some v :: lin l
theorem asc_lin (E : En) : ∀ (as : List mv) (i : Nat), asc E i (lin as) = lv_args i (as.map (tv E))
  | [], i => rfl
  | .inl z :: l, i => by simp [lin, asc, lv_args, tv, Value.category, asc_lin E l (i + 1)]
  | .inr (.inl x) :: l, i => by simp [lin, asc, lv_args, tv, Value.category, asc_lin E l (i + 2)]
  | .inr (.inr k) :: l, i => by simp [lin, asc, lv_args, tv, Value.category, asc_lin E l (i + 1)]
theorem asc_rep (E : En) : ∀ (n i : Nat) (l : List (Option mv)), asc E i (l ++ List.replicate n none) = asc E i l
  | n, i, [] => by
    induction n generalizing i with
    | zero => rfl
    | succ n ih => simpa [List.replicate_succ, asc] using ih (i + 1)
  | n, i, none :: l => by simpa [asc] using asc_rep E n (i + 1) l
  | n, i, some v :: l => by simpa [asc] using asc_rep E n (i + 1) l
theorem lin_len (E : En) : ∀ as : List mv, (lg_sl (as.map (tv E))).length = (lin as).length
  | [] => rfl
  | .inl z :: l => by simpa [lin, lg_sl, tv, Value.category] using lin_len E l
  | .inr (.inl x) :: l => by simpa [lin, lg_sl, tv, Value.category] using lin_len E l
  | .inr (.inr k) :: l => by simpa [lin, lg_sl, tv, Value.category] using lin_len E l
theorem Ok_of {E : En} {d : Nat} {M : Mt} {as : List mv} {g : Mm} {post : Option mv → Mm → Prop} (hM : MG M) (hd : 1 ≤ d) (hl : (lin as).length ≤ M.2.2.1)
    (h : ∀ X : Cx, Wk E M X d post → V E X 0 (lin as ++ List.replicate (M.2.2.1 - (lin as).length) none) [] g) : Ok E d M as g post := by
  obtain ⟨hpl, hc, hini, hne, -⟩ := hM
  refine Met.ofW (cc := M.2.1) (maxL := M.2.2.1) (ret := M.2.2.2) hpl rfl ?_
  intro p e s m args below meth c s₁ B hml hv
  obtain ⟨rfl, hP, hcs⟩ := hv
  have hts := atoms_spec (ws := mcode M :: TB) B.pre
  have hown : s.vm.findClass M.1.cls = some m.cls := findClass_of_methodNamed B.named
  have hlocks := B.notSynchronized
  have hx := h (p, e, rm d, s, m, (as.map (tv E)).toArray, below, meth, c, 0, 0, MQ below (Qq E post) (as.map (tv E)).toArray s 0 0 (wA E), wA E)
    ⟨⟨B.exec, B.bytes, hml, hown, fun w hw => hts w (List.mem_cons_of_mem _ hw), hcs, fun _ q => q, hd, by show 60 ≤ 64 * d; omega, Nat.le_refl _, Nat.le_refl _⟩, ⟨rfl, hlocks, rfl⟩, B.returns, rfl⟩
  have he := lv_entry (as.map (tv E)) (n := M.2.2.1) (by rw [lin_len]; exact hl)
  rw [lg_entry_eq]
  refine hx s.heap [] _ hP va_S.rf ?_
  rw [asc_rep, asc_lin, hml]
  exact he
section KR
variable {E : En} {M : Mt} {X : Cx} {pc : Nat} {ls : List (Option mv)} {st : List mv} {g : Mm}
/-- fewer locals -/
def lsub : List (Option mv) → List (Option mv) → Prop
  | [], _ => True
  | none :: a, [] => lsub a []
  | none :: a, _ :: b => lsub a b
  | some _ :: _, [] => False
  | some x :: a, y :: b => y = some x ∧ lsub a b
theorem lsub_at : ∀ (a b : List (Option mv)) (n : Nat) (v : mv), lsub a b → a[n]? = some (some v) → b[n]? = some (some v)
  | [], b, n, v, h, ha => by simp at ha
  | none :: a, [], n, v, h, ha => by
    cases n with
    | zero => simp at ha
    | succ n => have := lsub_at a [] n v h (by simpa using ha); simp at this
  | none :: a, y :: b, n, v, h, ha => by
    cases n with
    | zero => simp at ha
    | succ n => simpa using lsub_at a b n v h (by simpa using ha)
  | some x :: a, [], n, v, h, ha => h.elim
  | some x :: a, y :: b, n, v, h, ha => by
    cases n with
    | zero => simp at ha; simp [h.1, ha]
    | succ n => simpa using lsub_at a b n v h.2 (by simpa using ha)
theorem k_sub {ls' : List (Option mv)} (h : lsub ls' ls) (k : V E X pc ls' st g) : V E X pc ls st g := by
  obtain ⟨p, e, R, s, m, args, below, meth, c, cells, slots, Q, A0⟩ := X
  intro H locs rl hP hS hl
  refine k H locs rl hP hS (lv_less hl fun q hq => ?_)
  obtain ⟨n, v, h1, rfl⟩ := asc_of E ls' 0 q hq
  exact asc_mem E ls 0 n v (lsub_at ls' ls n v h h1)
theorem k_mem {g' : Mm} (h : g = g') (k : V E X pc ls st g') : V E X pc ls st g := h ▸ k
theorem k_top {a b : Int} (h : a = b) (k : V E X pc ls (vI b :: st) g) : V E X pc ls (vI a :: st) g := h ▸ k
def okst (ls : List (Option mv)) (n : Nat) : Bool := match n with
  | 0 => true
  | n + 1 => match ls[n]? with | some (some (.inr (.inl _))) => false | _ => true
theorem tv_cat (v : mv) : (tv E v).category = 2 → ∃ x, v = vL x := by
  rcases v with z | x | k
  · intro h; simp [tv, Value.category] at h
  · intro _; exact ⟨x, rfl⟩
  · intro h; simp [tv, Value.category] at h
theorem okst_no {n k : Nat} {v : mv} (h : okst ls n = true) (hk : ls[k]? = some (some v)) (hn : k + 1 = n) : ¬ (tv E v).category = 2 := by
  subst hn
  intro hc
  obtain ⟨x, rfl⟩ := tv_cat v hc
  simp [okst, hk] at h
theorem lv_put1 {rl : Array Slot} {N n : Nat} {v : mv} {ls' : List (Option mv)} (h : lv_has rl N (asc E 0 ls)) (ho : okst ls n = true) (hs : ls.set n (some v) = ls') : ∀ rl', lv_has rl' N ((n, tv E v) :: (asc E 0 ls).filter (fun q => !(q.1 == n) && !(q.1 + 1 == n && q.2.category == 2))) → lv_has rl' N (asc E 0 ls') := by
  intro rl' h'
  refine lv_less h' fun q hq => ?_
  obtain ⟨k, w, h1, rfl⟩ := asc_of E ls' 0 q hq
  subst hs
  rw [Nat.zero_add]
  by_cases e : k = n
  · subst e
    have hlt : k < ls.length := by
      have := (List.getElem?_eq_some_iff.mp h1).1
      simpa using this
    rw [List.getElem?_set_self hlt] at h1
    cases h1
    exact List.mem_cons_self
  · rw [List.getElem?_set_ne (fun q => e q.symm)] at h1
    refine List.mem_cons_of_mem _ (List.mem_filter.mpr ⟨?_, ?_⟩)
    · have := asc_mem E ls 0 k w h1
      rwa [Nat.zero_add] at this
    · have h2 : (k == n) = false := by simpa using e
      rw [Bool.and_eq_true]
      refine ⟨by simp [h2], ?_⟩
      by_cases e2 : k + 1 = n
      · have := okst_no (E := E) ho h1 e2
        have h3 : ((tv E w).category == 2) = false := by simpa using this
        simp [h3]
      · have h4 : (k + 1 == n) = false := by simpa using e2
        simp [h4]
theorem lv_put2 {rl : Array Slot} {N n : Nat} {x : Int64} {ls' : List (Option mv)} (h : lv_has rl N (asc E 0 ls)) (ho : okst ls n = true) (hs : (ls.set n (some (vL x))).set (n + 1) none = ls') : ∀ rl', lv_has rl' N ((n, .long x) :: (asc E 0 ls).filter (fun q => !(q.1 == n) && (!(q.1 == n + 1) && !(q.1 + 1 == n && q.2.category == 2)))) → lv_has rl' N (asc E 0 ls') := by
  intro rl' h'
  refine lv_less h' fun q hq => ?_
  obtain ⟨k, w, h1, rfl⟩ := asc_of E ls' 0 q hq
  subst hs
  rw [Nat.zero_add]
  by_cases e1 : k = n + 1
  · subst e1
    have hlt := (List.getElem?_eq_some_iff.mp h1).1
    rw [List.getElem?_set_self (by simpa using hlt)] at h1
    cases h1
  · rw [List.getElem?_set_ne (fun q => e1 q.symm)] at h1
    by_cases e : k = n
    · subst e
      have hlt : k < ls.length := by
        have := (List.getElem?_eq_some_iff.mp h1).1
        simpa using this
      rw [List.getElem?_set_self hlt] at h1
      cases h1
      exact List.mem_cons_self
    · rw [List.getElem?_set_ne (fun q => e q.symm)] at h1
      refine List.mem_cons_of_mem _ (List.mem_filter.mpr ⟨?_, ?_⟩)
      · have := asc_mem E ls 0 k w h1
        rwa [Nat.zero_add] at this
      · have h2 : (k == n) = false := by simpa using e
        have h5 : (k == n + 1) = false := by simpa using e1
        rw [Bool.and_eq_true]
        refine ⟨by simp [h2], ?_⟩
        rw [Bool.and_eq_true]
        refine ⟨by simp [h5], ?_⟩
        by_cases e2 : k + 1 = n
        · have := okst_no (E := E) ho h1 e2
          have h3 : ((tv E w).category == 2) = false := by simpa using this
          simp [h3]
        · have h4 : (k + 1 == n) = false := by simpa using e2
          simp [h4]
theorem lv_rd {rl : Array Slot} {N n : Nat} {v : mv} (h : lv_has rl N (asc E 0 ls)) (hn : ls[n]? = some (some v)) : rl[n]? = some (.val (tv E v)) := by
  have := h.2.2 _ (asc_mem E ls 0 n v hn)
  simpa using this
theorem k_iconst (hX : Xk E M X) {n : Int} (hd : decode M.2.1 pc = .ok (.iconst n, 1)) (k : V E X (pc + 1) ls (vI n :: st) g) : V E X pc ls st g := by
  obtain ⟨p, e, R, s, m, args, below, meth, c, cells, slots, Q, A0⟩ := X
  obtain ⟨hx, hb, hml, hown, hts, hcs, hAA, hfr, hlo, hce, hsl⟩ := id hX
  intro H locs rl hP hS hl
  exact lv_iconst hx hb hd rfl (k H locs rl hP hS hl)
theorem k_bipush (hX : Xk E M X) {n : Int} (hd : decode M.2.1 pc = .ok (.bipush n, 2)) (hn : (Int8.ofInt n).toInt32 = zi n) (k : V E X (pc + 2) ls (vI n :: st) g) : V E X pc ls st g := by
  obtain ⟨p, e, R, s, m, args, below, meth, c, cells, slots, Q, A0⟩ := X
  obtain ⟨hx, hb, hml, hown, hts, hcs, hAA, hfr, hlo, hce, hsl⟩ := id hX
  intro H locs rl hP hS hl
  exact lv_bipush hx hb hd hn (k H locs rl hP hS hl)
theorem k_sipush (hX : Xk E M X) {n : Int} (hd : decode M.2.1 pc = .ok (.sipush n, 3)) (hn : (Int16.ofInt n).toInt32 = zi n) (k : V E X (pc + 3) ls (vI n :: st) g) : V E X pc ls st g := by
  obtain ⟨p, e, R, s, m, args, below, meth, c, cells, slots, Q, A0⟩ := X
  obtain ⟨hx, hb, hml, hown, hts, hcs, hAA, hfr, hlo, hce, hsl⟩ := id hX
  intro H locs rl hP hS hl
  exact lv_sipush hx hb hd hn (k H locs rl hP hS hl)
theorem k_ldc (hX : Xk E M X) {i : Nat} {x : Int32} {n : Int} (hd : decode M.2.1 pc = .ok (.ldc i, 2)) (hc : Cond.constant M.1.cls i x ∈ TB) (hn : x = zi n) (k : V E X (pc + 2) ls (vI n :: st) g) : V E X pc ls st g := by
  obtain ⟨p, e, R, s, m, args, below, meth, c, cells, slots, Q, A0⟩ := X
  obtain ⟨hx, hb, hml, hown, hts, hcs, hAA, hfr, hlo, hce, hsl⟩ := id hX
  intro H locs rl hP hS hl
  subst hn
  exact lv_ldc hx hb hown (hts _ hc) hd (k H locs rl hP hS hl)
theorem k_ldc2 (hX : Xk E M X) {i : Nat} {x : Int64} (hd : decode M.2.1 pc = .ok (.ldc2_w i, 3)) (hc : Cond.constantLong M.1.cls i x ∈ TB) (k : V E X (pc + 3) ls (vL x :: st) g) : V E X pc ls st g := by
  obtain ⟨p, e, R, s, m, args, below, meth, c, cells, slots, Q, A0⟩ := X
  obtain ⟨hx, hb, hml, hown, hts, hcs, hAA, hfr, hlo, hce, hsl⟩ := id hX
  intro H locs rl hP hS hl
  exact lv_ldc2 hx hb hown (hts _ hc) hd (k H locs rl hP hS hl)
theorem k_iload_n (hX : Xk E M X) {q : Fin 4} {i : Nat} {z : Int} (hd : decode M.2.1 pc = .ok (.iload_n q, 1)) (hi : (q : Nat) = i) (hv : ls[i]? = some (some (vI z))) (k : V E X (pc + 1) ls (vI z :: st) g) : V E X pc ls st g := by
  obtain ⟨p, e, R, s, m, args, below, meth, c, cells, slots, Q, A0⟩ := X
  obtain ⟨hx, hb, hml, hown, hts, hcs, hAA, hfr, hlo, hce, hsl⟩ := id hX
  intro H locs rl hP hS hl
  exact lv_iload_n hx hb hd hi (lv_rd hl hv) (k H locs rl hP hS hl)
theorem k_iload (hX : Xk E M X) {i : Nat} {z : Int} (hd : decode M.2.1 pc = .ok (.iload i, 2)) (hv : ls[i]? = some (some (vI z))) (k : V E X (pc + 2) ls (vI z :: st) g) : V E X pc ls st g := by
  obtain ⟨p, e, R, s, m, args, below, meth, c, cells, slots, Q, A0⟩ := X
  obtain ⟨hx, hb, hml, hown, hts, hcs, hAA, hfr, hlo, hce, hsl⟩ := id hX
  intro H locs rl hP hS hl
  exact lv_iload hx hb hd (lv_rd hl hv) (k H locs rl hP hS hl)
theorem k_lload_n (hX : Xk E M X) {q : Fin 4} {i : Nat} {z : Int64} (hd : decode M.2.1 pc = .ok (.lload_n q, 1)) (hi : (q : Nat) = i) (hv : ls[i]? = some (some (vL z))) (k : V E X (pc + 1) ls (vL z :: st) g) : V E X pc ls st g := by
  obtain ⟨p, e, R, s, m, args, below, meth, c, cells, slots, Q, A0⟩ := X
  obtain ⟨hx, hb, hml, hown, hts, hcs, hAA, hfr, hlo, hce, hsl⟩ := id hX
  intro H locs rl hP hS hl
  exact lv_lload_n hx hb hd hi (lv_rd hl hv) (k H locs rl hP hS hl)
theorem k_lload (hX : Xk E M X) {i : Nat} {z : Int64} (hd : decode M.2.1 pc = .ok (.lload i, 2)) (hv : ls[i]? = some (some (vL z))) (k : V E X (pc + 2) ls (vL z :: st) g) : V E X pc ls st g := by
  obtain ⟨p, e, R, s, m, args, below, meth, c, cells, slots, Q, A0⟩ := X
  obtain ⟨hx, hb, hml, hown, hts, hcs, hAA, hfr, hlo, hce, hsl⟩ := id hX
  intro H locs rl hP hS hl
  exact lv_lload hx hb hd (lv_rd hl hv) (k H locs rl hP hS hl)
theorem k_aload_n (hX : Xk E M X) {q : Fin 4} {i : Nat} {z : Nat} (hd : decode M.2.1 pc = .ok (.aload_n q, 1)) (hi : (q : Nat) = i) (hv : ls[i]? = some (some (vR z))) (k : V E X (pc + 1) ls (vR z :: st) g) : V E X pc ls st g := by
  obtain ⟨p, e, R, s, m, args, below, meth, c, cells, slots, Q, A0⟩ := X
  obtain ⟨hx, hb, hml, hown, hts, hcs, hAA, hfr, hlo, hce, hsl⟩ := id hX
  intro H locs rl hP hS hl
  exact lv_aload_n hx hb hd hi (lv_rd hl hv) (k H locs rl hP hS hl)
theorem k_aload (hX : Xk E M X) {i : Nat} {z : Nat} (hd : decode M.2.1 pc = .ok (.aload i, 2)) (hv : ls[i]? = some (some (vR z))) (k : V E X (pc + 2) ls (vR z :: st) g) : V E X pc ls st g := by
  obtain ⟨p, e, R, s, m, args, below, meth, c, cells, slots, Q, A0⟩ := X
  obtain ⟨hx, hb, hml, hown, hts, hcs, hAA, hfr, hlo, hce, hsl⟩ := id hX
  intro H locs rl hP hS hl
  exact lv_aload hx hb hd (lv_rd hl hv) (k H locs rl hP hS hl)
theorem k_istore_n (hX : Xk E M X) {q : Fin 4} {i : Nat} {z : Int} {ls' : List (Option mv)} (hd : decode M.2.1 pc = .ok (.istore_n q, 1)) (hi : (q : Nat) = i) (hn : i < M.2.2.1) (ho : okst ls i = true) (hs : ls.set i (some (vI z)) = ls') (k : V E X (pc + 1) ls' st g) : V E X pc ls (vI z :: st) g := by
  obtain ⟨p, e, R, s, m, args, below, meth, c, cells, slots, Q, A0⟩ := X
  obtain ⟨hx, hb, hml, hown, hts, hcs, hAA, hfr, hlo, hce, hsl⟩ := id hX
  intro H locs rl hP hS hl
  exact lv_istore_n hx hb hd hi hl (by rw [hml]; exact hn) rfl (fun rl' h => k H locs rl' hP hS (lv_put1 hl ho hs rl' h))
theorem k_istore (hX : Xk E M X) {i : Nat} {z : Int} {ls' : List (Option mv)} (hd : decode M.2.1 pc = .ok (.istore i, 2)) (hn : i < M.2.2.1) (ho : okst ls i = true) (hs : ls.set i (some (vI z)) = ls') (k : V E X (pc + 2) ls' st g) : V E X pc ls (vI z :: st) g := by
  obtain ⟨p, e, R, s, m, args, below, meth, c, cells, slots, Q, A0⟩ := X
  obtain ⟨hx, hb, hml, hown, hts, hcs, hAA, hfr, hlo, hce, hsl⟩ := id hX
  intro H locs rl hP hS hl
  exact lv_istore hx hb hd hl (by rw [hml]; exact hn) rfl (fun rl' h => k H locs rl' hP hS (lv_put1 hl ho hs rl' h))
theorem k_astore_n (hX : Xk E M X) {q : Fin 4} {i : Nat} {z : Nat} {ls' : List (Option mv)} (hd : decode M.2.1 pc = .ok (.astore_n q, 1)) (hi : (q : Nat) = i) (hn : i < M.2.2.1) (ho : okst ls i = true) (hs : ls.set i (some (vR z)) = ls') (k : V E X (pc + 1) ls' st g) : V E X pc ls (vR z :: st) g := by
  obtain ⟨p, e, R, s, m, args, below, meth, c, cells, slots, Q, A0⟩ := X
  obtain ⟨hx, hb, hml, hown, hts, hcs, hAA, hfr, hlo, hce, hsl⟩ := id hX
  intro H locs rl hP hS hl
  exact lv_astore_n hx hb hd hi hl (by rw [hml]; exact hn) rfl (fun rl' h => k H locs rl' hP hS (lv_put1 hl ho hs rl' h))
theorem k_astore (hX : Xk E M X) {i : Nat} {z : Nat} {ls' : List (Option mv)} (hd : decode M.2.1 pc = .ok (.astore i, 2)) (hn : i < M.2.2.1) (ho : okst ls i = true) (hs : ls.set i (some (vR z)) = ls') (k : V E X (pc + 2) ls' st g) : V E X pc ls (vR z :: st) g := by
  obtain ⟨p, e, R, s, m, args, below, meth, c, cells, slots, Q, A0⟩ := X
  obtain ⟨hx, hb, hml, hown, hts, hcs, hAA, hfr, hlo, hce, hsl⟩ := id hX
  intro H locs rl hP hS hl
  exact lv_astore hx hb hd hl (by rw [hml]; exact hn) rfl (fun rl' h => k H locs rl' hP hS (lv_put1 hl ho hs rl' h))
theorem k_lstore_n (hX : Xk E M X) {q : Fin 4} {i : Nat} {z : Int64} {ls' : List (Option mv)} (hd : decode M.2.1 pc = .ok (.lstore_n q, 1)) (hi : (q : Nat) = i) (hn : i + 1 < M.2.2.1) (ho : okst ls i = true) (hs : (ls.set i (some (vL z))).set (i + 1) none = ls') (k : V E X (pc + 1) ls' st g) : V E X pc ls (vL z :: st) g := by
  obtain ⟨p, e, R, s, m, args, below, meth, c, cells, slots, Q, A0⟩ := X
  obtain ⟨hx, hb, hml, hown, hts, hcs, hAA, hfr, hlo, hce, hsl⟩ := id hX
  intro H locs rl hP hS hl
  exact lv_lstore_n hx hb hd hi hl (by rw [hml]; exact hn) rfl (fun rl' h => k H locs rl' hP hS (lv_put2 hl ho hs rl' h))
theorem k_iinc (hX : Xk E M X) {i : Nat} {n z : Int} {ls' : List (Option mv)} (hd : decode M.2.1 pc = .ok (.iinc i n, 3)) (hv : ls[i]? = some (some (vI z))) (hn : i < M.2.2.1) (ho : okst ls i = true) (hs : ls.set i (some (vI (z + n))) = ls') (k : V E X (pc + 3) ls' st g) : V E X pc ls st g := by
  obtain ⟨p, e, R, s, m, args, below, meth, c, cells, slots, Q, A0⟩ := X
  obtain ⟨hx, hb, hml, hown, hts, hcs, hAA, hfr, hlo, hce, hsl⟩ := id hX
  intro H locs rl hP hS hl
  have hm := asc_mem E ls 0 i _ hv
  rw [Nat.zero_add] at hm
  obtain ⟨j, hj⟩ := List.getElem?_of_mem hm
  exact lv_iinc (x := zi z) (v := zi (z + n)) hx hb hd hl hj (zi_add z n) (by rw [hml]; exact hn) rfl (fun rl' h => k H locs rl' hP hS (lv_put1 hl ho hs rl' h))
theorem k_iadd (hX : Xk E M X) {a b : Int} (hd : decode M.2.1 pc = .ok (.iadd, 1)) (k : V E X (pc + 1) ls (vI (a + b) :: st) g) : V E X pc ls (vI b :: vI a :: st) g := by
  obtain ⟨p, e, R, s, m, args, below, meth, c, cells, slots, Q, A0⟩ := X
  obtain ⟨hx, hb, hml, hown, hts, hcs, hAA, hfr, hlo, hce, hsl⟩ := id hX
  intro H locs rl hP hS hl
  refine lv_iadd hx hb hd ?_
  rw [zi_add]
  exact k H locs rl hP hS hl
theorem k_isub (hX : Xk E M X) {a b : Int} (hd : decode M.2.1 pc = .ok (.isub, 1)) (k : V E X (pc + 1) ls (vI (a - b) :: st) g) : V E X pc ls (vI b :: vI a :: st) g := by
  obtain ⟨p, e, R, s, m, args, below, meth, c, cells, slots, Q, A0⟩ := X
  obtain ⟨hx, hb, hml, hown, hts, hcs, hAA, hfr, hlo, hce, hsl⟩ := id hX
  intro H locs rl hP hS hl
  refine lv_isub hx hb hd ?_
  rw [zi_sub]
  exact k H locs rl hP hS hl
theorem k_imul (hX : Xk E M X) {a b : Int} (hd : decode M.2.1 pc = .ok (.imul, 1)) (k : V E X (pc + 1) ls (vI (a * b) :: st) g) : V E X pc ls (vI b :: vI a :: st) g := by
  obtain ⟨p, e, R, s, m, args, below, meth, c, cells, slots, Q, A0⟩ := X
  obtain ⟨hx, hb, hml, hown, hts, hcs, hAA, hfr, hlo, hce, hsl⟩ := id hX
  intro H locs rl hP hS hl
  refine lv_imul hx hb hd ?_
  rw [zi_mul]
  exact k H locs rl hP hS hl
theorem k_idiv (hX : Xk E M X) {a b : Int} (hd : decode M.2.1 pc = .ok (.idiv, 1)) (ha : 0 ≤ a ∧ a < 2147483648) (hb0 : 0 < b ∧ b < 2147483648) (k : V E X (pc + 1) ls (vI (a / b) :: st) g) : V E X pc ls (vI b :: vI a :: st) g := by
  obtain ⟨p, e, R, s, m, args, below, meth, c, cells, slots, Q, A0⟩ := X
  obtain ⟨hx, hb, hml, hown, hts, hcs, hAA, hfr, hlo, hce, hsl⟩ := id hX
  intro H locs rl hP hS hl
  refine lv_idiv hx hb hd (fun q => ?_) ?_
  · have := (zi_eq (a := b) (b := 0) ⟨by omega, by omega⟩ (by decide)).mp q
    omega
  · rw [zi_div ha.1 ha.2 hb0.1 hb0.2]
    exact k H locs rl hP hS hl
theorem k_irem (hX : Xk E M X) {a b : Int} (hd : decode M.2.1 pc = .ok (.irem, 1)) (ha : 0 ≤ a ∧ a < 2147483648) (hb0 : 0 < b ∧ b < 2147483648) (k : V E X (pc + 1) ls (vI (a % b) :: st) g) : V E X pc ls (vI b :: vI a :: st) g := by
  obtain ⟨p, e, R, s, m, args, below, meth, c, cells, slots, Q, A0⟩ := X
  obtain ⟨hx, hb, hml, hown, hts, hcs, hAA, hfr, hlo, hce, hsl⟩ := id hX
  intro H locs rl hP hS hl
  refine lv_irem hx hb hd (fun q => ?_) ?_
  · have := (zi_eq (a := b) (b := 0) ⟨by omega, by omega⟩ (by decide)).mp q
    omega
  · rw [zi_rem ha.1 ha.2 hb0.1 hb0.2]
    exact k H locs rl hP hS hl
theorem k_ladd (hX : Xk E M X) {a b : Int64} (hd : decode M.2.1 pc = .ok (.ladd, 1)) (k : V E X (pc + 1) ls (vL (a + b) :: st) g) : V E X pc ls (vL b :: vL a :: st) g := by
  obtain ⟨p, e, R, s, m, args, below, meth, c, cells, slots, Q, A0⟩ := X
  obtain ⟨hx, hb, hml, hown, hts, hcs, hAA, hfr, hlo, hce, hsl⟩ := id hX
  intro H locs rl hP hS hl
  exact lv_ladd hx hb hd (k H locs rl hP hS hl)
theorem k_lmul (hX : Xk E M X) {a b : Int64} (hd : decode M.2.1 pc = .ok (.lmul, 1)) (k : V E X (pc + 1) ls (vL (a * b) :: st) g) : V E X pc ls (vL b :: vL a :: st) g := by
  obtain ⟨p, e, R, s, m, args, below, meth, c, cells, slots, Q, A0⟩ := X
  obtain ⟨hx, hb, hml, hown, hts, hcs, hAA, hfr, hlo, hce, hsl⟩ := id hX
  intro H locs rl hP hS hl
  exact lv_lmul hx hb hd (k H locs rl hP hS hl)
theorem k_land (hX : Xk E M X) {a b : Int64} (hd : decode M.2.1 pc = .ok (.land, 1)) (k : V E X (pc + 1) ls (vL (a &&& b) :: st) g) : V E X pc ls (vL b :: vL a :: st) g := by
  obtain ⟨p, e, R, s, m, args, below, meth, c, cells, slots, Q, A0⟩ := X
  obtain ⟨hx, hb, hml, hown, hts, hcs, hAA, hfr, hlo, hce, hsl⟩ := id hX
  intro H locs rl hP hS hl
  exact lv_land hx hb hd (k H locs rl hP hS hl)
theorem k_ldiv (hX : Xk E M X) {a b : Int64} (hd : decode M.2.1 pc = .ok (.ldiv, 1)) (hne : ¬ b = 0) (k : V E X (pc + 1) ls (vL (a / b) :: st) g) : V E X pc ls (vL b :: vL a :: st) g := by
  obtain ⟨p, e, R, s, m, args, below, meth, c, cells, slots, Q, A0⟩ := X
  obtain ⟨hx, hb, hml, hown, hts, hcs, hAA, hfr, hlo, hce, hsl⟩ := id hX
  intro H locs rl hP hS hl
  exact lv_ldiv hx hb hd hne (k H locs rl hP hS hl)
theorem k_lrem (hX : Xk E M X) {a b : Int64} (hd : decode M.2.1 pc = .ok (.lrem, 1)) (hne : ¬ b = 0) (k : V E X (pc + 1) ls (vL (a - a / b * b) :: st) g) : V E X pc ls (vL b :: vL a :: st) g := by
  obtain ⟨p, e, R, s, m, args, below, meth, c, cells, slots, Q, A0⟩ := X
  obtain ⟨hx, hb, hml, hown, hts, hcs, hAA, hfr, hlo, hce, hsl⟩ := id hX
  intro H locs rl hP hS hl
  exact lv_lrem hx hb hd hne (k H locs rl hP hS hl)
theorem k_i2l (hX : Xk E M X) {a : Int} (hd : decode M.2.1 pc = .ok (.i2l, 1)) (k : V E X (pc + 1) ls (vL (zi a).toInt64 :: st) g) : V E X pc ls (vI a :: st) g := by
  obtain ⟨p, e, R, s, m, args, below, meth, c, cells, slots, Q, A0⟩ := X
  obtain ⟨hx, hb, hml, hown, hts, hcs, hAA, hfr, hlo, hce, hsl⟩ := id hX
  intro H locs rl hP hS hl
  exact lv_i2l hx hb hd rfl (k H locs rl hP hS hl)
theorem k_l2i (hX : Xk E M X) {a : Int64} (hd : decode M.2.1 pc = .ok (.l2i, 1)) (k : V E X (pc + 1) ls (vI a.toInt32.toInt :: st) g) : V E X pc ls (vL a :: st) g := by
  obtain ⟨p, e, R, s, m, args, below, meth, c, cells, slots, Q, A0⟩ := X
  obtain ⟨hx, hb, hml, hown, hts, hcs, hAA, hfr, hlo, hce, hsl⟩ := id hX
  intro H locs rl hP hS hl
  refine lv_l2i hx hb hd (zi_of _).symm (k H locs rl hP hS hl)
theorem k_i2b (hX : Xk E M X) {a : Int} (hd : decode M.2.1 pc = .ok (.i2b, 1)) (ha : -128 ≤ a ∧ a < 128) (k : V E X (pc + 1) ls (vI a :: st) g) : V E X pc ls (vI a :: st) g := by
  obtain ⟨p, e, R, s, m, args, below, meth, c, cells, slots, Q, A0⟩ := X
  obtain ⟨hx, hb, hml, hown, hts, hcs, hAA, hfr, hlo, hce, hsl⟩ := id hX
  intro H locs rl hP hS hl
  exact lv_i2b hx hb hd (zi_b ha) (k H locs rl hP hS hl)
theorem k_i2c (hX : Xk E M X) {a : Int} (hd : decode M.2.1 pc = .ok (.i2c, 1)) (ha : 0 ≤ a ∧ a < 65536) (k : V E X (pc + 1) ls (vI a :: st) g) : V E X pc ls (vI a :: st) g := by
  obtain ⟨p, e, R, s, m, args, below, meth, c, cells, slots, Q, A0⟩ := X
  obtain ⟨hx, hb, hml, hown, hts, hcs, hAA, hfr, hlo, hce, hsl⟩ := id hX
  intro H locs rl hP hS hl
  exact lv_i2c hx hb hd (zi_c ha) (k H locs rl hP hS hl)
theorem k_lcmp (hX : Xk E M X) {a b : Int64} (hd : decode M.2.1 pc = .ok (.lcmp, 1)) (k : V E X (pc + 1) ls (vI (lg_cmp a b).toInt :: st) g) : V E X pc ls (vL b :: vL a :: st) g := by
  obtain ⟨p, e, R, s, m, args, below, meth, c, cells, slots, Q, A0⟩ := X
  obtain ⟨hx, hb, hml, hown, hts, hcs, hAA, hfr, hlo, hce, hsl⟩ := id hX
  intro H locs rl hP hS hl
  refine W.lcmp hx hb hd ?_
  rw [← zi_of (lg_cmp a b)]
  exact k H locs rl hP hS hl
theorem k_dup (hX : Xk E M X) {z : Int} (hd : decode M.2.1 pc = .ok (.dup, 1)) (k : V E X (pc + 1) ls (vI z :: vI z :: st) g) : V E X pc ls (vI z :: st) g := by
  obtain ⟨p, e, R, s, m, args, below, meth, c, cells, slots, Q, A0⟩ := X
  obtain ⟨hx, hb, hml, hown, hts, hcs, hAA, hfr, hlo, hce, hsl⟩ := id hX
  intro H locs rl hP hS hl
  exact lv_dup hx hb hd rfl (k H locs rl hP hS hl)
theorem k_dupR (hX : Xk E M X) {z : Nat} (hd : decode M.2.1 pc = .ok (.dup, 1)) (k : V E X (pc + 1) ls (vR z :: vR z :: st) g) : V E X pc ls (vR z :: st) g := by
  obtain ⟨p, e, R, s, m, args, below, meth, c, cells, slots, Q, A0⟩ := X
  obtain ⟨hx, hb, hml, hown, hts, hcs, hAA, hfr, hlo, hce, hsl⟩ := id hX
  intro H locs rl hP hS hl
  exact lv_dup hx hb hd rfl (k H locs rl hP hS hl)
theorem k_dup2 (hX : Xk E M X) {z : Int} {q : Nat} (hd : decode M.2.1 pc = .ok (.dup2, 1)) (k : V E X (pc + 1) ls (vI z :: vR q :: vI z :: vR q :: st) g) : V E X pc ls (vI z :: vR q :: st) g := by
  obtain ⟨p, e, R, s, m, args, below, meth, c, cells, slots, Q, A0⟩ := X
  obtain ⟨hx, hb, hml, hown, hts, hcs, hAA, hfr, hlo, hce, hsl⟩ := id hX
  intro H locs rl hP hS hl
  exact lv_dup2_11 hx hb hd rfl rfl (k H locs rl hP hS hl)
theorem k_pop (hX : Xk E M X) {z : Int} (hd : decode M.2.1 pc = .ok (.pop, 1)) (k : V E X (pc + 1) ls st g) : V E X pc ls (vI z :: st) g := by
  obtain ⟨p, e, R, s, m, args, below, meth, c, cells, slots, Q, A0⟩ := X
  obtain ⟨hx, hb, hml, hown, hts, hcs, hAA, hfr, hlo, hce, hsl⟩ := id hX
  intro H locs rl hP hS hl
  exact lv_pop hx hb hd rfl (k H locs rl hP hS hl)
theorem k_icmp_eq (hX : Xk E M X) {a b : Int} {off : Int} {tgt : Nat} (hd : decode M.2.1 pc = .ok (.if_icmp .eq off, 3)) (ht : (pc : Int) + off = (tgt : Int)) (ha : bd a) (hb0 : bd b) (kt : a = b → V E X tgt ls st g) (kf : ¬ a = b → V E X (pc + 3) ls st g) : V E X pc ls (vI b :: vI a :: st) g := by
  obtain ⟨p, e, R, s, m, args, below, meth, c, cells, slots, Q, A0⟩ := X
  obtain ⟨hx, hb, hml, hown, hts, hcs, hAA, hfr, hlo, hce, hsl⟩ := id hX
  intro H locs rl hP hS hl
  have hc := zi_eq ha hb0
  exact lv_icmp_eq hx hb hd ht (fun q => kt (by first | exact hc.mp q | exact fun z => q (hc.mpr z)) H locs rl hP hS hl) (fun q => kf (by first | exact hc.mp q | exact fun z => q (hc.mpr z)) H locs rl hP hS hl)
theorem k_if_eq (hX : Xk E M X) {a : Int} {off : Int} {tgt : Nat} (hd : decode M.2.1 pc = .ok (.ifCond .eq off, 3)) (ht : (pc : Int) + off = (tgt : Int)) (ha : bd a) (kt : a = 0 → V E X tgt ls st g) (kf : ¬ a = 0 → V E X (pc + 3) ls st g) : V E X pc ls (vI a :: st) g := by
  obtain ⟨p, e, R, s, m, args, below, meth, c, cells, slots, Q, A0⟩ := X
  obtain ⟨hx, hb, hml, hown, hts, hcs, hAA, hfr, hlo, hce, hsl⟩ := id hX
  intro H locs rl hP hS hl
  have hb0 : bd 0 := by decide
  have hc := zi_eq ha hb0
  rw [zi_0] at hc
  exact lv_if_eq hx hb hd ht (fun q => kt (by first | exact hc.mp q | exact fun z => q (hc.mpr z)) H locs rl hP hS hl) (fun q => kf (by first | exact hc.mp q | exact fun z => q (hc.mpr z)) H locs rl hP hS hl)
theorem k_icmp_ne (hX : Xk E M X) {a b : Int} {off : Int} {tgt : Nat} (hd : decode M.2.1 pc = .ok (.if_icmp .ne off, 3)) (ht : (pc : Int) + off = (tgt : Int)) (ha : bd a) (hb0 : bd b) (kt : ¬ a = b → V E X tgt ls st g) (kf : a = b → V E X (pc + 3) ls st g) : V E X pc ls (vI b :: vI a :: st) g := by
  obtain ⟨p, e, R, s, m, args, below, meth, c, cells, slots, Q, A0⟩ := X
  obtain ⟨hx, hb, hml, hown, hts, hcs, hAA, hfr, hlo, hce, hsl⟩ := id hX
  intro H locs rl hP hS hl
  have hc := zi_eq ha hb0
  exact lv_icmp_ne hx hb hd ht (fun q => kt (by first | exact hc.mp q | exact fun z => q (hc.mpr z)) H locs rl hP hS hl) (fun q => kf (by first | exact hc.mp q | exact fun z => q (hc.mpr z)) H locs rl hP hS hl)
theorem k_if_ne (hX : Xk E M X) {a : Int} {off : Int} {tgt : Nat} (hd : decode M.2.1 pc = .ok (.ifCond .ne off, 3)) (ht : (pc : Int) + off = (tgt : Int)) (ha : bd a) (kt : ¬ a = 0 → V E X tgt ls st g) (kf : a = 0 → V E X (pc + 3) ls st g) : V E X pc ls (vI a :: st) g := by
  obtain ⟨p, e, R, s, m, args, below, meth, c, cells, slots, Q, A0⟩ := X
  obtain ⟨hx, hb, hml, hown, hts, hcs, hAA, hfr, hlo, hce, hsl⟩ := id hX
  intro H locs rl hP hS hl
  have hb0 : bd 0 := by decide
  have hc := zi_eq ha hb0
  rw [zi_0] at hc
  exact lv_if_ne hx hb hd ht (fun q => kt (by first | exact hc.mp q | exact fun z => q (hc.mpr z)) H locs rl hP hS hl) (fun q => kf (by first | exact hc.mp q | exact fun z => q (hc.mpr z)) H locs rl hP hS hl)
theorem k_icmp_lt (hX : Xk E M X) {a b : Int} {off : Int} {tgt : Nat} (hd : decode M.2.1 pc = .ok (.if_icmp .lt off, 3)) (ht : (pc : Int) + off = (tgt : Int)) (ha : bd a) (hb0 : bd b) (kt : a < b → V E X tgt ls st g) (kf : ¬ a < b → V E X (pc + 3) ls st g) : V E X pc ls (vI b :: vI a :: st) g := by
  obtain ⟨p, e, R, s, m, args, below, meth, c, cells, slots, Q, A0⟩ := X
  obtain ⟨hx, hb, hml, hown, hts, hcs, hAA, hfr, hlo, hce, hsl⟩ := id hX
  intro H locs rl hP hS hl
  have hc := zi_lt ha hb0
  exact lv_icmp_lt hx hb hd ht (fun q => kt (by first | exact hc.mp q | exact fun z => q (hc.mpr z)) H locs rl hP hS hl) (fun q => kf (by first | exact hc.mp q | exact fun z => q (hc.mpr z)) H locs rl hP hS hl)
theorem k_if_lt (hX : Xk E M X) {a : Int} {off : Int} {tgt : Nat} (hd : decode M.2.1 pc = .ok (.ifCond .lt off, 3)) (ht : (pc : Int) + off = (tgt : Int)) (ha : bd a) (kt : a < 0 → V E X tgt ls st g) (kf : ¬ a < 0 → V E X (pc + 3) ls st g) : V E X pc ls (vI a :: st) g := by
  obtain ⟨p, e, R, s, m, args, below, meth, c, cells, slots, Q, A0⟩ := X
  obtain ⟨hx, hb, hml, hown, hts, hcs, hAA, hfr, hlo, hce, hsl⟩ := id hX
  intro H locs rl hP hS hl
  have hb0 : bd 0 := by decide
  have hc := zi_lt ha hb0
  rw [zi_0] at hc
  exact lv_if_lt hx hb hd ht (fun q => kt (by first | exact hc.mp q | exact fun z => q (hc.mpr z)) H locs rl hP hS hl) (fun q => kf (by first | exact hc.mp q | exact fun z => q (hc.mpr z)) H locs rl hP hS hl)
theorem k_icmp_ge (hX : Xk E M X) {a b : Int} {off : Int} {tgt : Nat} (hd : decode M.2.1 pc = .ok (.if_icmp .ge off, 3)) (ht : (pc : Int) + off = (tgt : Int)) (ha : bd a) (hb0 : bd b) (kt : b ≤ a → V E X tgt ls st g) (kf : ¬ b ≤ a → V E X (pc + 3) ls st g) : V E X pc ls (vI b :: vI a :: st) g := by
  obtain ⟨p, e, R, s, m, args, below, meth, c, cells, slots, Q, A0⟩ := X
  obtain ⟨hx, hb, hml, hown, hts, hcs, hAA, hfr, hlo, hce, hsl⟩ := id hX
  intro H locs rl hP hS hl
  have hc := zi_le hb0 ha
  exact lv_icmp_ge hx hb hd ht (fun q => kt (by first | exact hc.mp q | exact fun z => q (hc.mpr z)) H locs rl hP hS hl) (fun q => kf (by first | exact hc.mp q | exact fun z => q (hc.mpr z)) H locs rl hP hS hl)
theorem k_if_ge (hX : Xk E M X) {a : Int} {off : Int} {tgt : Nat} (hd : decode M.2.1 pc = .ok (.ifCond .ge off, 3)) (ht : (pc : Int) + off = (tgt : Int)) (ha : bd a) (kt : 0 ≤ a → V E X tgt ls st g) (kf : ¬ 0 ≤ a → V E X (pc + 3) ls st g) : V E X pc ls (vI a :: st) g := by
  obtain ⟨p, e, R, s, m, args, below, meth, c, cells, slots, Q, A0⟩ := X
  obtain ⟨hx, hb, hml, hown, hts, hcs, hAA, hfr, hlo, hce, hsl⟩ := id hX
  intro H locs rl hP hS hl
  have hb0 : bd 0 := by decide
  have hc := zi_le hb0 ha
  rw [zi_0] at hc
  exact lv_if_ge hx hb hd ht (fun q => kt (by first | exact hc.mp q | exact fun z => q (hc.mpr z)) H locs rl hP hS hl) (fun q => kf (by first | exact hc.mp q | exact fun z => q (hc.mpr z)) H locs rl hP hS hl)
theorem k_icmp_gt (hX : Xk E M X) {a b : Int} {off : Int} {tgt : Nat} (hd : decode M.2.1 pc = .ok (.if_icmp .gt off, 3)) (ht : (pc : Int) + off = (tgt : Int)) (ha : bd a) (hb0 : bd b) (kt : b < a → V E X tgt ls st g) (kf : ¬ b < a → V E X (pc + 3) ls st g) : V E X pc ls (vI b :: vI a :: st) g := by
  obtain ⟨p, e, R, s, m, args, below, meth, c, cells, slots, Q, A0⟩ := X
  obtain ⟨hx, hb, hml, hown, hts, hcs, hAA, hfr, hlo, hce, hsl⟩ := id hX
  intro H locs rl hP hS hl
  have hc := zi_lt hb0 ha
  exact lv_icmp_gt hx hb hd ht (fun q => kt (by first | exact hc.mp q | exact fun z => q (hc.mpr z)) H locs rl hP hS hl) (fun q => kf (by first | exact hc.mp q | exact fun z => q (hc.mpr z)) H locs rl hP hS hl)
theorem k_if_gt (hX : Xk E M X) {a : Int} {off : Int} {tgt : Nat} (hd : decode M.2.1 pc = .ok (.ifCond .gt off, 3)) (ht : (pc : Int) + off = (tgt : Int)) (ha : bd a) (kt : 0 < a → V E X tgt ls st g) (kf : ¬ 0 < a → V E X (pc + 3) ls st g) : V E X pc ls (vI a :: st) g := by
  obtain ⟨p, e, R, s, m, args, below, meth, c, cells, slots, Q, A0⟩ := X
  obtain ⟨hx, hb, hml, hown, hts, hcs, hAA, hfr, hlo, hce, hsl⟩ := id hX
  intro H locs rl hP hS hl
  have hb0 : bd 0 := by decide
  have hc := zi_lt hb0 ha
  rw [zi_0] at hc
  exact lv_if_gt hx hb hd ht (fun q => kt (by first | exact hc.mp q | exact fun z => q (hc.mpr z)) H locs rl hP hS hl) (fun q => kf (by first | exact hc.mp q | exact fun z => q (hc.mpr z)) H locs rl hP hS hl)
theorem k_icmp_le (hX : Xk E M X) {a b : Int} {off : Int} {tgt : Nat} (hd : decode M.2.1 pc = .ok (.if_icmp .le off, 3)) (ht : (pc : Int) + off = (tgt : Int)) (ha : bd a) (hb0 : bd b) (kt : a ≤ b → V E X tgt ls st g) (kf : ¬ a ≤ b → V E X (pc + 3) ls st g) : V E X pc ls (vI b :: vI a :: st) g := by
  obtain ⟨p, e, R, s, m, args, below, meth, c, cells, slots, Q, A0⟩ := X
  obtain ⟨hx, hb, hml, hown, hts, hcs, hAA, hfr, hlo, hce, hsl⟩ := id hX
  intro H locs rl hP hS hl
  have hc := zi_le ha hb0
  exact lv_icmp_le hx hb hd ht (fun q => kt (by first | exact hc.mp q | exact fun z => q (hc.mpr z)) H locs rl hP hS hl) (fun q => kf (by first | exact hc.mp q | exact fun z => q (hc.mpr z)) H locs rl hP hS hl)
theorem k_if_le (hX : Xk E M X) {a : Int} {off : Int} {tgt : Nat} (hd : decode M.2.1 pc = .ok (.ifCond .le off, 3)) (ht : (pc : Int) + off = (tgt : Int)) (ha : bd a) (kt : a ≤ 0 → V E X tgt ls st g) (kf : ¬ a ≤ 0 → V E X (pc + 3) ls st g) : V E X pc ls (vI a :: st) g := by
  obtain ⟨p, e, R, s, m, args, below, meth, c, cells, slots, Q, A0⟩ := X
  obtain ⟨hx, hb, hml, hown, hts, hcs, hAA, hfr, hlo, hce, hsl⟩ := id hX
  intro H locs rl hP hS hl
  have hb0 : bd 0 := by decide
  have hc := zi_le ha hb0
  rw [zi_0] at hc
  exact lv_if_le hx hb hd ht (fun q => kt (by first | exact hc.mp q | exact fun z => q (hc.mpr z)) H locs rl hP hS hl) (fun q => kf (by first | exact hc.mp q | exact fun z => q (hc.mpr z)) H locs rl hP hS hl)
theorem k_goto (hX : Xk E M X) {off : Int} {tgt : Nat} (hd : decode M.2.1 pc = .ok (.goto off, 3)) (ht : (pc : Int) + off = (tgt : Int)) (k : V E X tgt ls st g) : V E X pc ls st g := by
  obtain ⟨p, e, R, s, m, args, below, meth, c, cells, slots, Q, A0⟩ := X
  obtain ⟨hx, hb, hml, hown, hts, hcs, hAA, hfr, hlo, hce, hsl⟩ := id hX
  intro H locs rl hP hS hl
  exact lv_goto hx hb hd ht (k H locs rl hP hS hl)
theorem k_tableIn (hX : Xk E M X) {dflt lo hi : Int} {offs : Array Int} {len : Nat} {a : Int} {off : Int} {tgt : Nat} (hd : decode M.2.1 pc = .ok (.tableswitch dflt lo hi offs, len)) (ha : bd a) (h1 : lo ≤ a) (h2 : a ≤ hi) (ho : offs[(a - lo).toNat]? = some off) (ht : (pc : Int) + off = (tgt : Int)) (k : V E X tgt ls st g) : V E X pc ls (vI a :: st) g := by
  obtain ⟨p, e, R, s, m, args, below, meth, c, cells, slots, Q, A0⟩ := X
  obtain ⟨hx, hb, hml, hown, hts, hcs, hAA, hfr, hlo, hce, hsl⟩ := id hX
  intro H locs rl hP hS hl
  exact lv_tableIn hx hb hd (by rw [zi_toInt ha]; omega) (by rw [zi_toInt ha]; omega) (by rw [zi_toInt ha]; exact ho) ht (k H locs rl hP hS hl)
theorem k_tableOut (hX : Xk E M X) {dflt lo hi : Int} {offs : Array Int} {len : Nat} {a : Int} {tgt : Nat} (hd : decode M.2.1 pc = .ok (.tableswitch dflt lo hi offs, len)) (ha : bd a) (h1 : a < lo ∨ hi < a) (ht : (pc : Int) + dflt = (tgt : Int)) (k : V E X tgt ls st g) : V E X pc ls (vI a :: st) g := by
  obtain ⟨p, e, R, s, m, args, below, meth, c, cells, slots, Q, A0⟩ := X
  obtain ⟨hx, hb, hml, hown, hts, hcs, hAA, hfr, hlo, hce, hsl⟩ := id hX
  intro H locs rl hP hS hl
  exact lv_tableOut hx hb hd (by rw [zi_toInt ha]; exact h1) ht (k H locs rl hP hS hl)
theorem k_lookup (hX : Xk E M X) {dflt : Int} {ps : Array (Int × Int)} {len : Nat} {a : Int} {off : Int} {tgt : Nat} (hd : decode M.2.1 pc = .ok (.lookupswitch dflt ps, len)) (ha : bd a) (hp : (ps.toList.zip (ps.toList.drop 1)).all (fun (a, next) => a.1 < next.1) = true) (ho : Op.lookupswitch.offset ps.toList dflt a = off) (ht : (pc : Int) + off = (tgt : Int)) (k : V E X tgt ls st g) : V E X pc ls (vI a :: st) g := by
  obtain ⟨p, e, R, s, m, args, below, meth, c, cells, slots, Q, A0⟩ := X
  obtain ⟨hx, hb, hml, hown, hts, hcs, hAA, hfr, hlo, hce, hsl⟩ := id hX
  intro H locs rl hP hS hl
  exact lv_lookup hx hb hd hp (by rw [zi_toInt ha]; exact ho) ht (k H locs rl hP hS hl)
end KR
