section
theorem zz_test : 1 + 1 = 2 := rfl
theorem zz_all : (tables_1.all (fun w => (w.onTables && w.keeps) || goodWord w)) = true := by decide +kernel
theorem zz_rfl (K : Nat → List Nat → Prop) (h : K 5 [1, 2]) : K 5 ([1, 3].set 1 2) := h
end
