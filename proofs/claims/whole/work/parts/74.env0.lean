/-! ===== what lies outside, at the law's entry ===== -/
section E0
variable {args : Array Value} {s : State} {A : Nat → Prop}
theorem st_arr {C n : String} {xs : List Int32} (hN : xs.length < 2 ^ 31) (hA : ∀ a : Nat, a < s.heap.size → ¬ A a) (hl : (Cond.laysStatic C n "[I").before args s = true) (hini : (Cond.initialized C).before args s = true) (harr : (Cond.arrayOf (.static C n "[I") .int).before args s = true) (hlen : (Cond.eq (.length (.static C n "[I")) (.int (Int32.ofNat xs.length))).before args s = true) (hel : ∀ j, j < xs.length → (Cond.eq (.elem (.static C n "[I") (.int (Int32.ofNat j))) (.int (xs.getD j 0))).before args s = true) : ∃ t : Nat, va_Z C n "[I" (.ref t) A s s.heap ∧ va_T .int t xs.length (fun i => .int (xs.getD i 0)) A s s.heap := by
  obtain ⟨t, ht, hT⟩ := va_Tof (f := fun i => .int (xs.getD i 0)) (A := A) hN harr (va_eqt hlen) (fun j hj => va_eqt (hel j hj)) hA
  exact ⟨t, va_Zref hl hini ht hA, hT⟩
theorem sx_arr {tm : Term} {xs : List Int32} (hN : xs.length < 2 ^ 31) (hA : ∀ a : Nat, a < s.heap.size → ¬ A a) (harr : (Cond.arrayOf tm .byte).before args s = true) (hlen : (Cond.eq (.length tm) (.int (Int32.ofNat xs.length))).before args s = true) (hel : ∀ j, j < xs.length → (Cond.eq (.elem tm (.int (Int32.ofNat j))) (.int (xs.getD j 0))).before args s = true) : ∃ t : Nat, tm.eval args s none [] s = some (.ref t) ∧ va_T .byte t xs.length (fun i => .int (xs.getD i 0)) A s s.heap :=
  va_Tof (f := fun i => .int (xs.getD i 0)) (A := A) hN harr (va_eqt hlen) (fun j hj => va_eqt (hel j hj)) hA
theorem sx_of {own tx : String} {k : Nat} {xs : List Int32} (hN : xs.length < 2 ^ 31) (hA : ∀ a : Nat, a < s.heap.size → ¬ A a) (hr : (Cond.stringRef own k tx).before args s = true) (hex : (Cond.exactly (.string own k) "java/lang/String").before args s = true) (hco : (Cond.eq (.field (.string own k) "java/lang/String" "coder" "B") (.int 0)).before args s = true) (harr : (Cond.arrayOf (.field (.string own k) "java/lang/String" "value" "[B") .byte).before args s = true) (hlen : (Cond.eq (.length (.field (.string own k) "java/lang/String" "value" "[B")) (.int (Int32.ofNat xs.length))).before args s = true) (hel : ∀ j, j < xs.length → (Cond.eq (.elem (.field (.string own k) "java/lang/String" "value" "[B") (.int (Int32.ofNat j))) (.int (xs.getD j 0))).before args s = true) :
    ∃ a v : Nat, vk_R own k tx a s ∧ va_O "java/lang/String" a A s s.heap ∧ va_OF "java/lang/String" "coder" "B" (.int 0) a A s s.heap ∧ va_OF "java/lang/String" "value" "[B" (.ref v) a A s s.heap ∧ va_T .byte v xs.length (fun i => .int (xs.getD i 0)) A s s.heap := by
  obtain ⟨a, c, cA, kA, q1, -⟩ := Cond.exactly_spec (args := args) (first := s) (o := none) (s := s) (idx := []) (t := .string own k) (cls := "java/lang/String") hex
  obtain ⟨v, hv, hT⟩ := sx_arr hN hA harr hlen hel
  exact ⟨a, v, vk_R.of hr q1, va_Oof hex q1 hA, vk_OFof q1 (va_eqt hco) hA, vk_OFof q1 hv hA, hT⟩
end E0
section E1
variable {s : State} {b : Nat}
theorem ax_0 (hts : ∀ w ∈ lw_tbl, w.before #[Value.ref b] s = true) (hgv : (Jvm.Cond.and given_1 narrow_1).before #[Value.ref b] s = true) : ∃ t : Nat, va_Z "TowField$Kinds" "ABOVE" "[I" (.ref t) (fun z => s.heap.size ≤ z) s s.heap ∧ va_T .int t 6 (fun i => .int (List.getD ([-1, 0, 0, 1, 2, 2] : List Int32) i 0)) (fun z => s.heap.size ≤ z) s s.heap :=
  st_arr (xs := [-1, 0, 0, 1, 2, 2]) (by decide) (fun a h => Nat.not_le.mpr h) (hts _ (by decide +kernel)) (hts _ (by decide +kernel)) (flat_of_before _ hgv _ (by decide +kernel)) (flat_of_before _ hgv _ (by decide +kernel)) (fun j hj => by
    rcases (show j = 0 ∨ j = 1 ∨ j = 2 ∨ j = 3 ∨ j = 4 ∨ j = 5 by simp only [List.length_cons, List.length_nil] at hj; omega) with rfl | rfl | rfl | rfl | rfl | rfl
    · exact flat_of_before _ hgv _ (by decide +kernel)
    · exact flat_of_before _ hgv _ (by decide +kernel)
    · exact flat_of_before _ hgv _ (by decide +kernel)
    · exact flat_of_before _ hgv _ (by decide +kernel)
    · exact flat_of_before _ hgv _ (by decide +kernel)
    · exact flat_of_before _ hgv _ (by decide +kernel))
theorem ax_1 (hts : ∀ w ∈ lw_tbl, w.before #[Value.ref b] s = true) (hgv : (Jvm.Cond.and given_1 narrow_1).before #[Value.ref b] s = true) : ∃ t : Nat, va_Z "TowField$World" "RULE_FIRST" "[I" (.ref t) (fun z => s.heap.size ≤ z) s s.heap ∧ va_T .int t 4 (fun i => .int (List.getD ([4, 0, 10, 2] : List Int32) i 0)) (fun z => s.heap.size ≤ z) s s.heap :=
  st_arr (xs := [4, 0, 10, 2]) (by decide) (fun a h => Nat.not_le.mpr h) (hts _ (by decide +kernel)) (hts _ (by decide +kernel)) (flat_of_before _ hgv _ (by decide +kernel)) (flat_of_before _ hgv _ (by decide +kernel)) (fun j hj => by
    rcases (show j = 0 ∨ j = 1 ∨ j = 2 ∨ j = 3 by simp only [List.length_cons, List.length_nil] at hj; omega) with rfl | rfl | rfl | rfl
    · exact flat_of_before _ hgv _ (by decide +kernel)
    · exact flat_of_before _ hgv _ (by decide +kernel)
    · exact flat_of_before _ hgv _ (by decide +kernel)
    · exact flat_of_before _ hgv _ (by decide +kernel))
theorem ax_2 (hts : ∀ w ∈ lw_tbl, w.before #[Value.ref b] s = true) (hgv : (Jvm.Cond.and given_1 narrow_1).before #[Value.ref b] s = true) : ∃ t : Nat, va_Z "TowField$World" "RULE_LEAST" "[I" (.ref t) (fun z => s.heap.size ≤ z) s s.heap ∧ va_T .int t 4 (fun i => .int (List.getD ([1, 0, 1, 0] : List Int32) i 0)) (fun z => s.heap.size ≤ z) s s.heap :=
  st_arr (xs := [1, 0, 1, 0]) (by decide) (fun a h => Nat.not_le.mpr h) (hts _ (by decide +kernel)) (hts _ (by decide +kernel)) (flat_of_before _ hgv _ (by decide +kernel)) (flat_of_before _ hgv _ (by decide +kernel)) (fun j hj => by
    rcases (show j = 0 ∨ j = 1 ∨ j = 2 ∨ j = 3 by simp only [List.length_cons, List.length_nil] at hj; omega) with rfl | rfl | rfl | rfl
    · exact flat_of_before _ hgv _ (by decide +kernel)
    · exact flat_of_before _ hgv _ (by decide +kernel)
    · exact flat_of_before _ hgv _ (by decide +kernel)
    · exact flat_of_before _ hgv _ (by decide +kernel))
theorem ax_3 (hts : ∀ w ∈ lw_tbl, w.before #[Value.ref b] s = true) (hgv : (Jvm.Cond.and given_1 narrow_1).before #[Value.ref b] s = true) : ∃ t : Nat, va_Z "TowField$World" "RULE_MOST" "[I" (.ref t) (fun z => s.heap.size ≤ z) s s.heap ∧ va_T .int t 4 (fun i => .int (List.getD ([20, 900, 60, 20] : List Int32) i 0)) (fun z => s.heap.size ≤ z) s s.heap :=
  st_arr (xs := [20, 900, 60, 20]) (by decide) (fun a h => Nat.not_le.mpr h) (hts _ (by decide +kernel)) (hts _ (by decide +kernel)) (flat_of_before _ hgv _ (by decide +kernel)) (flat_of_before _ hgv _ (by decide +kernel)) (fun j hj => by
    rcases (show j = 0 ∨ j = 1 ∨ j = 2 ∨ j = 3 by simp only [List.length_cons, List.length_nil] at hj; omega) with rfl | rfl | rfl | rfl
    · exact flat_of_before _ hgv _ (by decide +kernel)
    · exact flat_of_before _ hgv _ (by decide +kernel)
    · exact flat_of_before _ hgv _ (by decide +kernel)
    · exact flat_of_before _ hgv _ (by decide +kernel))
theorem sxw_0 (hts : ∀ w ∈ lw_tbl, w.before #[Value.ref b] s = true) (hgv : (Jvm.Cond.and given_1 narrow_1).before #[Value.ref b] s = true) : ∃ a v : Nat, vk_R "TowField$Tape" 93 "height" a s ∧ va_O "java/lang/String" a (fun z => s.heap.size ≤ z) s s.heap ∧ va_OF "java/lang/String" "coder" "B" (.int 0) a (fun z => s.heap.size ≤ z) s s.heap ∧ va_OF "java/lang/String" "value" "[B" (.ref v) a (fun z => s.heap.size ≤ z) s s.heap ∧ va_T .byte v 6 (fun i => .int (List.getD ([104, 101, 105, 103, 104, 116] : List Int32) i 0)) (fun z => s.heap.size ≤ z) s s.heap :=
  sx_of (xs := [104, 101, 105, 103, 104, 116]) (by decide) (fun a h => Nat.not_le.mpr h) (hts _ (by decide +kernel)) (flat_of_before _ hgv _ (by decide +kernel)) (flat_of_before _ hgv _ (by decide +kernel)) (flat_of_before _ hgv _ (by decide +kernel)) (flat_of_before _ hgv _ (by decide +kernel)) (fun j hj => by
    rcases (show j = 0 ∨ j = 1 ∨ j = 2 ∨ j = 3 ∨ j = 4 ∨ j = 5 by simp only [List.length_cons, List.length_nil] at hj; omega) with rfl | rfl | rfl | rfl | rfl | rfl
    · exact flat_of_before _ hgv _ (by decide +kernel)
    · exact flat_of_before _ hgv _ (by decide +kernel)
    · exact flat_of_before _ hgv _ (by decide +kernel)
    · exact flat_of_before _ hgv _ (by decide +kernel)
    · exact flat_of_before _ hgv _ (by decide +kernel)
    · exact flat_of_before _ hgv _ (by decide +kernel))
theorem sxw_1 (hts : ∀ w ∈ lw_tbl, w.before #[Value.ref b] s = true) (hgv : (Jvm.Cond.and given_1 narrow_1).before #[Value.ref b] s = true) : ∃ a v : Nat, vk_R "TowField$Tape" 99 "minutes" a s ∧ va_O "java/lang/String" a (fun z => s.heap.size ≤ z) s s.heap ∧ va_OF "java/lang/String" "coder" "B" (.int 0) a (fun z => s.heap.size ≤ z) s s.heap ∧ va_OF "java/lang/String" "value" "[B" (.ref v) a (fun z => s.heap.size ≤ z) s s.heap ∧ va_T .byte v 7 (fun i => .int (List.getD ([109, 105, 110, 117, 116, 101, 115] : List Int32) i 0)) (fun z => s.heap.size ≤ z) s s.heap :=
  sx_of (xs := [109, 105, 110, 117, 116, 101, 115]) (by decide) (fun a h => Nat.not_le.mpr h) (hts _ (by decide +kernel)) (flat_of_before _ hgv _ (by decide +kernel)) (flat_of_before _ hgv _ (by decide +kernel)) (flat_of_before _ hgv _ (by decide +kernel)) (flat_of_before _ hgv _ (by decide +kernel)) (fun j hj => by
    rcases (show j = 0 ∨ j = 1 ∨ j = 2 ∨ j = 3 ∨ j = 4 ∨ j = 5 ∨ j = 6 by simp only [List.length_cons, List.length_nil] at hj; omega) with rfl | rfl | rfl | rfl | rfl | rfl | rfl
    · exact flat_of_before _ hgv _ (by decide +kernel)
    · exact flat_of_before _ hgv _ (by decide +kernel)
    · exact flat_of_before _ hgv _ (by decide +kernel)
    · exact flat_of_before _ hgv _ (by decide +kernel)
    · exact flat_of_before _ hgv _ (by decide +kernel)
    · exact flat_of_before _ hgv _ (by decide +kernel)
    · exact flat_of_before _ hgv _ (by decide +kernel))
theorem sxw_2 (hts : ∀ w ∈ lw_tbl, w.before #[Value.ref b] s = true) (hgv : (Jvm.Cond.and given_1 narrow_1).before #[Value.ref b] s = true) : ∃ a v : Nat, vk_R "TowField$Tape" 101 "kind" a s ∧ va_O "java/lang/String" a (fun z => s.heap.size ≤ z) s s.heap ∧ va_OF "java/lang/String" "coder" "B" (.int 0) a (fun z => s.heap.size ≤ z) s s.heap ∧ va_OF "java/lang/String" "value" "[B" (.ref v) a (fun z => s.heap.size ≤ z) s s.heap ∧ va_T .byte v 4 (fun i => .int (List.getD ([107, 105, 110, 100] : List Int32) i 0)) (fun z => s.heap.size ≤ z) s s.heap :=
  sx_of (xs := [107, 105, 110, 100]) (by decide) (fun a h => Nat.not_le.mpr h) (hts _ (by decide +kernel)) (flat_of_before _ hgv _ (by decide +kernel)) (flat_of_before _ hgv _ (by decide +kernel)) (flat_of_before _ hgv _ (by decide +kernel)) (flat_of_before _ hgv _ (by decide +kernel)) (fun j hj => by
    rcases (show j = 0 ∨ j = 1 ∨ j = 2 ∨ j = 3 by simp only [List.length_cons, List.length_nil] at hj; omega) with rfl | rfl | rfl | rfl
    · exact flat_of_before _ hgv _ (by decide +kernel)
    · exact flat_of_before _ hgv _ (by decide +kernel)
    · exact flat_of_before _ hgv _ (by decide +kernel)
    · exact flat_of_before _ hgv _ (by decide +kernel))
theorem sxw_3 (hts : ∀ w ∈ lw_tbl, w.before #[Value.ref b] s = true) (hgv : (Jvm.Cond.and given_1 narrow_1).before #[Value.ref b] s = true) : ∃ a v : Nat, vk_R "TowField$Tape" 103 "wind" a s ∧ va_O "java/lang/String" a (fun z => s.heap.size ≤ z) s s.heap ∧ va_OF "java/lang/String" "coder" "B" (.int 0) a (fun z => s.heap.size ≤ z) s s.heap ∧ va_OF "java/lang/String" "value" "[B" (.ref v) a (fun z => s.heap.size ≤ z) s s.heap ∧ va_T .byte v 4 (fun i => .int (List.getD ([119, 105, 110, 100] : List Int32) i 0)) (fun z => s.heap.size ≤ z) s s.heap :=
  sx_of (xs := [119, 105, 110, 100]) (by decide) (fun a h => Nat.not_le.mpr h) (hts _ (by decide +kernel)) (flat_of_before _ hgv _ (by decide +kernel)) (flat_of_before _ hgv _ (by decide +kernel)) (flat_of_before _ hgv _ (by decide +kernel)) (flat_of_before _ hgv _ (by decide +kernel)) (fun j hj => by
    rcases (show j = 0 ∨ j = 1 ∨ j = 2 ∨ j = 3 by simp only [List.length_cons, List.length_nil] at hj; omega) with rfl | rfl | rfl | rfl
    · exact flat_of_before _ hgv _ (by decide +kernel)
    · exact flat_of_before _ hgv _ (by decide +kernel)
    · exact flat_of_before _ hgv _ (by decide +kernel)
    · exact flat_of_before _ hgv _ (by decide +kernel))
theorem sxw_4 (hts : ∀ w ∈ lw_tbl, w.before #[Value.ref b] s = true) (hgv : (Jvm.Cond.and given_1 narrow_1).before #[Value.ref b] s = true) : ∃ a v : Nat, vk_R "TowField$Tape" 85 "|&!<=>+-*/()" a s ∧ va_O "java/lang/String" a (fun z => s.heap.size ≤ z) s s.heap ∧ va_OF "java/lang/String" "coder" "B" (.int 0) a (fun z => s.heap.size ≤ z) s s.heap ∧ va_OF "java/lang/String" "value" "[B" (.ref v) a (fun z => s.heap.size ≤ z) s s.heap ∧ va_T .byte v 12 (fun i => .int (List.getD ([124, 38, 33, 60, 61, 62, 43, 45, 42, 47, 40, 41] : List Int32) i 0)) (fun z => s.heap.size ≤ z) s s.heap :=
  sx_of (xs := [124, 38, 33, 60, 61, 62, 43, 45, 42, 47, 40, 41]) (by decide) (fun a h => Nat.not_le.mpr h) (hts _ (by decide +kernel)) (flat_of_before _ hgv _ (by decide +kernel)) (flat_of_before _ hgv _ (by decide +kernel)) (flat_of_before _ hgv _ (by decide +kernel)) (flat_of_before _ hgv _ (by decide +kernel)) (fun j hj => by
    rcases (show j = 0 ∨ j = 1 ∨ j = 2 ∨ j = 3 ∨ j = 4 ∨ j = 5 ∨ j = 6 ∨ j = 7 ∨ j = 8 ∨ j = 9 ∨ j = 10 ∨ j = 11 by simp only [List.length_cons, List.length_nil] at hj; omega) with rfl | rfl | rfl | rfl | rfl | rfl | rfl | rfl | rfl | rfl | rfl | rfl
    · exact flat_of_before _ hgv _ (by decide +kernel)
    · exact flat_of_before _ hgv _ (by decide +kernel)
    · exact flat_of_before _ hgv _ (by decide +kernel)
    · exact flat_of_before _ hgv _ (by decide +kernel)
    · exact flat_of_before _ hgv _ (by decide +kernel)
    · exact flat_of_before _ hgv _ (by decide +kernel)
    · exact flat_of_before _ hgv _ (by decide +kernel)
    · exact flat_of_before _ hgv _ (by decide +kernel)
    · exact flat_of_before _ hgv _ (by decide +kernel)
    · exact flat_of_before _ hgv _ (by decide +kernel)
    · exact flat_of_before _ hgv _ (by decide +kernel)
    · exact flat_of_before _ hgv _ (by decide +kernel))
theorem sxw_5 (hts : ∀ w ∈ lw_tbl, w.before #[Value.ref b] s = true) (hgv : (Jvm.Cond.and given_1 narrow_1).before #[Value.ref b] s = true) : ∃ a v : Nat, vk_R "TowFieldModel" 27 "height" a s ∧ va_O "java/lang/String" a (fun z => s.heap.size ≤ z) s s.heap ∧ va_OF "java/lang/String" "coder" "B" (.int 0) a (fun z => s.heap.size ≤ z) s s.heap ∧ va_OF "java/lang/String" "value" "[B" (.ref v) a (fun z => s.heap.size ≤ z) s s.heap ∧ va_T .byte v 6 (fun i => .int (List.getD ([104, 101, 105, 103, 104, 116] : List Int32) i 0)) (fun z => s.heap.size ≤ z) s s.heap :=
  sx_of (xs := [104, 101, 105, 103, 104, 116]) (by decide) (fun a h => Nat.not_le.mpr h) (hts _ (by decide +kernel)) (flat_of_before _ hgv _ (by decide +kernel)) (flat_of_before _ hgv _ (by decide +kernel)) (flat_of_before _ hgv _ (by decide +kernel)) (flat_of_before _ hgv _ (by decide +kernel)) (fun j hj => by
    rcases (show j = 0 ∨ j = 1 ∨ j = 2 ∨ j = 3 ∨ j = 4 ∨ j = 5 by simp only [List.length_cons, List.length_nil] at hj; omega) with rfl | rfl | rfl | rfl | rfl | rfl
    · exact flat_of_before _ hgv _ (by decide +kernel)
    · exact flat_of_before _ hgv _ (by decide +kernel)
    · exact flat_of_before _ hgv _ (by decide +kernel)
    · exact flat_of_before _ hgv _ (by decide +kernel)
    · exact flat_of_before _ hgv _ (by decide +kernel)
    · exact flat_of_before _ hgv _ (by decide +kernel))
theorem sxw_6 (hts : ∀ w ∈ lw_tbl, w.before #[Value.ref b] s = true) (hgv : (Jvm.Cond.and given_1 narrow_1).before #[Value.ref b] s = true) : ∃ a v : Nat, vk_R "TowFieldModel" 29 "minutes" a s ∧ va_O "java/lang/String" a (fun z => s.heap.size ≤ z) s s.heap ∧ va_OF "java/lang/String" "coder" "B" (.int 0) a (fun z => s.heap.size ≤ z) s s.heap ∧ va_OF "java/lang/String" "value" "[B" (.ref v) a (fun z => s.heap.size ≤ z) s s.heap ∧ va_T .byte v 7 (fun i => .int (List.getD ([109, 105, 110, 117, 116, 101, 115] : List Int32) i 0)) (fun z => s.heap.size ≤ z) s s.heap :=
  sx_of (xs := [109, 105, 110, 117, 116, 101, 115]) (by decide) (fun a h => Nat.not_le.mpr h) (hts _ (by decide +kernel)) (flat_of_before _ hgv _ (by decide +kernel)) (flat_of_before _ hgv _ (by decide +kernel)) (flat_of_before _ hgv _ (by decide +kernel)) (flat_of_before _ hgv _ (by decide +kernel)) (fun j hj => by
    rcases (show j = 0 ∨ j = 1 ∨ j = 2 ∨ j = 3 ∨ j = 4 ∨ j = 5 ∨ j = 6 by simp only [List.length_cons, List.length_nil] at hj; omega) with rfl | rfl | rfl | rfl | rfl | rfl | rfl
    · exact flat_of_before _ hgv _ (by decide +kernel)
    · exact flat_of_before _ hgv _ (by decide +kernel)
    · exact flat_of_before _ hgv _ (by decide +kernel)
    · exact flat_of_before _ hgv _ (by decide +kernel)
    · exact flat_of_before _ hgv _ (by decide +kernel)
    · exact flat_of_before _ hgv _ (by decide +kernel)
    · exact flat_of_before _ hgv _ (by decide +kernel))
theorem sxw_7 (hts : ∀ w ∈ lw_tbl, w.before #[Value.ref b] s = true) (hgv : (Jvm.Cond.and given_1 narrow_1).before #[Value.ref b] s = true) : ∃ a v : Nat, vk_R "TowFieldModel" 31 "kind" a s ∧ va_O "java/lang/String" a (fun z => s.heap.size ≤ z) s s.heap ∧ va_OF "java/lang/String" "coder" "B" (.int 0) a (fun z => s.heap.size ≤ z) s s.heap ∧ va_OF "java/lang/String" "value" "[B" (.ref v) a (fun z => s.heap.size ≤ z) s s.heap ∧ va_T .byte v 4 (fun i => .int (List.getD ([107, 105, 110, 100] : List Int32) i 0)) (fun z => s.heap.size ≤ z) s s.heap :=
  sx_of (xs := [107, 105, 110, 100]) (by decide) (fun a h => Nat.not_le.mpr h) (hts _ (by decide +kernel)) (flat_of_before _ hgv _ (by decide +kernel)) (flat_of_before _ hgv _ (by decide +kernel)) (flat_of_before _ hgv _ (by decide +kernel)) (flat_of_before _ hgv _ (by decide +kernel)) (fun j hj => by
    rcases (show j = 0 ∨ j = 1 ∨ j = 2 ∨ j = 3 by simp only [List.length_cons, List.length_nil] at hj; omega) with rfl | rfl | rfl | rfl
    · exact flat_of_before _ hgv _ (by decide +kernel)
    · exact flat_of_before _ hgv _ (by decide +kernel)
    · exact flat_of_before _ hgv _ (by decide +kernel)
    · exact flat_of_before _ hgv _ (by decide +kernel))
theorem sxw_8 (hts : ∀ w ∈ lw_tbl, w.before #[Value.ref b] s = true) (hgv : (Jvm.Cond.and given_1 narrow_1).before #[Value.ref b] s = true) : ∃ a v : Nat, vk_R "TowFieldModel" 33 "wind" a s ∧ va_O "java/lang/String" a (fun z => s.heap.size ≤ z) s s.heap ∧ va_OF "java/lang/String" "coder" "B" (.int 0) a (fun z => s.heap.size ≤ z) s s.heap ∧ va_OF "java/lang/String" "value" "[B" (.ref v) a (fun z => s.heap.size ≤ z) s s.heap ∧ va_T .byte v 4 (fun i => .int (List.getD ([119, 105, 110, 100] : List Int32) i 0)) (fun z => s.heap.size ≤ z) s s.heap :=
  sx_of (xs := [119, 105, 110, 100]) (by decide) (fun a h => Nat.not_le.mpr h) (hts _ (by decide +kernel)) (flat_of_before _ hgv _ (by decide +kernel)) (flat_of_before _ hgv _ (by decide +kernel)) (flat_of_before _ hgv _ (by decide +kernel)) (flat_of_before _ hgv _ (by decide +kernel)) (fun j hj => by
    rcases (show j = 0 ∨ j = 1 ∨ j = 2 ∨ j = 3 by simp only [List.length_cons, List.length_nil] at hj; omega) with rfl | rfl | rfl | rfl
    · exact flat_of_before _ hgv _ (by decide +kernel)
    · exact flat_of_before _ hgv _ (by decide +kernel)
    · exact flat_of_before _ hgv _ (by decide +kernel)
    · exact flat_of_before _ hgv _ (by decide +kernel))
end E1
