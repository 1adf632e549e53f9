/-! ===== the classes at the entry ===== -/
section E2
variable {s : State} {b : Nat}
theorem kn_all (hts : ∀ w ∈ lw_tbl, w.before #[Value.ref b] s = true) : ∃ D : va_G, ∀ (c : Nat) (q : vw_C), vwCl[c]? = some q → u_Kn s q.1 q.2.1 q.2.2 (D.1 c) (D.2 c) := by
  obtain ⟨c0, i0, h0⟩ := u_known (C := RX0) (T := TX0) (N := 13) (n := 13) hts (fun w hw => (List.mem_filter.mp (inW_X0 w hw)).1) (hts (.instantiable RX0 13) (by decide +kernel))
  obtain ⟨c1, i1, h1⟩ := u_known (C := RX1) (T := TX1) (N := 6) (n := 6) hts (fun w hw => (List.mem_filter.mp (inW_X1 w hw)).1) (hts (.instantiable RX1 6) (by decide +kernel))
  obtain ⟨c2, i2, h2⟩ := u_known (C := RX3) (T := TX3) (N := 6) (n := 6) hts (fun w hw => (List.mem_filter.mp (inW_X3 w hw)).1) (hts (.instantiable RX3 6) (by decide +kernel))
  obtain ⟨c3, i3, h3⟩ := u_known (C := RX4) (T := TX4) (N := 6) (n := 6) hts (fun w hw => (List.mem_filter.mp (inW_X4 w hw)).1) (hts (.instantiable RX4 6) (by decide +kernel))
  obtain ⟨c4, i4, h4⟩ := u_known (C := RX5) (T := TX5) (N := 2) (n := 2) hts (fun w hw => (List.mem_filter.mp (inW_X5 w hw)).1) (hts (.instantiable RX5 2) (by decide +kernel))
  obtain ⟨c5, i5, h5⟩ := u_known (C := RX6) (T := TX6) (N := 3) (n := 3) hts (fun w hw => (List.mem_filter.mp (inW_X6 w hw)).1) (hts (.instantiable RX6 3) (by decide +kernel))
  obtain ⟨c6, i6, h6⟩ := u_known (C := RX7) (T := TX7) (N := 8) (n := 8) hts (fun w hw => (List.mem_filter.mp (inW_X7 w hw)).1) (hts (.instantiable RX7 8) (by decide +kernel))
  obtain ⟨c7, i7, h7⟩ := u_known (C := RX8) (T := TX8) (N := 4) (n := 4) hts (fun w hw => (List.mem_filter.mp (inW_X8 w hw)).1) (hts (.instantiable RX8 4) (by decide +kernel))
  obtain ⟨c8, i8, h8⟩ := u_known (C := RX9) (T := TX9) (N := 3) (n := 3) hts (fun w hw => (List.mem_filter.mp (inW_X9 w hw)).1) (hts (.instantiable RX9 3) (by decide +kernel))
  obtain ⟨c9, i9, h9⟩ := u_known (C := RX10) (T := TX10) (N := 13) (n := 13) hts (fun w hw => (List.mem_filter.mp (inW_X10 w hw)).1) (hts (.instantiable RX10 13) (by decide +kernel))
  obtain ⟨c10, i10, h10⟩ := u_known (C := RX11) (T := TX11) (N := 8) (n := 8) hts (fun w hw => (List.mem_filter.mp (inW_X11 w hw)).1) (hts (.instantiable RX11 8) (by decide +kernel))
  obtain ⟨c11, i11, h11⟩ := u_known (C := RX12) (T := TX12) (N := 24) (n := 24) hts (fun w hw => (List.mem_filter.mp (inW_X12 w hw)).1) (hts (.instantiable RX12 24) (by decide +kernel))
  refine ⟨(fun k => [c0, c1, c2, c3, c4, c5, c6, c7, c8, c9, c10, c11].getD k 0, fun k => [i0, i1, i2, i3, i4, i5, i6, i7, i8, i9, i10, i11].getD k (fun _ => 0)), fun c q hq => ?_⟩
  match c, hq with
  | 0, hq => cases hq; exact h0
  | 1, hq => cases hq; exact h1
  | 2, hq => cases hq; exact h2
  | 3, hq => cases hq; exact h3
  | 4, hq => cases hq; exact h4
  | 5, hq => cases hq; exact h5
  | 6, hq => cases hq; exact h6
  | 7, hq => cases hq; exact h7
  | 8, hq => cases hq; exact h8
  | 9, hq => cases hq; exact h9
  | 10, hq => cases hq; exact h10
  | 11, hq => cases hq; exact h11
  | c + 12, hq => exact absurd hq (by rw [List.getElem?_eq_none (by show 12 ≤ c + 12; omega)]; exact fun z => by cases z)
theorem ty_int (hts : ∀ w ∈ lw_tbl, w.before #[Value.ref b] s = true) : ∃ cA : ClassId, ArrOfT s cA .int ∧ va_RA s cA .int := by
  obtain ⟨cA, kA, comp, h1, h2, h3⟩ := Cond.arrayClass_spec (hts _ (List.mem_filter.mp wInt).1)
  exact ⟨cA, fun n z => ⟨fun k h => (by cases h), kA, h2, comp, h3⟩, h1⟩
theorem ty_rows (h : aoI s) : ∃ cA : ClassId, ArrOfT s cA (.array .int) ∧ va_RA s cA (.array .int) := by
  obtain ⟨comp, cA, kA, -, -, h2, h3, h1⟩ := aoI_spec h
  exact ⟨cA, fun n z => ⟨fun k h => (by cases h), kA, h2, comp, h3⟩, h1⟩
theorem ao_rows (hts : ∀ w ∈ lw_tbl, w.before #[Value.ref b] s = true) : aoI s := hts (.arrayOver (.array .int)) (by decide +kernel)
theorem ao_str (hts : ∀ w ∈ lw_tbl, w.before #[Value.ref b] s = true) : va_AO "java/lang/String" s := va_AO.of (hts (.arrayOver (.object "java/lang/String")) (by decide +kernel))
theorem nst_all (hts : ∀ w ∈ lw_tbl, w.before #[Value.ref b] s = true) : ∀ q ∈ nestL, va_Nw (.methodLinkNest q.1 q.2.1 q.2.2 "TowField") s := fun q hq => va_Nw.of rfl (hts _ ((show ∀ q ∈ nestL, Cond.methodLinkNest q.1 q.2.1 q.2.2 "TowField" ∈ lw_tbl by decide +kernel) q hq))
end E2
