/-! ===== the environment at the entry ===== -/
section E4
variable {s : State} {b L : Nat} {xs : Nat → Int32}
theorem env_start (hts : ∀ w ∈ lw_tbl, w.before #[Value.ref b] s = true) (hgv : (Jvm.Cond.and given_1 narrow_1).before #[Value.ref b] s = true) (hX : va_X b L xs s s.heap) (hbl : b < s.heap.size) (hL : L ≤ 384) : ∃ ω : Om, EnvK ω s ∧ oZ ω = s.heap.size ∧ oL ω = L ∧ oX ω = xs ∧ oR ω 100300 = b ∧ ∀ k, k < 148 → oR ω k = s.heap.size + k := by
  obtain ⟨D, hD⟩ := kn_all hts
  obtain ⟨k0, a0, a1⟩ := ty_int hts
  obtain ⟨k1, b0, b1⟩ := ty_rows (ao_rows hts)
  obtain ⟨k2, c0, c1⟩ := ty_str (ao_str hts)
  obtain ⟨t0, z0, y0⟩ := ax_0 hts hgv
  obtain ⟨t1, z1, y1⟩ := ax_1 hts hgv
  obtain ⟨t2, z2, y2⟩ := ax_2 hts hgv
  obtain ⟨t3, z3, y3⟩ := ax_3 hts hgv
  obtain ⟨s0, v0, x0⟩ := sxw_0 hts hgv
  obtain ⟨s1, v1, x1⟩ := sxw_1 hts hgv
  obtain ⟨s2, v2, x2⟩ := sxw_2 hts hgv
  obtain ⟨s3, v3, x3⟩ := sxw_3 hts hgv
  obtain ⟨s4, v4, x4⟩ := sxw_4 hts hgv
  obtain ⟨s5, v5, x5⟩ := sxw_5 hts hgv
  obtain ⟨s6, v6, x6⟩ := sxw_6 hts hgv
  obtain ⟨s7, v7, x7⟩ := sxw_7 hts hgv
  obtain ⟨s8, v8, x8⟩ := sxw_8 hts hgv
  obtain ⟨F, u, hF, hFF⟩ : ∃ (F : Value) (u : Nat), (F = .null ∧ va_Z "jdk/internal/util/Preconditions" "SIOOBE_FORMATTER" "Ljava/util/function/BiFunction;" .null (fun z => s.heap.size ≤ z) s s.heap ∨ F = .ref 100301 ∧ va_Z "jdk/internal/util/Preconditions" "SIOOBE_FORMATTER" "Ljava/util/function/BiFunction;" (.ref u) (fun z => s.heap.size ≤ z) s s.heap) ∧ True := by
    rcases fm_any hts hgv with h | ⟨t, h⟩
    · exact ⟨.null, 0, Or.inl ⟨rfl, h⟩, trivial⟩
    · exact ⟨.ref 100301, t, Or.inr ⟨rfl, h⟩, trivial⟩
  refine ⟨(D, fun k => if k = 0 then k0 else if k = 1 then k1 else k2, fun k => if k < 148 then s.heap.size + k else if k = 100000 then t0 else if k = 100001 then t1 else if k = 100002 then t2 else if k = 100003 then t3 else if k = 100100 then s0 else if k = 100101 then s1 else if k = 100102 then s2 else if k = 100103 then s3 else if k = 100104 then s4 else if k = 100105 then s5 else if k = 100106 then s6 else if k = 100107 then s7 else if k = 100108 then s8 else if k = 100200 then v0 else if k = 100201 then v1 else if k = 100202 then v2 else if k = 100203 then v3 else if k = 100204 then v4 else if k = 100205 then v5 else if k = 100206 then v6 else if k = 100207 then v7 else if k = 100208 then v8 else if k = 100300 then b else u, s.heap.size, L, xs, F), ⟨⟨hD, fun k q hq => ?_⟩, nst_all hts, ⟨ao_str hts, ao_rows hts⟩, ⟨fun j q hq => ?_, fun j q hq => ?_, cs_one hts hgv, ?_, ?_⟩, ?_⟩, rfl, rfl, rfl, rfl, fun k hk => if_pos hk⟩
  · match k, hq with
    | 0, hq => cases hq; exact ⟨a0, a1⟩
    | 1, hq => cases hq; exact ⟨b0, b1⟩
    | 2, hq => cases hq; exact ⟨c0, c1⟩
    | k + 3, hq => cases hq
  · match j, hq with
    | 0, hq => cases hq; exact ⟨z0, y0⟩
    | 1, hq => cases hq; exact ⟨z1, y1⟩
    | 2, hq => cases hq; exact ⟨z2, y2⟩
    | 3, hq => cases hq; exact ⟨z3, y3⟩
    | j + 4, hq => cases hq
  · match j, hq with
    | 0, hq => cases hq; exact x0
    | 1, hq => cases hq; exact x1
    | 2, hq => cases hq; exact x2
    | 3, hq => cases hq; exact x3
    | 4, hq => cases hq; exact x4
    | 5, hq => cases hq; exact x5
    | 6, hq => cases hq; exact x6
    | 7, hq => cases hq; exact x7
    | 8, hq => cases hq; exact x8
    | j + 9, hq => cases hq
  · rcases hF with ⟨rfl, h⟩ | ⟨rfl, h⟩ <;> exact h
  · obtain ⟨scr, h1, h2, h3, h4, h5⟩ := hX
    exact ⟨scr, h1, h2, h3, Nat.le_of_eq h4.symm, by rw [h4], h5, Nat.not_le.mpr hbl⟩
  · rcases hF with ⟨rfl, h⟩ | ⟨rfl, h⟩
    · exact Or.inl rfl
    · exact Or.inr rfl
end E4
