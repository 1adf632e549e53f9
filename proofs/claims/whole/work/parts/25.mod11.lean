/-! ===== the model: a minute goes ===== -/
theorem lands_lt {ν : Nu} {a : Nat} (h : landsS ν = some a) : a < cnt ν 7 := by
  unfold landsS at h
  cases hb : bestD ν (cnt ν 7) with
  | none => rw [hb] at h; cases h
  | some b =>
    rw [hb] at h
    dsimp only at h
    split at h
    · cases h; exact bestD_lt hb
    · cases h
theorem fetch_lt {ν : Nu} {w : Nat} (h : fetchS ν = some w) : w < cnt ν 5 := by
  unfold fetchS at h
  cases hb : drumW ν with
  | none => rw [hb] at h; cases h
  | some b =>
    rw [hb] at h
    dsimp only at h
    split at h
    · cases h; exact fstL_lt hb
    · cases h
theorem starts_at {ν : Nu} {a : Nat} (h : startsS ν = some a) : a < cnt ν 7 ∧ aA ν a 6 = 0 ∧ whyA ν a = 0 := by
  obtain ⟨h1, h2, -⟩ := fstL_spec h
  unfold staP at h2
  simp only [Bool.and_eq_true, decide_eq_true_eq] at h2
  exact ⟨h1, h2⟩
theorem y_goes_44 {μ : Mx} {ω : Om} {d : Nat} (hd : 4 ≤ d) (C : Cx μ ω "TowFieldModel" cX12_goes 4 d) (hr : (mH μ).sig.returnType = some .int) (σ τ : Sg) (hI : INV (τ 136)) (hE : Eqx [136, 143] σ τ) {n w : Int32} {ν' : Nu} (hw : n = w) (hν : openS (fetchN (τ 136)) = ν') (l2 l3 : Option Value) : G μ ω (RQ μ ω (pP (fun v τ' => v = w ∧ τ' 136 = ν' ∧ Eqx [136, 143] σ τ'))) 44 [some (.ref 135), some (.int n), l2, l3] [] (mk τ) 0 0 := by
  refine g_al0n (pc := 44) C dX12_goes_44 ?_
  refine s_VI (pc := 45) (st := []) C h135 rfl (c_X12_fetches (d := d - 1) (by omega) τ hI) (by omega) lX12_171 dX12_goes_45 rfl (Nat.le_of_ble_eq_true rfl) rfl ?_
  refine g_is3n (pc := 48) C dX12_goes_48 ?_
  rcases hf : fetchS (τ 136) with _ | w0
  · simp only [o2i]
    refine g_il3n (pc := 49) C dX12_goes_49 ?_
    refine g_if_lt (pc := 50) (tgt := 66) C dX12_goes_50 (by decide) (fun _ => ?_) (fun c => absurd c (by decide))
    refine g_al0n (pc := 66) C dX12_goes_66 ?_
    refine s_VQ (pc := 67) (st := []) C h135 rfl (c_X12_opens (d := d - 1) (by omega) τ hI) (by omega) lX12_194 dX12_goes_67 rfl (Nat.le_of_ble_eq_true rfl) rfl (fun t2 h2 => ?_)
    obtain ⟨h2, e2⟩ := h2
    refine g_il1n (pc := 70) C dX12_goes_70 ?_
    exact r_P C hr dX12_goes_71 ⟨hw, by rw [h2, ← hν, fetchN_n hf], hE.tr e2⟩
  · simp only [o2i]
    have hw3 : w0 < 3 := by have := fetch_lt hf; have := hI.n5.2; omega
    refine g_il3n (pc := 49) C dX12_goes_49 ?_
    refine g_if_lt (pc := 50) (tgt := 66) C dX12_goes_50 (by decide) (fun c_50 => absurd c_50 (nI_pos (by omega))) (fun c_50 => ?_)
    refine g_al0n (pc := 53) C dX12_goes_53 ?_
    refine g_il3n (pc := 54) C dX12_goes_54 ?_
    refine s_VQ (pc := 55) (st := []) C h135 rfl (c_X12_isFetched (d := d - 1) (by omega) τ hI (w := w0) hw3) (by omega) lX12_191 dX12_goes_55 rfl (Nat.le_of_ble_eq_true rfl) rfl (fun t1 h1 => ?_)
    obtain ⟨h1, e1⟩ := h1
    have hI1 : INV (t1 136) := by rw [h1]; exact INV_fetched hI hw3
    have hf1 : fetchS (t1 136) = none := by rw [h1]; exact fetch_fetched hI hw3
    refine g_al0n (pc := 58) C dX12_goes_58 ?_
    refine s_VI (pc := 59) (st := []) C h135 rfl (c_X12_fetches (d := d - 1) (by omega) t1 hI1) (by omega) lX12_171 dX12_goes_59 rfl (Nat.le_of_ble_eq_true rfl) rfl ?_
    refine g_is3n (pc := 62) C dX12_goes_62 ?_
    refine g_goto (pc := 63) (tgt := 49) C dX12_goes_63 (by decide) ?_
    rw [hf1]
    simp only [o2i]
    refine g_il3n (pc := 49) C dX12_goes_49 ?_
    refine g_if_lt (pc := 50) (tgt := 66) C dX12_goes_50 (by decide) (fun _ => ?_) (fun c => absurd c (by decide))
    refine g_al0n (pc := 66) C dX12_goes_66 ?_
    refine s_VQ (pc := 67) (st := []) C h135 rfl (c_X12_opens (d := d - 1) (by omega) t1 hI1) (by omega) lX12_194 dX12_goes_67 rfl (Nat.le_of_ble_eq_true rfl) rfl (fun t2 h2 => ?_)
    obtain ⟨h2, e2⟩ := h2
    refine g_il1n (pc := 70) C dX12_goes_70 ?_
    exact r_P C hr dX12_goes_71 ⟨hw, by rw [h2, ← hν, fetchN_s hf, h1], (hE.tr e1).tr e2⟩

theorem y_goes_27 {μ : Mx} {ω : Om} {d : Nat} (hd : 8 ≤ d) (C : Cx μ ω "TowFieldModel" cX12_goes 4 d) (hr : (mH μ).sig.returnType = some .int) (σ τ : Sg) (hI : INV (τ 136)) (hE : Eqx [136, 143] σ τ) {n w : Int32} {ν' : Nu} (hw : startC (τ 136) n = w) (hν : openS (fetchN (startN (τ 136))) = ν') (l2 l3 : Option Value) : G μ ω (RQ μ ω (pP (fun v τ' => v = w ∧ τ' 136 = ν' ∧ Eqx [136, 143] σ τ'))) 27 [some (.ref 135), some (.int n), l2, l3] [] (mk τ) 0 0 := by
  refine g_al0n (pc := 27) C dX12_goes_27 ?_
  refine s_VP (pc := 28) (st := []) C h135 rfl (c_X12_starts (d := d - 1) (by omega) τ hI) (by omega) lX12_168 dX12_goes_28 rfl (Nat.le_of_ble_eq_true rfl) rfl (fun v_28 t3 hw_28 => ?_)
  obtain ⟨hv_28, e3⟩ := hw_28
  have q3 : t3 136 = τ 136 := e3 136 (by decide)
  have hI3 : INV (t3 136) := by rw [q3]; exact hI
  refine g_is2n (pc := 31) C dX12_goes_31 ?_
  rcases hs : startsS (τ 136) with _ | b <;> (rw [hs] at hv_28; simp only [o2i] at hv_28; subst hv_28)
  · refine g_il2n (pc := 32) C dX12_goes_32 ?_
    refine g_if_lt (pc := 33) (tgt := 44) C dX12_goes_33 (by decide) (fun _ => ?_) (fun c => absurd c (by decide))
    exact y_goes_44 (by omega) C hr σ t3 hI3 (hE.tr (eqx_wk e3)) (by rw [← hw, (startN_n _ hs).2]) (by rw [← hν, (startN_n 0 hs).1, q3]) _ _
  · obtain ⟨hb0, hb6, hbw⟩ := starts_at hs
    have hb1 : b < cnt (t3 136) 7 := by rw [q3]; exact hb0
    have hn7 := hI3.n7.2
    have hh : helpK (upS3 (t3 136) b) (t3 136 (146 + 10 * b + 3)) = true := by rw [help_up hI3 hb1, q3]; exact (why0 hbw).2.2.2
    refine g_il2n (pc := 32) C dX12_goes_32 ?_
    refine g_if_lt (pc := 33) (tgt := 44) C dX12_goes_33 (by decide) (fun c_33 => absurd c_33 (nI_pos (by omega))) (fun c_33 => ?_)
    refine g_al0n (pc := 36) C dX12_goes_36 ?_
    refine g_il2n (pc := 37) C dX12_goes_37 ?_
    refine s_VQ (pc := 38) (st := []) C h135 rfl (c_X12_goesUp (d := d - 1) (by omega) t3 hI3 (a := b) hb1 hh) (by omega) lX12_188 dX12_goes_38 rfl (Nat.le_of_ble_eq_true rfl) rfl (fun t4 h4 => ?_)
    obtain ⟨h4, e4⟩ := h4
    refine g_ii1 (pc := 41) (v := n + 1) C dX12_goes_41 rfl ?_
    exact y_goes_44 (by omega) C hr σ t4 (by rw [h4, q3]; exact INV_up hI hb0 hbw) (hE.tr ((eqx_wk e3).tr e4)) (by rw [← hw, (startN_s _ hs).2]) (by rw [← hν, (startN_s 0 hs).1, h4, q3]) _ _

theorem c_X12_goes {d : Nat} (hd : 8 ≤ d) (σ : Sg) (hI : INV (σ 136)) : CP d mX12_goes [.ref 135] σ (fun v τ' => v = (minS (σ 136)).1 ∧ τ' 136 = (minS (σ 136)).2 ∧ Eqx [136, 143] σ τ') := by
  refine con_of (by decide) (catL rfl) (Nat.le_of_ble_eq_true rfl) ?_
  intro μ ω C hr
  have C : Cx μ ω "TowFieldModel" cX12_goes 4 d := C
  have hr : (mH μ).sig.returnType = some .int := hr
  show G μ ω (RQ μ ω (pP (fun v τ' => v = (minS (σ 136)).1 ∧ τ' 136 = (minS (σ 136)).2 ∧ Eqx [136, 143] σ τ'))) 0 [some (.ref 135), none, none, none] [] (mk σ) 0 0
  refine g_iconst (pc := 0) (v := 0) C dX12_goes_0 (by decide) ?_
  refine g_is1n (pc := 1) C dX12_goes_1 ?_
  refine g_al0n (pc := 2) C dX12_goes_2 ?_
  refine s_VI (pc := 3) (st := []) C h135 rfl (c_X12_lands (d := d - 1) (by omega) σ hI) (by omega) lX12_165 dX12_goes_3 rfl (Nat.le_of_ble_eq_true rfl) rfl ?_
  refine g_is2n (pc := 6) C dX12_goes_6 ?_
  rcases hl : landsS (σ 136) with _ | b
  · simp only [o2i]
    refine g_il2n (pc := 7) C dX12_goes_7 ?_
    refine g_if_lt (pc := 8) (tgt := 27) C dX12_goes_8 (by decide) (fun _ => ?_) (fun c => absurd c (by decide))
    exact y_goes_27 hd C hr σ σ hI Eqx.rf (by unfold minS; rw [(landN_n hl).1, (landN_n hl).2]) (by unfold minS; rw [(landN_n hl).1]) _ _
  · simp only [o2i]
    have hb0 := lands_lt hl
    have hn7 := hI.n7.2
    refine g_il2n (pc := 7) C dX12_goes_7 ?_
    refine g_if_lt (pc := 8) (tgt := 27) C dX12_goes_8 (by decide) (fun c_8 => absurd c_8 (nI_pos (by omega))) (fun c_8 => ?_)
    refine g_al0n (pc := 11) C dX12_goes_11 ?_
    refine g_il2n (pc := 12) C dX12_goes_12 ?_
    refine s_VQ (pc := 13) (st := []) C h135 rfl (c_X12_goesDown (d := d - 1) (by omega) σ hI (a := b) hb0) (by omega) lX12_184 dX12_goes_13 rfl (Nat.le_of_ble_eq_true rfl) rfl (fun t5 h5 => ?_)
    obtain ⟨h5, e5⟩ := h5
    have hI5 : INV (t5 136) := by rw [h5]; exact INV_down hI hb0
    have hl5 : landsS (t5 136) = none := by rw [h5]; exact lands_down hI hb0
    refine g_ii1 (pc := 16) (v := 10) C dX12_goes_16 (by decide) ?_
    refine g_al0n (pc := 19) C dX12_goes_19 ?_
    refine s_VI (pc := 20) (st := []) C h135 rfl (c_X12_lands (d := d - 1) (by omega) t5 hI5) (by omega) lX12_165 dX12_goes_20 rfl (Nat.le_of_ble_eq_true rfl) rfl ?_
    refine g_is2n (pc := 23) C dX12_goes_23 ?_
    refine g_goto (pc := 24) (tgt := 7) C dX12_goes_24 (by decide) ?_
    rw [hl5]
    simp only [o2i]
    refine g_il2n (pc := 7) C dX12_goes_7 ?_
    refine g_if_lt (pc := 8) (tgt := 27) C dX12_goes_8 (by decide) (fun _ => ?_) (fun c => absurd c (by decide))
    exact y_goes_27 hd C hr σ t5 hI5 e5 (by unfold minS; rw [(landN_s hl).1, (landN_s hl).2, h5]) (by unfold minS; rw [(landN_s hl).1, h5]) _ _

theorem INV_min {ν : Nu} (h : INV ν) {m : Nat} (hm : m < 5000) (h0 : ν 0 = nI m) : INV (minS ν).2 ∧ (minS ν).2 0 = nI (m + 1) := by
  have k1 : INV (landN ν) ∧ landN ν 0 = nI m := by
    cases hl : landsS ν with
    | none => rw [(landN_n hl).1]; exact ⟨h, h0⟩
    | some a =>
      rw [(landN_s hl).1]
      exact ⟨INV_down h (lands_lt hl), by rw [downS_keep h (lands_lt hl) (by omega)]; exact h0⟩
  have k2 : ∀ ν1, INV ν1 → ν1 0 = nI m → INV (startN ν1) ∧ startN ν1 0 = nI m := by
    intro ν1 i1 z1
    cases hl : startsS ν1 with
    | none => rw [(startN_n 0 hl).1]; exact ⟨i1, z1⟩
    | some a =>
      rw [(startN_s 0 hl).1]
      obtain ⟨q1, -, q3⟩ := starts_at hl
      exact ⟨INV_up i1 q1 q3, by rw [upS_keep i1 q1 (by omega)]; exact z1⟩
  have k3 : ∀ ν1, INV ν1 → ν1 0 = nI m → INV (fetchN ν1) ∧ fetchN ν1 0 = nI m := by
    intro ν1 i1 z1
    cases hl : fetchS ν1 with
    | none => rw [fetchN_n hl]; exact ⟨i1, z1⟩
    | some w =>
      rw [fetchN_s hl]
      have q1 : w < 3 := by have := fetch_lt hl; have := i1.n5.2; omega
      exact ⟨INV_fetched i1 q1, by rw [fetchedS_keep i1 q1 (by omega)]; exact z1⟩
  obtain ⟨i1, z1⟩ := k1
  obtain ⟨i2, z2⟩ := k2 _ i1 z1
  obtain ⟨i3, z3⟩ := k3 _ i2 z2
  exact ⟨INV_open i3 hm z3, by show openS _ 0 = _; rw [openS_0 i3, z3]; exact nI_1 m⟩
