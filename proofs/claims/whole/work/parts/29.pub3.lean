/-! ===== the model: calls over minutes ===== -/
theorem INV_run {ν : Nu} (h : INV ν) {m : Nat} (h0 : ν 0 = nI m) : ∀ n, m + n ≤ 5000 → INV (runS ν n) ∧ runS ν n 0 = nI (m + n) := by
  intro n
  induction n with
  | zero => intro _; exact ⟨h, h0⟩
  | succ n ih =>
    intro hm
    obtain ⟨i1, z1⟩ := ih (by omega)
    exact INV_min i1 (m := m + n) (by omega) z1
theorem INV.tail {ν : Nu} (h : INV ν) : ∀ j, 970 ≤ j → ν j = 0 := h.2.2.2.2.2.2.2.2
theorem nI_sub {a b : Nat} (h : a ≤ b) : nI b - nI a = nI (b - a) := by
  have e : nI b = nI (b - a) + nI a := by rw [nI_add]; congr 1; omega
  rw [e, Int32.add_sub_cancel]
theorem runS_s (ν : Nu) (n : Nat) : runS ν (n + 1) = (minS (runS ν n)).2 := rfl
theorem m_next {d : Nat} (hd : 8 ≤ d) (σ : Sg) (hI : INV (σ 136)) : CP d mX12_next [.ref 135] σ (MPo σ (sp_next (mv σ))) := by
  have h7 := hI.n7.2
  have h5 := hI.n5.2
  have el : o2i (landsS (σ 136)) < 0 ↔ landsS (σ 136) = none := o2i_neg (fun k q => by have := lands_lt q; omega)
  have es : o2i (startsS (σ 136)) < 0 ↔ startsS (σ 136) = none := o2i_neg (fun k q => by have := (starts_at q).1; omega)
  have ef : o2i (fetchS (σ 136)) < 0 ↔ fetchS (σ 136) = none := o2i_neg (fun k q => by have := fetch_lt q; omega)
  refine con_of (by decide) (catL rfl) (Nat.le_of_ble_eq_true rfl) ?_
  intro μ ω C hr
  have C : Cx μ ω "TowFieldModel" cX12_next 4 d := C
  have hr : (mH μ).sig.returnType = some .int := hr
  show G μ ω (RQ μ ω (pP (MPo σ (sp_next (mv σ))))) 0 [some (.ref 135), none, none, none] [] (mk σ) 0 0
  refine g_al0n (pc := 0) C dX12_next_0 ?_
  refine s_VI (pc := 1) (st := []) C h135 rfl (c_X12_lands (d := d - 1) (by omega) σ hI) (by omega) lX12_165 dX12_next_1 rfl (Nat.le_of_ble_eq_true rfl) rfl ?_
  refine g_is1n (pc := 4) C dX12_next_4 ?_
  refine g_al0n (pc := 5) C dX12_next_5 ?_
  refine s_VP (pc := 6) (st := []) C h135 rfl (c_X12_starts (d := d - 1) (by omega) σ hI) (by omega) lX12_168 dX12_next_6 rfl (Nat.le_of_ble_eq_true rfl) rfl (fun v_6 τ hw_6 => ?_)
  obtain ⟨hv_6, hE⟩ := hw_6
  have q3 : τ 136 = σ 136 := hE 136 (by decide)
  have hI3 : INV (τ 136) := by rw [q3]; exact hI
  refine g_is2n (pc := 9) C dX12_next_9 ?_
  refine g_al0n (pc := 10) C dX12_next_10 ?_
  refine s_VI (pc := 11) (st := []) C h135 rfl (c_X12_fetches (d := d - 1) (by omega) τ hI3) (by omega) lX12_171 dX12_next_11 rfl (Nat.le_of_ble_eq_true rfl) rfl ?_
  refine g_is3n (pc := 14) C dX12_next_14 ?_
  refine g_il1n (pc := 15) C dX12_next_15 ?_
  refine g_if_lt (pc := 16) (tgt := 27) C dX12_next_16 (by decide) (fun c_16 => ?_) (fun c_16 => ?_)
  · refine g_il2n (pc := 27) C dX12_next_27 ?_
    refine g_if_lt (pc := 28) (tgt := 39) C dX12_next_28 (by decide) (fun c_28 => ?_) (fun c_28 => ?_)
    · refine g_il3n (pc := 39) C dX12_next_39 ?_
      refine g_if_lt (pc := 40) (tgt := 51) C dX12_next_40 (by decide) (fun c_40 => ?_) (fun c_40 => ?_)
      · refine g_iconst (pc := 51) (v := 0) C dX12_next_51 (by decide) ?_
        refine r_P C hr dX12_next_52 ⟨?_, mvE hE, frX hE, mtX hE⟩
        subst hv_6
        rw [el] at c_16
        rw [es] at c_28
        rw [q3, ef] at c_40
        clear el es ef
        simp only [sp_next, mv, aN, nextS]
        cases hl : landsS (σ 136) with
        | some a => simp_all [o2i]
        | none =>
          cases hs : startsS (σ 136) with
          | some b => simp_all [o2i]
          | none =>
            cases hf : fetchS (σ 136) with
            | some c => simp_all [o2i]
            | none => simp_all [o2i]
      · refine g_sipush (pc := 43) (v := 3000) C dX12_next_43 (by decide) ?_
        refine g_il3n (pc := 46) C dX12_next_46 ?_
        refine g_iadd (pc := 47) C dX12_next_47 ?_
        refine g_goto (pc := 48) (tgt := 52) C dX12_next_48 (by decide) ?_
        refine r_P C hr dX12_next_52 ⟨?_, mvE hE, frX hE, mtX hE⟩
        subst hv_6
        rw [el] at c_16
        rw [es] at c_28
        rw [q3, ef] at c_40
        clear el es ef
        simp only [sp_next, mv, aN, nextS]
        cases hl : landsS (σ 136) with
        | some a => simp_all [o2i]
        | none =>
          cases hs : startsS (σ 136) with
          | some b => simp_all [o2i]
          | none =>
            cases hf : fetchS (σ 136) with
            | some c => simp_all [o2i]
            | none => simp_all [o2i]
    · refine g_sipush (pc := 31) (v := 2000) C dX12_next_31 (by decide) ?_
      refine g_il2n (pc := 34) C dX12_next_34 ?_
      refine g_iadd (pc := 35) C dX12_next_35 ?_
      refine g_goto (pc := 36) (tgt := 52) C dX12_next_36 (by decide) ?_
      refine r_P C hr dX12_next_52 ⟨?_, mvE hE, frX hE, mtX hE⟩
      subst hv_6
      rw [el] at c_16
      rw [es] at c_28
      clear el es ef
      simp only [sp_next, mv, aN, nextS]
      cases hl : landsS (σ 136) with
      | some a => simp_all [o2i]
      | none =>
        cases hs : startsS (σ 136) with
        | some b => simp_all [o2i]
        | none =>
          cases hf : fetchS (σ 136) with
          | some c => simp_all [o2i]
          | none => simp_all [o2i]
  · refine g_sipush (pc := 19) (v := 1000) C dX12_next_19 (by decide) ?_
    refine g_il1n (pc := 22) C dX12_next_22 ?_
    refine g_iadd (pc := 23) C dX12_next_23 ?_
    refine g_goto (pc := 24) (tgt := 52) C dX12_next_24 (by decide) ?_
    refine r_P C hr dX12_next_52 ⟨?_, mvE hE, frX hE, mtX hE⟩
    subst hv_6
    rw [el] at c_16
    clear el es ef
    simp only [sp_next, mv, aN, nextS]
    cases hl : landsS (σ 136) with
    | some a => simp_all [o2i]
    | none =>
      cases hs : startsS (σ 136) with
      | some b => simp_all [o2i]
      | none =>
        cases hf : fetchS (σ 136) with
        | some c => simp_all [o2i]
        | none => simp_all [o2i]

theorem m_force {d : Nat} (hd : 4 ≤ d) (σ : Sg) (hI : INV (σ 136)) (u : Int32) : CP d mX12_force [.ref 135, .int u] σ (MPo σ (sp_force (mv σ) u)) := by
  have ef : o2i (textU (σ 136) u) < 0 ↔ textU (σ 136) u = none := o2i_neg (fun k q => by have := (lstL_lt q).1; have := hI.n8.2; omega)
  refine con_of (by decide) (catL rfl) (Nat.le_of_ble_eq_true rfl) ?_
  intro μ ω C hr
  have C : Cx μ ω "TowFieldModel" cX12_force 3 d := C
  have hr : (mH μ).sig.returnType = some .int := hr
  show G μ ω (RQ μ ω (pP (MPo σ (sp_force (mv σ) u)))) 0 [some (.ref 135), some (.int u), none] [] (mk σ) 0 0
  refine g_il1n (pc := 0) C dX12_force_0 ?_
  refine g_iconst (pc := 1) (v := 0) C dX12_force_1 (by decide) ?_
  refine g_iconst (pc := 2) (v := 1) C dX12_force_2 (by decide) ?_
  refine s_SB (pc := 3) (st := []) C (c_X12_within (d := d - 1) (by omega) σ u 0 1) (by omega) lX12_58 dX12_force_3 rfl (Nat.le_of_ble_eq_true rfl) rfl (fun b_3 => ?_) (fun b_3 => ?_)
  · refine g_if_ne (pc := 6) (tgt := 16) C dX12_force_6 (by decide) (fun _ => ?_) (fun c => absurd c (by decide))
    refine g_al0n (pc := 16) C dX12_force_16 ?_
    refine g_il1n (pc := 17) C dX12_force_17 ?_
    refine s_VI (pc := 18) (st := []) C h135 rfl (c_X12_textOf (d := d - 1) (by omega) σ hI u) (by omega) lX12_140 dX12_force_18 rfl (Nat.le_of_ble_eq_true rfl) rfl ?_
    refine g_is2n (pc := 21) C dX12_force_21 ?_
    refine g_il2n (pc := 22) C dX12_force_22 ?_
    refine g_if_geL (pc := 23) (tgt := 36) C dX12_force_23 (by decide) (fun c_23 => ?_) (fun c_23 => ?_)
    · refine g_il2n (pc := 36) C dX12_force_36 ?_
      rw [ef] at c_23
      obtain ⟨k, ht⟩ := Option.ne_none_iff_exists'.mp c_23
      have e : sp_force (mv σ) u = (nI k, mv σ) := by
        unfold sp_force
        rw [if_neg (not_not_intro b_3)]
        show (match textU (σ 136) u with | none => FN (mv σ) | some t => (nI t, mv σ)) = _
        rw [ht]
      rw [e]
      exact r_P C hr dX12_force_37 ⟨by rw [ht]; rfl, rfl, fun _ _ => rfl, id⟩
    · refine g_al0n (pc := 26) C dX12_force_26 ?_
      refine g_ldcw (pc := 27) C dX12_force_27 kX12_290 ?_
      refine s_VI (pc := 30) (st := []) C h135 rfl (c_X12_finding (d := d - 1) (by omega) σ (i := 3) (by decide) (w := ((-1000004))) (by decide)) (by omega) lX12_62 dX12_force_30 rfl (Nat.le_of_ble_eq_true rfl) rfl ?_
      refine g_goto (pc := 33) (tgt := 37) C dX12_force_33 (by decide) ?_
      rw [ef] at c_23
      have e : sp_force (mv σ) u = FN (mv σ) := by
        unfold sp_force
        rw [if_neg (not_not_intro b_3)]
        show (match textU (σ 136) u with | none => FN (mv σ) | some t => (nI t, mv σ)) = _
        rw [c_23]
      rw [e]
      exact r_P C hr dX12_force_37 ⟨rfl, rfl, frU (by decide) (fun _ _ => rfl), mtU (by decide) id⟩
  · refine g_if_ne (pc := 6) (tgt := 16) C dX12_force_6 (by decide) (fun c => absurd c (by decide)) (fun _ => ?_)
    refine g_al0n (pc := 9) C dX12_force_9 ?_
    refine g_ldc (pc := 10) C dX12_force_10 kX12_57 ?_
    refine s_VI (pc := 12) (st := []) C h135 rfl (c_X12_finding (d := d - 1) (by omega) σ (i := 0) (by decide) (w := ((-1000001))) (by decide)) (by omega) lX12_62 dX12_force_12 rfl (Nat.le_of_ble_eq_true rfl) rfl ?_
    have e : sp_force (mv σ) u = FB (mv σ) := if_pos b_3
    rw [e]
    exact r_P C hr dX12_force_15 ⟨rfl, rfl, frU (by decide) (fun _ _ => rfl), mtU (by decide) id⟩

theorem m_image {d : Nat} (hd : 3 ≤ d) (σ : Sg) (hI : INV (σ 136)) (hk : ∀ j, 970 ≤ j → σ 137 j = 0) : CP d mX12_image [.ref 135] σ (MPo σ (sp_image (mv σ))) := by
  refine con_of (by decide) (catL rfl) (Nat.le_of_ble_eq_true rfl) ?_
  intro μ ω C hr
  have C : Cx μ ω "TowFieldModel" cX12_image 1 d := C
  have hr : (mH μ).sig.returnType = some .int := hr
  show G μ ω (RQ μ ω (pP (MPo σ (sp_image (mv σ))))) 0 [some (.ref 135)] [] (mk σ) 0 0
  refine g_al0n (pc := 0) C dX12_image_0 ?_
  refine s_getR (pc := 1) C fX12_9 h135 rfl dX12_image_1 ?_
  refine g_al0n (pc := 4) C dX12_image_4 ?_
  refine s_getR (pc := 5) C fX12_13 h135 rfl dX12_image_5 ?_
  refine s_SU (pc := 8) (st := []) C (c_copy_136_137 (d := d - 1) (by omega) σ (fun j hj => by rw [hI.tail j hj, hk j hj])) (by omega) lX12_200 dX12_image_8 rfl (Nat.le_of_ble_eq_true rfl) rfl ?_
  refine g_al0n (pc := 11) C dX12_image_11 ?_
  refine g_iconst (pc := 12) (v := 1) C dX12_image_12 (by decide) ?_
  refine s_putZ (pc := 13) C (by decide) pX12_304 h135 rfl dX12_image_13 ?_
  refine g_iconst (pc := 16) (v := 1) C dX12_image_16 (by decide) ?_
  exact r_P C hr dX12_image_17 ⟨rfl, rfl, fun k hk => by rw [up_ne _ _ _ (by omega), sup_apply, if_neg (by omega)], mtU (by decide) (fun q j hj => by rw [sup_apply, if_neg (by decide)]; exact q j hj)⟩

theorem m_undo {d : Nat} (hd : 3 ≤ d) (σ : Sg) (hI : INV (σ 136)) (hk : ∀ j, 970 ≤ j → σ 137 j = 0) : CP d mX12_undo [.ref 135] σ (MPo σ (sp_undo (mv σ))) := by
  refine con_of (by decide) (catL rfl) (Nat.le_of_ble_eq_true rfl) ?_
  intro μ ω C hr
  have C : Cx μ ω "TowFieldModel" cX12_undo 1 d := C
  have hr : (mH μ).sig.returnType = some .int := hr
  show G μ ω (RQ μ ω (pP (MPo σ (sp_undo (mv σ))))) 0 [some (.ref 135)] [] (mk σ) 0 0
  refine g_al0n (pc := 0) C dX12_undo_0 ?_
  refine s_getI (pc := 1) C fX12_304 h135 rfl dX12_undo_1 ?_
  refine g_if_ne (pc := 4) (tgt := 15) C dX12_undo_4 (by decide) (fun c_4 => ?_) (fun c_4 => ?_)
  · refine g_al0n (pc := 15) C dX12_undo_15 ?_
    refine s_getR (pc := 16) C fX12_13 h135 rfl dX12_undo_16 ?_
    refine g_al0n (pc := 19) C dX12_undo_19 ?_
    refine s_getR (pc := 20) C fX12_9 h135 rfl dX12_undo_20 ?_
    refine s_SU (pc := 23) (st := []) C (c_copy_137_136 (d := d - 1) (by omega) σ (fun j hj => by rw [hI.tail j hj, hk j hj])) (by omega) lX12_200 dX12_undo_23 rfl (Nat.le_of_ble_eq_true rfl) rfl ?_
    refine g_al0n (pc := 26) C dX12_undo_26 ?_
    refine s_getR (pc := 27) C fX12_9 h135 rfl dX12_undo_27 ?_
    refine g_iconst (pc := 30) (v := 0) C dX12_undo_30 (by decide) ?_
    refine s_iald (pc := 31) (q := 0) C h136 rfl (by omega) (Nat.le_of_ble_eq_true rfl) dX12_undo_31 ?_
    exact r_P C hr dX12_undo_32 ⟨by simp only [sp_undo, mv, aH, c_4, if_false]; rfl, by simp only [sp_undo, mv, aH, c_4, if_false]; rfl, fun k hk => by rw [sup_apply, if_neg (by omega)], (fun q j hj => by rw [sup_apply, if_neg (by decide)]; exact q j hj)⟩
  · refine g_al0n (pc := 7) C dX12_undo_7 ?_
    refine g_ldcw (pc := 8) C dX12_undo_8 kX12_290 ?_
    refine s_VI (pc := 11) (st := []) C h135 rfl (c_X12_finding (d := d - 1) (by omega) σ (i := 3) (by decide) (w := ((-1000004))) (by decide)) (by omega) lX12_62 dX12_undo_11 rfl (Nat.le_of_ble_eq_true rfl) rfl ?_
    exact r_P C hr dX12_undo_14 (by have e : sp_undo (mv σ) = FN (mv σ) := if_pos c_4; rw [e]; exact ⟨rfl, rfl, frU (by decide) (fun _ _ => rfl), mtU (by decide) id⟩)

theorem lp_X12_run {μ : Mx} {ω : Om} {d : Nat} (hd : 9 ≤ d) (C : Cx μ ω "TowFieldModel" cX12_run 4 d) (hr : (mH μ).sig.returnType = some .int) (σ : Sg) (hI : INV (σ 136)) {m n : Nat} (h0 : σ 136 0 = nI m) (hmn : m + n ≤ 5000) (Φ : Int32 → Sg → Prop) (hΦ : ∀ τ', τ' 136 = runS (σ 136) n → Eqx [136, 143] σ τ' → Φ (runS (σ 136) n 0) τ') : ∀ (f i : Nat) (τ : Sg) (l3 : Option Value), i + f = n → (τ 136 = runS (σ 136) i) → (Eqx [136, 143] σ τ) → G μ ω (RQ μ ω (pP Φ)) 40 [some (.ref 135), some (.int (nI n)), some (.int (nI i)), l3] [] (mk τ) 0 0 := by
  intro f
  induction f with
  | zero =>
    intro i τ l3 hif hv hv1
    have hin : i = n := by omega
    refine g_il2n (pc := 40) C dX12_run_40 ?_
    refine g_il1n (pc := 41) C dX12_run_41 ?_
    refine g_icmp_geL (pc := 42) (tgt := 56) C dX12_run_42 (by decide) (fun c_42 => ?_) (fun c_42 => absurd c_42 (nI_nlt (by omega) (by omega)))
    refine g_al0n (pc := 56) C dX12_run_56 ?_
    refine s_getR (pc := 57) C fX12_9 h135 rfl dX12_run_57 ?_
    refine g_iconst (pc := 60) (v := 0) C dX12_run_60 (by decide) ?_
    refine s_iald (pc := 61) (q := 0) C h136 rfl (by omega) (Nat.le_of_ble_eq_true rfl) dX12_run_61 ?_
    exact r_P C hr dX12_run_62 (by have := hΦ τ (by rw [hv, hin]) hv1; rw [← hin, ← hv] at this; exact this)
  | succ f ih =>
    intro i τ l3 hif hv hv1
    have hIτ : INV (τ 136) := by rw [hv]; exact (INV_run hI h0 i (by omega)).1
    refine g_il2n (pc := 40) C dX12_run_40 ?_
    refine g_il1n (pc := 41) C dX12_run_41 ?_
    refine g_icmp_geL (pc := 42) (tgt := 56) C dX12_run_42 (by decide) (fun c_42 => absurd (nI_lt (by omega) (by omega)) c_42) (fun c_42 => ?_)
    refine g_al0n (pc := 45) C dX12_run_45 ?_
    refine s_VP (pc := 46) (st := []) C h135 rfl (c_X12_goes (d := d - 1) (by omega) τ hIτ) (by omega) lX12_197 dX12_run_46 rfl (Nat.le_of_ble_eq_true rfl) rfl (fun v_g t1 hw_g => ?_)
    obtain ⟨hv_g, h136, hE⟩ := hw_g
    refine g_is3n (pc := 49) C dX12_run_49 ?_
    refine g_ii2 (pc := 50) (v := nI (i + 1)) C dX12_run_50 (nI_inc1 _) ?_
    refine g_goto (pc := 53) (tgt := 40) C dX12_run_53 (by decide) ?_
    exact ih (i + 1) t1 _ (by omega) (by rw [h136, hv]; rfl) (hv1.tr hE)

theorem mv136 {σ τ : Sg} (h : Eqx [136, 143] σ τ) : mv τ = sN (mv σ) (τ 136) := by
  unfold mv sN
  rw [h 137 (by decide), h 135 (by decide), h 139 (by decide), h 140 (by decide), h 144 (by decide), h 145 (by decide), h 146 (by decide)]
theorem fr136 {σ τ : Sg} (h : Eqx [136, 143] σ τ) : ∀ k, k < 135 → τ k = σ k := fun k hk => h k (by simp; omega)
theorem m_run {d : Nat} (hd : 9 ≤ d) (σ : Sg) (hI : INV (σ 136)) (hm : ∃ m, m ≤ 900 ∧ σ 136 0 = nI m) (n : Int32) : CP d mX12_run [.ref 135, .int n] σ (MPo σ (sp_run (mv σ) n)) := by
  obtain ⟨m, hm, h0⟩ := hm
  refine con_of (by decide) (catL rfl) (Nat.le_of_ble_eq_true rfl) ?_
  intro μ ω C hr
  have C : Cx μ ω "TowFieldModel" cX12_run 4 d := C
  have hr : (mH μ).sig.returnType = some .int := hr
  show G μ ω (RQ μ ω (pP (MPo σ (sp_run (mv σ) n)))) 0 [some (.ref 135), some (.int n), none, none] [] (mk σ) 0 0
  refine g_il1n (pc := 0) C dX12_run_0 ?_
  refine g_iconst (pc := 1) (v := 1) C dX12_run_1 (by decide) ?_
  refine g_bipush (pc := 2) (v := 100) C dX12_run_2 (by decide) ?_
  refine s_SB (pc := 4) (st := []) C (c_X12_within (d := d - 1) (by omega) σ n 1 100) (by omega) lX12_58 dX12_run_4 rfl (Nat.le_of_ble_eq_true rfl) rfl (fun b_4 => ?_) (fun b_4 => ?_)
  · obtain ⟨j, hj, rfl⟩ := rgL b_4 (by decide) (B := 100) (by decide)
    have kj : (nI j).toNatClampNeg = j := nI_clamp (by omega)
    refine g_if_ne (pc := 7) (tgt := 17) C dX12_run_7 (by decide) (fun _ => ?_) (fun c => absurd c (by decide))
    refine g_al0n (pc := 17) C dX12_run_17 ?_
    refine s_getR (pc := 18) C fX12_9 h135 rfl dX12_run_18 ?_
    refine g_iconst (pc := 21) (v := 0) C dX12_run_21 (by decide) ?_
    refine s_iald (pc := 22) (q := 0) C h136 rfl (by omega) (Nat.le_of_ble_eq_true rfl) dX12_run_22 ?_
    refine g_il1n (pc := 23) C dX12_run_23 ?_
    refine g_iadd (pc := 24) C dX12_run_24 ?_
    refine g_sipush (pc := 25) (v := 900) C dX12_run_25 (by decide) ?_
    refine g_icmp_leL (pc := 28) (tgt := 38) C dX12_run_28 (by decide) (fun c_28 => ?_) (fun c_28 => ?_)
    · refine g_iconst (pc := 38) (v := 0) C dX12_run_38 (by decide) ?_
      refine g_is2n (pc := 39) C dX12_run_39 ?_
      exact lp_X12_run hd C hr σ hI h0 (by omega) _ (fun τ' q1 q2 => ⟨by simp only [sp_run, mv, aN, b_4, c_28, kj, if_true, if_false, not_true_eq_false, not_false_eq_true, and_self], by rw [mv136 q2, q1]; simp only [sp_run, mv, aN, b_4, c_28, kj, if_true, if_false, not_true_eq_false, not_false_eq_true, and_self], fr136 q2, mtE q2 (by decide)⟩) j 0 σ none (by omega) rfl Eqx.rf
    · refine g_al0n (pc := 31) C dX12_run_31 ?_
      refine g_ldc (pc := 32) C dX12_run_32 kX12_66 ?_
      refine s_VI (pc := 34) (st := []) C h135 rfl (c_X12_finding (d := d - 1) (by omega) σ (i := 1) (by decide) (w := ((-1000002))) (by decide)) (by omega) lX12_62 dX12_run_34 rfl (Nat.le_of_ble_eq_true rfl) rfl ?_
      refine r_P C hr dX12_run_37 ⟨?_, ?_, ?_, ?_⟩
      · first | (simp only [sp_run, FB, FF, FK, FN, FS, FM, FZ, fnd, becS, bitS, sN, mv, aN, aF, aK, aH, aT, aS, aW, aZ, aU, b_4, c_28, kj, eq_self, ne_eq, not_true_eq_false, not_false_eq_true, Classical.not_not, decide_true, decide_false, and_true, true_and, and_false, false_and, and_self, or_true, true_or, or_false, false_or, or_self, if_true, if_false, ite_true, ite_false, Bool.eq_false_iff, Bool.not_eq_eq_eq_not, Bool.true_eq_false, Bool.false_eq_true, reduceCtorEq]; done) | (simp only [sp_run, FB, FF, FK, FN, FS, FM, FZ, fnd, becS, bitS, sN, mv, aN, aF, aK, aH, aT, aS, aW, aZ, aU, b_4, c_28, kj, eq_self, ne_eq, not_true_eq_false, not_false_eq_true, Classical.not_not, decide_true, decide_false, and_true, true_and, and_false, false_and, and_self, or_true, true_or, or_false, false_or, or_self, if_true, if_false, ite_true, ite_false, Bool.eq_false_iff, Bool.not_eq_eq_eq_not, Bool.true_eq_false, Bool.false_eq_true, reduceCtorEq]; rfl) | (simp [becS, bitS, sp_run, FB, FF, FK, FN, FS, FM, FZ, fnd, mv, aN, b_4, c_28, kj]; done)
      · try simp only [mv_now, mv_fnd, mv_tap, mv_kep]
        first | (simp only [up_at, sN, becS, bitS, sp_run, FB, FF, FK, FN, FS, FM, FZ, fnd, mv, aN, aF, aK, aH, aT, aS, aW, aZ, aU, b_4, c_28, kj, eq_self, ne_eq, not_true_eq_false, not_false_eq_true, Classical.not_not, decide_true, decide_false, and_true, true_and, and_false, false_and, and_self, or_true, true_or, or_false, false_or, or_self, if_true, if_false, ite_true, ite_false, Bool.eq_false_iff, Bool.not_eq_eq_eq_not, Bool.true_eq_false, Bool.false_eq_true, reduceCtorEq]; done) | (simp only [up_at, sN, becS, bitS, sp_run, FB, FF, FK, FN, FS, FM, FZ, fnd, mv, aN, aF, aK, aH, aT, aS, aW, aZ, aU, b_4, c_28, kj, eq_self, ne_eq, not_true_eq_false, not_false_eq_true, Classical.not_not, decide_true, decide_false, and_true, true_and, and_false, false_and, and_self, or_true, true_or, or_false, false_or, or_self, if_true, if_false, ite_true, ite_false, Bool.eq_false_iff, Bool.not_eq_eq_eq_not, Bool.true_eq_false, Bool.false_eq_true, reduceCtorEq]; rfl) | (simp [mv_now, mv_fnd, up_at, sN, becS, bitS, sp_run, FB, FF, FK, FN, FS, FM, FZ, fnd, mv, aN, b_4, c_28, kj]; done)
      · repeat first | exact (fun _ _ => rfl) | refine frU (by decide) ?_
      · repeat first | exact id | refine mtU (by decide) ?_
  · refine g_if_ne (pc := 7) (tgt := 17) C dX12_run_7 (by decide) (fun c => absurd c (by decide)) (fun _ => ?_)
    refine g_al0n (pc := 10) C dX12_run_10 ?_
    refine g_ldc (pc := 11) C dX12_run_11 kX12_57 ?_
    refine s_VI (pc := 13) (st := []) C h135 rfl (c_X12_finding (d := d - 1) (by omega) σ (i := 0) (by decide) (w := ((-1000001))) (by decide)) (by omega) lX12_62 dX12_run_13 rfl (Nat.le_of_ble_eq_true rfl) rfl ?_
    refine r_P C hr dX12_run_16 ⟨?_, ?_, ?_, ?_⟩
    · first | (simp only [sp_run, FB, FF, FK, FN, FS, FM, FZ, fnd, becS, bitS, sN, mv, aN, aF, aK, aH, aT, aS, aW, aZ, aU, b_4, eq_self, ne_eq, not_true_eq_false, not_false_eq_true, Classical.not_not, decide_true, decide_false, and_true, true_and, and_false, false_and, and_self, or_true, true_or, or_false, false_or, or_self, if_true, if_false, ite_true, ite_false, Bool.eq_false_iff, Bool.not_eq_eq_eq_not, Bool.true_eq_false, Bool.false_eq_true, reduceCtorEq]; done) | (simp only [sp_run, FB, FF, FK, FN, FS, FM, FZ, fnd, becS, bitS, sN, mv, aN, aF, aK, aH, aT, aS, aW, aZ, aU, b_4, eq_self, ne_eq, not_true_eq_false, not_false_eq_true, Classical.not_not, decide_true, decide_false, and_true, true_and, and_false, false_and, and_self, or_true, true_or, or_false, false_or, or_self, if_true, if_false, ite_true, ite_false, Bool.eq_false_iff, Bool.not_eq_eq_eq_not, Bool.true_eq_false, Bool.false_eq_true, reduceCtorEq]; rfl) | (simp [becS, bitS, sp_run, FB, FF, FK, FN, FS, FM, FZ, fnd, mv, aN, b_4]; done)
    · try simp only [mv_now, mv_fnd, mv_tap, mv_kep]
      first | (simp only [up_at, sN, becS, bitS, sp_run, FB, FF, FK, FN, FS, FM, FZ, fnd, mv, aN, aF, aK, aH, aT, aS, aW, aZ, aU, b_4, eq_self, ne_eq, not_true_eq_false, not_false_eq_true, Classical.not_not, decide_true, decide_false, and_true, true_and, and_false, false_and, and_self, or_true, true_or, or_false, false_or, or_self, if_true, if_false, ite_true, ite_false, Bool.eq_false_iff, Bool.not_eq_eq_eq_not, Bool.true_eq_false, Bool.false_eq_true, reduceCtorEq]; done) | (simp only [up_at, sN, becS, bitS, sp_run, FB, FF, FK, FN, FS, FM, FZ, fnd, mv, aN, aF, aK, aH, aT, aS, aW, aZ, aU, b_4, eq_self, ne_eq, not_true_eq_false, not_false_eq_true, Classical.not_not, decide_true, decide_false, and_true, true_and, and_false, false_and, and_self, or_true, true_or, or_false, false_or, or_self, if_true, if_false, ite_true, ite_false, Bool.eq_false_iff, Bool.not_eq_eq_eq_not, Bool.true_eq_false, Bool.false_eq_true, reduceCtorEq]; rfl) | (simp [mv_now, mv_fnd, up_at, sN, becS, bitS, sp_run, FB, FF, FK, FN, FS, FM, FZ, fnd, mv, aN, b_4]; done)
    · repeat first | exact (fun _ _ => rfl) | refine frU (by decide) ?_
    · repeat first | exact id | refine mtU (by decide) ?_

/-- where minutes gone beside stand -/
def GB (σ : Sg) (i : Nat) (τ : Sg) : Prop := τ 136 = runS (σ 136) i ∧ τ 138 = σ 136 ∧ τ 135 7 = launS (σ 136) i ∧ τ 135 8 = landS (σ 136) i ∧ (∀ j, j ≠ 7 → j ≠ 8 → τ 135 j = σ 135 j) ∧ Eqx [135, 136, 138, 143] σ τ
/-- what minutes gone beside leave -/
def GD (σ : Sg) (n : Nat) (τ : Sg) : Prop := τ 135 7 = launS (σ 136) n ∧ τ 135 8 = landS (σ 136) n ∧ τ 135 9 = setS (runS (σ 136) n) 1 ∧ τ 135 10 = setS (runS (σ 136) n) 0 ∧ mv τ = mv σ ∧ (∀ k, k < 135 → τ k = σ k) ∧ MT τ
theorem GB_0 {σ τ : Sg} (h1 : τ = up (up (sup σ 138 (σ 136)) 135 7 0) 135 8 0) : GB σ 0 τ := by
  subst h1
  exact ⟨rfl, rfl, rfl, rfl, fun j h7 h8 => by simp only [up_apply, sup_apply, upd_apply, if_pos, if_neg h7, if_neg h8]; rfl, fun k hk => by
    simp only [List.mem_cons, List.not_mem_nil, or_false, not_or] at hk
    rw [up_ne _ _ _ hk.1, up_ne _ _ _ hk.1, sup_apply, if_neg hk.2.2.1]⟩
theorem GB_s {σ τ t1 τ' : Sg} {i : Nat} {v : Int32} (h : GB σ i τ) (hv : v = (minS (τ 136)).1) (h1 : t1 136 = (minS (τ 136)).2) (hE : Eqx [136, 143] τ t1) (h' : τ' = up (up t1 135 7 (t1 135 7 + jrem v 10)) 135 8 (up t1 135 7 (t1 135 7 + jrem v 10) 135 8 + v / 10)) : GB σ (i + 1) τ' := by
  obtain ⟨a1, a2, a3, a4, a5, a6⟩ := h
  have e5 : t1 135 = τ 135 := hE 135 (by decide)
  have ev : v = wentS (σ 136) i := by rw [hv, a1]; rfl
  subst h'
  refine ⟨?_, ?_, ?_, ?_, ?_, ?_⟩
  · show t1 136 = _
    rw [h1, a1]; rfl
  · show t1 138 = _
    rw [hE 138 (by decide), a2]
  · show t1 135 7 + jrem v 10 = launS (σ 136) i + jrem (wentS (σ 136) i) 10
    rw [e5, a3, ev]
  · show t1 135 8 + v / 10 = landS (σ 136) i + wentS (σ 136) i / 10
    rw [e5, a4, ev]
  · intro j h7 h8
    rw [up_at, upd_apply, if_neg h8, up_at, upd_apply, if_neg h7, e5]
    exact a5 j h7 h8
  · intro k hk
    have hk2 := hk
    simp only [List.mem_cons, List.not_mem_nil, or_false, not_or] at hk2
    rw [up_ne _ _ _ hk2.1, up_ne _ _ _ hk2.1, hE k (by simp; exact ⟨hk2.2.1, hk2.2.2.2⟩)]
    exact a6 k hk
theorem GB_e {σ τ τ' : Sg} {n : Nat} (hI : INV (σ 136)) (h : GB σ n τ) (h' : τ' = sup (up (up τ 135 9 (setS (τ 136) 1)) 135 10 (setS (τ 136) 0)) 136 (τ 138)) : GD σ n τ' := by
  obtain ⟨a1, a2, a3, a4, a5, a6⟩ := h
  subst h'
  refine ⟨a3, a4, ?_, ?_, ?_, ?_, ?_⟩
  · show setS (τ 136) 1 = _
    rw [a1]
  · show setS (τ 136) 0 = _
    rw [a1]
  · show (τ 138, τ 137, τ 135 3, τ 139, τ 140, τ 135 6, τ 144, τ 145, τ 146) = _
    rw [a2, a6 137 (by decide), a5 3 (by decide) (by decide), a6 139 (by decide), a6 140 (by decide), a5 6 (by decide) (by decide), a6 144 (by decide), a6 145 (by decide), a6 146 (by decide)]; rfl
  · intro k hk
    rw [sup_apply, if_neg (by omega), up_ne _ _ _ (by omega), up_ne _ _ _ (by omega)]
    exact a6 k (by simp; omega)
  · intro j hj
    show τ 138 j = 0
    rw [a2]; exact hI.tail j hj
theorem lp_X12_goBeside {μ : Mx} {ω : Om} {d : Nat} (hd : 9 ≤ d) (C : Cx μ ω "TowFieldModel" cX12_goBeside 4 d) (hr : (mH μ).sig.returnType = none) (σ : Sg) (hI : INV (σ 136)) {m n : Nat} (h0 : σ 136 0 = nI m) (hmn : m + n ≤ 5000) : ∀ (f i : Nat) (τ : Sg) (l3 : Option Value), i + f = n → (GB σ i τ) → G μ ω (RQ μ ω (pQ (GD σ n))) 23 [some (.ref 135), some (.int (nI n)), some (.int (nI i)), l3] [] (mk τ) 0 0 := by
  intro f
  induction f with
  | zero =>
    intro i τ l3 hif hv
    have hin : i = n := by omega
    have hIτ : INV (τ 136) := by rw [hv.1]; exact (INV_run hI h0 i (by omega)).1
    subst hin
    refine g_il2n (pc := 23) C dX12_goBeside_23 ?_
    refine g_il1n (pc := 24) C dX12_goBeside_24 ?_
    refine g_icmp_geL (pc := 25) (tgt := 65) C dX12_goBeside_25 (by decide) (fun c_25 => ?_) (fun c_25 => absurd c_25 (nI_nlt (by omega) (by omega)))
    refine g_al0n (pc := 65) C dX12_goBeside_65 ?_
    refine g_al0n (pc := 66) C dX12_goBeside_66 ?_
    refine g_iconst (pc := 67) (v := 1) C dX12_goBeside_67 (by decide) ?_
    refine s_VI (pc := 68) (st := [(.ref 135)]) C h135 rfl (c_X12_asksThat (d := d - 1) (by omega) τ hIτ 1) (by omega) lX12_211 dX12_goBeside_68 rfl (Nat.le_of_ble_eq_true rfl) rfl ?_
    refine s_putI (pc := 71) C pX12_214 h135 rfl dX12_goBeside_71 ?_
    refine g_al0n (pc := 74) C dX12_goBeside_74 ?_
    refine g_al0n (pc := 75) C dX12_goBeside_75 ?_
    refine g_iconst (pc := 76) (v := 0) C dX12_goBeside_76 (by decide) ?_
    refine s_VI (pc := 77) (st := [(.ref 135)]) C h135 rfl (c_X12_asksThat (d := d - 1) (by omega) ((up τ 135 9 (setS (τ 136) 1))) hIτ 0) (by omega) lX12_211 dX12_goBeside_77 rfl (Nat.le_of_ble_eq_true rfl) rfl ?_
    refine s_putI (pc := 80) C pX12_217 h135 rfl dX12_goBeside_80 ?_
    refine g_al0n (pc := 83) C dX12_goBeside_83 ?_
    refine s_getR (pc := 84) C fX12_16 h135 rfl dX12_goBeside_84 ?_
    refine g_al0n (pc := 87) C dX12_goBeside_87 ?_
    refine s_getR (pc := 88) C fX12_9 h135 rfl dX12_goBeside_88 ?_
    refine s_SU (pc := 91) (st := []) C (c_copy_138_136 (d := d - 1) (by omega) ((up (up τ 135 9 (setS (τ 136) 1)) 135 10 (setS ((up τ 135 9 (setS (τ 136) 1)) 136) 0))) (fun j hj => by show τ 138 j = τ 136 j; rw [hv.2.1, hI.tail j hj, hIτ.tail j hj])) (by omega) lX12_200 dX12_goBeside_91 rfl (Nat.le_of_ble_eq_true rfl) rfl ?_
    exact r_Q C hr dX12_goBeside_94 (GB_e hI hv rfl)
  | succ f ih =>
    intro i τ l3 hif hv
    have hIτ : INV (τ 136) := by rw [hv.1]; exact (INV_run hI h0 i (by omega)).1
    refine g_il2n (pc := 23) C dX12_goBeside_23 ?_
    refine g_il1n (pc := 24) C dX12_goBeside_24 ?_
    refine g_icmp_geL (pc := 25) (tgt := 65) C dX12_goBeside_25 (by decide) (fun c_25 => absurd (nI_lt (by omega) (by omega)) c_25) (fun c_25 => ?_)
    refine g_al0n (pc := 28) C dX12_goBeside_28 ?_
    refine s_VP (pc := 29) (st := []) C h135 rfl (c_X12_goes (d := d - 1) (by omega) τ hIτ) (by omega) lX12_197 dX12_goBeside_29 rfl (Nat.le_of_ble_eq_true rfl) rfl (fun v_g t1 hw_g => ?_)
    obtain ⟨hv_g, h136, hE⟩ := hw_g
    refine g_is3n (pc := 32) C dX12_goBeside_32 ?_
    refine g_al0n (pc := 33) C dX12_goBeside_33 ?_
    refine g_dup (pc := 34) C dX12_goBeside_34 rfl ?_
    refine s_getI (pc := 35) C fX12_204 h135 rfl dX12_goBeside_35 ?_
    refine g_il3n (pc := 38) C dX12_goBeside_38 ?_
    refine g_bipush (pc := 39) (v := 10) C dX12_goBeside_39 (by decide) ?_
    refine g_irem (pc := 41) C dX12_goBeside_41 (by decide) ?_
    refine g_iadd (pc := 42) C dX12_goBeside_42 ?_
    refine s_putI (pc := 43) C pX12_204 h135 rfl dX12_goBeside_43 ?_
    refine g_al0n (pc := 46) C dX12_goBeside_46 ?_
    refine g_dup (pc := 47) C dX12_goBeside_47 rfl ?_
    refine s_getI (pc := 48) C fX12_208 h135 rfl dX12_goBeside_48 ?_
    refine g_il3n (pc := 51) C dX12_goBeside_51 ?_
    refine g_bipush (pc := 52) (v := 10) C dX12_goBeside_52 (by decide) ?_
    refine g_idiv (pc := 54) C dX12_goBeside_54 (by decide) ?_
    refine g_iadd (pc := 55) C dX12_goBeside_55 ?_
    refine s_putI (pc := 56) C pX12_208 h135 rfl dX12_goBeside_56 ?_
    refine g_ii2 (pc := 59) (v := nI (i + 1)) C dX12_goBeside_59 (nI_inc1 _) ?_
    refine g_goto (pc := 62) (tgt := 23) C dX12_goBeside_62 (by decide) ?_
    exact ih (i + 1) _ _ (by omega) (GB_s hv hv_g h136 hE rfl)

theorem c_X12_goBeside {d : Nat} (hd : 9 ≤ d) (σ : Sg) (hI : INV (σ 136)) (ht : MT σ) {m n : Nat} (h0 : σ 136 0 = nI m) (hmn : m + n ≤ 5000) : CQ d mX12_goBeside [.ref 135, .int (nI n)] σ (GD σ n) := by
  refine con_of (by decide) (catL rfl) (Nat.le_of_ble_eq_true rfl) ?_
  intro μ ω C hr
  have C : Cx μ ω "TowFieldModel" cX12_goBeside 4 d := C
  have hr : (mH μ).sig.returnType = none := hr
  show G μ ω (RQ μ ω (pQ (GD σ n))) 0 [some (.ref 135), some (.int (nI n)), none, none] [] (mk σ) 0 0
  refine g_al0n (pc := 0) C dX12_goBeside_0 ?_
  refine s_getR (pc := 1) C fX12_9 h135 rfl dX12_goBeside_1 ?_
  refine g_al0n (pc := 4) C dX12_goBeside_4 ?_
  refine s_getR (pc := 5) C fX12_16 h135 rfl dX12_goBeside_5 ?_
  refine s_SU (pc := 8) (st := []) C (c_copy_136_138 (d := d - 1) (by omega) σ (fun j hj => by rw [hI.tail j hj, ht j hj])) (by omega) lX12_200 dX12_goBeside_8 rfl (Nat.le_of_ble_eq_true rfl) rfl ?_
  refine g_al0n (pc := 11) C dX12_goBeside_11 ?_
  refine g_iconst (pc := 12) (v := 0) C dX12_goBeside_12 (by decide) ?_
  refine s_putI (pc := 13) C pX12_204 h135 rfl dX12_goBeside_13 ?_
  refine g_al0n (pc := 16) C dX12_goBeside_16 ?_
  refine g_iconst (pc := 17) (v := 0) C dX12_goBeside_17 (by decide) ?_
  refine s_putI (pc := 18) C pX12_208 h135 rfl dX12_goBeside_18 ?_
  refine g_iconst (pc := 21) (v := 0) C dX12_goBeside_21 (by decide) ?_
  refine g_is2n (pc := 22) C dX12_goBeside_22 ?_
  exact lp_X12_goBeside hd C hr σ hI h0 hmn n 0 _ none (by omega) (GB_0 rfl)

theorem m_ahead {d : Nat} (hd : 10 ≤ d) (σ : Sg) (hI : INV (σ 136)) (ht : MT σ) (hm : ∃ m, m ≤ 900 ∧ σ 136 0 = nI m) (n w : Int32) : CP d mX12_ahead [.ref 135, .int n, .int w] σ (MPo σ (sp_ahead (mv σ) n w)) := by
  obtain ⟨m, hm, h0⟩ := hm
  refine con_of (by decide) (catL rfl) (Nat.le_of_ble_eq_true rfl) ?_
  intro μ ω C hr
  have C : Cx μ ω "TowFieldModel" cX12_ahead 3 d := C
  have hr : (mH μ).sig.returnType = some .int := hr
  show G μ ω (RQ μ ω (pP (MPo σ (sp_ahead (mv σ) n w)))) 0 [some (.ref 135), some (.int n), some (.int w)] [] (mk σ) 0 0
  refine g_il1n (pc := 0) C dX12_ahead_0 ?_
  refine g_iconst (pc := 1) (v := 0) C dX12_ahead_1 (by decide) ?_
  refine g_sipush (pc := 2) (v := 200) C dX12_ahead_2 (by decide) ?_
  refine s_SB (pc := 5) (st := []) C (c_X12_within (d := d - 1) (by omega) σ n 0 200) (by omega) lX12_58 dX12_ahead_5 rfl (Nat.le_of_ble_eq_true rfl) rfl (fun b_5 => ?_) (fun b_5 => ?_)
  · obtain ⟨j, hj, rfl⟩ := rgL b_5 (by decide) (B := 200) (by decide)
    have kj : (nI j).toNatClampNeg = j := nI_clamp (by omega)
    refine g_if_eq (pc := 8) (tgt := 20) C dX12_ahead_8 (by decide) (fun c => absurd c (by decide)) (fun _ => ?_)
    refine g_il2n (pc := 11) C dX12_ahead_11 ?_
    refine g_iconst (pc := 12) (v := 0) C dX12_ahead_12 (by decide) ?_
    refine g_iconst (pc := 13) (v := 3) C dX12_ahead_13 (by decide) ?_
    refine s_SB (pc := 14) (st := []) C (c_X12_within (d := d - 1) (by omega) σ w 0 3) (by omega) lX12_58 dX12_ahead_14 rfl (Nat.le_of_ble_eq_true rfl) rfl (fun b_14 => ?_) (fun b_14 => ?_)
    · refine g_if_ne (pc := 17) (tgt := 27) C dX12_ahead_17 (by decide) (fun _ => ?_) (fun c => absurd c (by decide))
      refine g_al0n (pc := 27) C dX12_ahead_27 ?_
      refine g_il1n (pc := 28) C dX12_ahead_28 ?_
      refine s_VQ (pc := 29) (st := []) C h135 rfl (c_X12_goBeside (d := d - 1) (by omega) σ hI ht h0 (n := j) (by omega)) (by omega) lX12_220 dX12_ahead_29 rfl (Nat.le_of_ble_eq_true rfl) rfl (fun τ hg => ?_)
      obtain ⟨g1, g2, g3, g4, g5, g6, g7⟩ := hg
      refine g_il2n (pc := 32) C dX12_ahead_32 ?_
      refine g_if_ne (pc := 33) (tgt := 43) C dX12_ahead_33 (by decide) (fun c_33 => ?_) (fun c_33 => ?_)
      · refine g_il2n (pc := 43) C dX12_ahead_43 ?_
        refine g_iconst (pc := 44) (v := 1) C dX12_ahead_44 (by decide) ?_
        refine g_icmp_ne (pc := 45) (tgt := 55) C dX12_ahead_45 (by decide) (fun c_45 => ?_) (fun c_45 => ?_)
        · refine g_il2n (pc := 55) C dX12_ahead_55 ?_
          refine g_iconst (pc := 56) (v := 2) C dX12_ahead_56 (by decide) ?_
          refine g_icmp_ne (pc := 57) (tgt := 67) C dX12_ahead_57 (by decide) (fun c_57 => ?_) (fun c_57 => ?_)
          · refine g_al0n (pc := 67) C dX12_ahead_67 ?_
            refine s_getI (pc := 68) C fX12_217 h135 rfl dX12_ahead_68 ?_
            refine r_P C hr dX12_ahead_71 ⟨?_, ?_, g6, fun _ => g7⟩
            · simp only [sp_ahead, mv, aN, FB, fnd, g1, g2, g3, g4, b_5, b_14, c_33, c_45, c_57, kj, eq_self, ne_eq, not_true_eq_false, not_false_eq_true, Classical.not_not, decide_true, decide_false, and_true, true_and, and_false, false_and, and_self, or_true, true_or, or_false, false_or, or_self, if_true, if_false, ite_true, ite_false, Bool.eq_false_iff, Bool.not_eq_eq_eq_not, Bool.true_eq_false, Bool.false_eq_true, reduceCtorEq]
            · rw [g5]; simp only [sp_ahead, mv, aN, FB, fnd, b_5, b_14, c_33, c_45, c_57, kj, eq_self, ne_eq, not_true_eq_false, not_false_eq_true, Classical.not_not, decide_true, decide_false, and_true, true_and, and_false, false_and, and_self, or_true, true_or, or_false, false_or, or_self, if_true, if_false, ite_true, ite_false, Bool.eq_false_iff, Bool.not_eq_eq_eq_not, Bool.true_eq_false, Bool.false_eq_true, reduceCtorEq]
          · refine g_al0n (pc := 60) C dX12_ahead_60 ?_
            refine s_getI (pc := 61) C fX12_214 h135 rfl dX12_ahead_61 ?_
            refine g_goto (pc := 64) (tgt := 71) C dX12_ahead_64 (by decide) ?_
            refine r_P C hr dX12_ahead_71 ⟨?_, ?_, g6, fun _ => g7⟩
            · simp only [sp_ahead, mv, aN, FB, fnd, g1, g2, g3, g4, b_5, b_14, c_33, c_45, eq_true c_57, kj, eq_self, ne_eq, not_true_eq_false, not_false_eq_true, Classical.not_not, decide_true, decide_false, and_true, true_and, and_false, false_and, and_self, or_true, true_or, or_false, false_or, or_self, if_true, if_false, ite_true, ite_false, Bool.eq_false_iff, Bool.not_eq_eq_eq_not, Bool.true_eq_false, Bool.false_eq_true, reduceCtorEq]
            · rw [g5]; simp only [sp_ahead, mv, aN, FB, fnd, b_5, b_14, c_33, c_45, eq_true c_57, kj, eq_self, ne_eq, not_true_eq_false, not_false_eq_true, Classical.not_not, decide_true, decide_false, and_true, true_and, and_false, false_and, and_self, or_true, true_or, or_false, false_or, or_self, if_true, if_false, ite_true, ite_false, Bool.eq_false_iff, Bool.not_eq_eq_eq_not, Bool.true_eq_false, Bool.false_eq_true, reduceCtorEq]
        · refine g_al0n (pc := 48) C dX12_ahead_48 ?_
          refine s_getI (pc := 49) C fX12_208 h135 rfl dX12_ahead_49 ?_
          refine g_goto (pc := 52) (tgt := 71) C dX12_ahead_52 (by decide) ?_
          refine r_P C hr dX12_ahead_71 ⟨?_, ?_, g6, fun _ => g7⟩
          · simp only [sp_ahead, mv, aN, FB, fnd, g1, g2, g3, g4, b_5, b_14, c_33, eq_true c_45, kj, eq_self, ne_eq, not_true_eq_false, not_false_eq_true, Classical.not_not, decide_true, decide_false, and_true, true_and, and_false, false_and, and_self, or_true, true_or, or_false, false_or, or_self, if_true, if_false, ite_true, ite_false, Bool.eq_false_iff, Bool.not_eq_eq_eq_not, Bool.true_eq_false, Bool.false_eq_true, reduceCtorEq]
          · rw [g5]; simp only [sp_ahead, mv, aN, FB, fnd, b_5, b_14, c_33, eq_true c_45, kj, eq_self, ne_eq, not_true_eq_false, not_false_eq_true, Classical.not_not, decide_true, decide_false, and_true, true_and, and_false, false_and, and_self, or_true, true_or, or_false, false_or, or_self, if_true, if_false, ite_true, ite_false, Bool.eq_false_iff, Bool.not_eq_eq_eq_not, Bool.true_eq_false, Bool.false_eq_true, reduceCtorEq]
      · refine g_al0n (pc := 36) C dX12_ahead_36 ?_
        refine s_getI (pc := 37) C fX12_204 h135 rfl dX12_ahead_37 ?_
        refine g_goto (pc := 40) (tgt := 71) C dX12_ahead_40 (by decide) ?_
        refine r_P C hr dX12_ahead_71 ⟨?_, ?_, g6, fun _ => g7⟩
        · simp only [sp_ahead, mv, aN, FB, fnd, g1, g2, g3, g4, b_5, b_14, eq_true c_33, kj, eq_self, ne_eq, not_true_eq_false, not_false_eq_true, Classical.not_not, decide_true, decide_false, and_true, true_and, and_false, false_and, and_self, or_true, true_or, or_false, false_or, or_self, if_true, if_false, ite_true, ite_false, Bool.eq_false_iff, Bool.not_eq_eq_eq_not, Bool.true_eq_false, Bool.false_eq_true, reduceCtorEq]
        · rw [g5]; simp only [sp_ahead, mv, aN, FB, fnd, b_5, b_14, eq_true c_33, kj, eq_self, ne_eq, not_true_eq_false, not_false_eq_true, Classical.not_not, decide_true, decide_false, and_true, true_and, and_false, false_and, and_self, or_true, true_or, or_false, false_or, or_self, if_true, if_false, ite_true, ite_false, Bool.eq_false_iff, Bool.not_eq_eq_eq_not, Bool.true_eq_false, Bool.false_eq_true, reduceCtorEq]
    · refine g_if_ne (pc := 17) (tgt := 27) C dX12_ahead_17 (by decide) (fun c => absurd c (by decide)) (fun _ => ?_)
      refine g_al0n (pc := 20) C dX12_ahead_20 ?_
      refine g_ldc (pc := 21) C dX12_ahead_21 kX12_57 ?_
      refine s_VI (pc := 23) (st := []) C h135 rfl (c_X12_finding (d := d - 1) (by omega) σ (i := 0) (by decide) (w := ((-1000001))) (by decide)) (by omega) lX12_62 dX12_ahead_23 rfl (Nat.le_of_ble_eq_true rfl) rfl ?_
      refine r_P C hr dX12_ahead_26 ⟨?_, ?_, ?_, ?_⟩
      · first | (simp only [sp_ahead, FB, FF, FK, FN, FS, FM, FZ, fnd, becS, bitS, sN, mv, aN, aF, aK, aH, aT, aS, aW, aZ, aU, b_5, b_14, kj, eq_self, ne_eq, not_true_eq_false, not_false_eq_true, Classical.not_not, decide_true, decide_false, and_true, true_and, and_false, false_and, and_self, or_true, true_or, or_false, false_or, or_self, if_true, if_false, ite_true, ite_false, Bool.eq_false_iff, Bool.not_eq_eq_eq_not, Bool.true_eq_false, Bool.false_eq_true, reduceCtorEq]; done) | (simp only [sp_ahead, FB, FF, FK, FN, FS, FM, FZ, fnd, becS, bitS, sN, mv, aN, aF, aK, aH, aT, aS, aW, aZ, aU, b_5, b_14, kj, eq_self, ne_eq, not_true_eq_false, not_false_eq_true, Classical.not_not, decide_true, decide_false, and_true, true_and, and_false, false_and, and_self, or_true, true_or, or_false, false_or, or_self, if_true, if_false, ite_true, ite_false, Bool.eq_false_iff, Bool.not_eq_eq_eq_not, Bool.true_eq_false, Bool.false_eq_true, reduceCtorEq]; rfl) | (simp [becS, bitS, sp_ahead, FB, FF, FK, FN, FS, FM, FZ, fnd, mv, aN, b_5, b_14, kj]; done)
      · try simp only [mv_now, mv_fnd, mv_tap, mv_kep]
        first | (simp only [up_at, sN, becS, bitS, sp_ahead, FB, FF, FK, FN, FS, FM, FZ, fnd, mv, aN, aF, aK, aH, aT, aS, aW, aZ, aU, b_5, b_14, kj, eq_self, ne_eq, not_true_eq_false, not_false_eq_true, Classical.not_not, decide_true, decide_false, and_true, true_and, and_false, false_and, and_self, or_true, true_or, or_false, false_or, or_self, if_true, if_false, ite_true, ite_false, Bool.eq_false_iff, Bool.not_eq_eq_eq_not, Bool.true_eq_false, Bool.false_eq_true, reduceCtorEq]; done) | (simp only [up_at, sN, becS, bitS, sp_ahead, FB, FF, FK, FN, FS, FM, FZ, fnd, mv, aN, aF, aK, aH, aT, aS, aW, aZ, aU, b_5, b_14, kj, eq_self, ne_eq, not_true_eq_false, not_false_eq_true, Classical.not_not, decide_true, decide_false, and_true, true_and, and_false, false_and, and_self, or_true, true_or, or_false, false_or, or_self, if_true, if_false, ite_true, ite_false, Bool.eq_false_iff, Bool.not_eq_eq_eq_not, Bool.true_eq_false, Bool.false_eq_true, reduceCtorEq]; rfl) | (simp [mv_now, mv_fnd, up_at, sN, becS, bitS, sp_ahead, FB, FF, FK, FN, FS, FM, FZ, fnd, mv, aN, b_5, b_14, kj]; done)
      · repeat first | exact (fun _ _ => rfl) | refine frU (by decide) ?_
      · repeat first | exact id | refine mtU (by decide) ?_
  · refine g_if_eq (pc := 8) (tgt := 20) C dX12_ahead_8 (by decide) (fun _ => ?_) (fun c => absurd c (by decide))
    refine g_al0n (pc := 20) C dX12_ahead_20 ?_
    refine g_ldc (pc := 21) C dX12_ahead_21 kX12_57 ?_
    refine s_VI (pc := 23) (st := []) C h135 rfl (c_X12_finding (d := d - 1) (by omega) σ (i := 0) (by decide) (w := ((-1000001))) (by decide)) (by omega) lX12_62 dX12_ahead_23 rfl (Nat.le_of_ble_eq_true rfl) rfl ?_
    refine r_P C hr dX12_ahead_26 ⟨?_, ?_, ?_, ?_⟩
    · first | (simp only [sp_ahead, FB, FF, FK, FN, FS, FM, FZ, fnd, becS, bitS, sN, mv, aN, aF, aK, aH, aT, aS, aW, aZ, aU, b_5, eq_self, ne_eq, not_true_eq_false, not_false_eq_true, Classical.not_not, decide_true, decide_false, and_true, true_and, and_false, false_and, and_self, or_true, true_or, or_false, false_or, or_self, if_true, if_false, ite_true, ite_false, Bool.eq_false_iff, Bool.not_eq_eq_eq_not, Bool.true_eq_false, Bool.false_eq_true, reduceCtorEq]; done) | (simp only [sp_ahead, FB, FF, FK, FN, FS, FM, FZ, fnd, becS, bitS, sN, mv, aN, aF, aK, aH, aT, aS, aW, aZ, aU, b_5, eq_self, ne_eq, not_true_eq_false, not_false_eq_true, Classical.not_not, decide_true, decide_false, and_true, true_and, and_false, false_and, and_self, or_true, true_or, or_false, false_or, or_self, if_true, if_false, ite_true, ite_false, Bool.eq_false_iff, Bool.not_eq_eq_eq_not, Bool.true_eq_false, Bool.false_eq_true, reduceCtorEq]; rfl) | (simp [becS, bitS, sp_ahead, FB, FF, FK, FN, FS, FM, FZ, fnd, mv, aN, b_5]; done)
    · try simp only [mv_now, mv_fnd, mv_tap, mv_kep]
      first | (simp only [up_at, sN, becS, bitS, sp_ahead, FB, FF, FK, FN, FS, FM, FZ, fnd, mv, aN, aF, aK, aH, aT, aS, aW, aZ, aU, b_5, eq_self, ne_eq, not_true_eq_false, not_false_eq_true, Classical.not_not, decide_true, decide_false, and_true, true_and, and_false, false_and, and_self, or_true, true_or, or_false, false_or, or_self, if_true, if_false, ite_true, ite_false, Bool.eq_false_iff, Bool.not_eq_eq_eq_not, Bool.true_eq_false, Bool.false_eq_true, reduceCtorEq]; done) | (simp only [up_at, sN, becS, bitS, sp_ahead, FB, FF, FK, FN, FS, FM, FZ, fnd, mv, aN, aF, aK, aH, aT, aS, aW, aZ, aU, b_5, eq_self, ne_eq, not_true_eq_false, not_false_eq_true, Classical.not_not, decide_true, decide_false, and_true, true_and, and_false, false_and, and_self, or_true, true_or, or_false, false_or, or_self, if_true, if_false, ite_true, ite_false, Bool.eq_false_iff, Bool.not_eq_eq_eq_not, Bool.true_eq_false, Bool.false_eq_true, reduceCtorEq]; rfl) | (simp [mv_now, mv_fnd, up_at, sN, becS, bitS, sp_ahead, FB, FF, FK, FN, FS, FM, FZ, fnd, mv, aN, b_5]; done)
    · repeat first | exact (fun _ _ => rfl) | refine frU (by decide) ?_
    · repeat first | exact id | refine mtU (by decide) ?_

theorem m_late {d : Nat} (hd : 10 ≤ d) (σ : Sg) (hI : INV (σ 136)) (ht : MT σ) (hm : ∃ m, m ≤ 900 ∧ σ 136 0 = nI m) (n : Int32) : CP d mX12_late [.ref 135, .int n] σ (MPo σ (sp_late (mv σ) n)) := by
  obtain ⟨m, hm, h0⟩ := hm
  refine con_of (by decide) (catL rfl) (Nat.le_of_ble_eq_true rfl) ?_
  intro μ ω C hr
  have C : Cx μ ω "TowFieldModel" cX12_late 2 d := C
  have hr : (mH μ).sig.returnType = some .int := hr
  show G μ ω (RQ μ ω (pP (MPo σ (sp_late (mv σ) n)))) 0 [some (.ref 135), some (.int n)] [] (mk σ) 0 0
  refine g_il1n (pc := 0) C dX12_late_0 ?_
  refine g_al0n (pc := 1) C dX12_late_1 ?_
  refine s_getR (pc := 2) C fX12_9 h135 rfl dX12_late_2 ?_
  refine g_iconst (pc := 5) (v := 0) C dX12_late_5 (by decide) ?_
  refine s_iald (pc := 6) (q := 0) C h136 rfl (by omega) (Nat.le_of_ble_eq_true rfl) dX12_late_6 ?_
  refine g_al0n (pc := 7) C dX12_late_7 ?_
  refine s_getR (pc := 8) C fX12_9 h135 rfl dX12_late_8 ?_
  refine g_iconst (pc := 11) (v := 0) C dX12_late_11 (by decide) ?_
  refine s_iald (pc := 12) (q := 0) C h136 rfl (by omega) (Nat.le_of_ble_eq_true rfl) dX12_late_12 ?_
  refine g_sipush (pc := 13) (v := 200) C dX12_late_13 (by decide) ?_
  refine g_iadd (pc := 16) C dX12_late_16 ?_
  refine s_SB (pc := 17) (st := []) C (c_X12_within (d := d - 1) (by omega) σ n (σ 136 0) ((σ 136 0) + 200)) (by omega) lX12_58 dX12_late_17 rfl (Nat.le_of_ble_eq_true rfl) rfl (fun b_17 => ?_) (fun b_17 => ?_)
  · refine g_if_ne (pc := 20) (tgt := 30) C dX12_late_20 (by decide) (fun _ => ?_) (fun c => absurd c (by decide))
    have b0 := b_17
    rw [h0] at b_17
    obtain ⟨j, hj, e⟩ := rgL (B := m + 200) ⟨b_17.1, by have := b_17.2; rw [show (200 : Int32) = nI 200 from rfl, nI_add] at this; exact this⟩ (nI_pos' (by omega)) (by omega)
    subst e
    have hmj : m ≤ j := (nI_leI (by omega) (by omega)).mp b_17.1
    have ew : nI j - σ 136 0 + 1 = nI (j - m + 1) := by rw [h0, nI_sub hmj]; exact nI_1 _
    have ec : (nI j - σ 136 0 + 1).toNatClampNeg = j - m + 1 := by rw [ew, nI_clamp (by omega)]
    refine g_al0n (pc := 30) C dX12_late_30 ?_
    refine g_il1n (pc := 31) C dX12_late_31 ?_
    refine g_al0n (pc := 32) C dX12_late_32 ?_
    refine s_getR (pc := 33) C fX12_9 h135 rfl dX12_late_33 ?_
    refine g_iconst (pc := 36) (v := 0) C dX12_late_36 (by decide) ?_
    refine s_iald (pc := 37) (q := 0) C h136 rfl (by omega) (Nat.le_of_ble_eq_true rfl) dX12_late_37 ?_
    refine g_isub (pc := 38) C dX12_late_38 ?_
    refine g_iconst (pc := 39) (v := 1) C dX12_late_39 (by decide) ?_
    refine g_iadd (pc := 40) C dX12_late_40 ?_
    refine s_VQ (pc := 41) (st := []) C h135 rfl (show CQ (d - 1) mX12_goBeside [.ref 135, .int (nI j - σ 136 0 + 1)] σ (GD σ (j - m + 1)) from by rw [ew]; exact c_X12_goBeside (d := d - 1) (by omega) σ hI ht h0 (by omega)) (by omega) lX12_220 dX12_late_41 rfl (Nat.le_of_ble_eq_true rfl) rfl (fun τ hg => ?_)
    obtain ⟨g1, g2, g3, g4, g5, g6, g7⟩ := hg
    refine g_al0n (pc := 44) C dX12_late_44 ?_
    refine s_getI (pc := 45) C fX12_217 h135 rfl dX12_late_45 ?_
    refine r_P C hr dX12_late_48 ⟨?_, ?_, g6, fun _ => g7⟩
    · simp only [sp_late, mv, aN, FB, fnd, g4, b0, ec, eq_self, ne_eq, not_true_eq_false, not_false_eq_true, Classical.not_not, decide_true, decide_false, and_true, true_and, and_false, false_and, and_self, or_true, true_or, or_false, false_or, or_self, if_true, if_false, ite_true, ite_false, Bool.eq_false_iff, Bool.not_eq_eq_eq_not, Bool.true_eq_false, Bool.false_eq_true, reduceCtorEq]
    · rw [g5]; simp only [sp_late, mv, aN, FB, fnd, b0, ec, eq_self, ne_eq, not_true_eq_false, not_false_eq_true, Classical.not_not, decide_true, decide_false, and_true, true_and, and_false, false_and, and_self, or_true, true_or, or_false, false_or, or_self, if_true, if_false, ite_true, ite_false, Bool.eq_false_iff, Bool.not_eq_eq_eq_not, Bool.true_eq_false, Bool.false_eq_true, reduceCtorEq]
  · refine g_if_ne (pc := 20) (tgt := 30) C dX12_late_20 (by decide) (fun c => absurd c (by decide)) (fun _ => ?_)
    refine g_al0n (pc := 23) C dX12_late_23 ?_
    refine g_ldc (pc := 24) C dX12_late_24 kX12_57 ?_
    refine s_VI (pc := 26) (st := []) C h135 rfl (c_X12_finding (d := d - 1) (by omega) σ (i := 0) (by decide) (w := ((-1000001))) (by decide)) (by omega) lX12_62 dX12_late_26 rfl (Nat.le_of_ble_eq_true rfl) rfl ?_
    refine r_P C hr dX12_late_29 ⟨?_, ?_, ?_, ?_⟩
    · first | (simp only [sp_late, FB, FF, FK, FN, FS, FM, FZ, fnd, becS, bitS, sN, mv, aN, aF, aK, aH, aT, aS, aW, aZ, aU, b_17, eq_self, ne_eq, not_true_eq_false, not_false_eq_true, Classical.not_not, decide_true, decide_false, and_true, true_and, and_false, false_and, and_self, or_true, true_or, or_false, false_or, or_self, if_true, if_false, ite_true, ite_false, Bool.eq_false_iff, Bool.not_eq_eq_eq_not, Bool.true_eq_false, Bool.false_eq_true, reduceCtorEq]; done) | (simp only [sp_late, FB, FF, FK, FN, FS, FM, FZ, fnd, becS, bitS, sN, mv, aN, aF, aK, aH, aT, aS, aW, aZ, aU, b_17, eq_self, ne_eq, not_true_eq_false, not_false_eq_true, Classical.not_not, decide_true, decide_false, and_true, true_and, and_false, false_and, and_self, or_true, true_or, or_false, false_or, or_self, if_true, if_false, ite_true, ite_false, Bool.eq_false_iff, Bool.not_eq_eq_eq_not, Bool.true_eq_false, Bool.false_eq_true, reduceCtorEq]; rfl) | (simp [becS, bitS, sp_late, FB, FF, FK, FN, FS, FM, FZ, fnd, mv, aN, b_17]; done)
    · try simp only [mv_now, mv_fnd, mv_tap, mv_kep]
      first | (simp only [up_at, sN, becS, bitS, sp_late, FB, FF, FK, FN, FS, FM, FZ, fnd, mv, aN, aF, aK, aH, aT, aS, aW, aZ, aU, b_17, eq_self, ne_eq, not_true_eq_false, not_false_eq_true, Classical.not_not, decide_true, decide_false, and_true, true_and, and_false, false_and, and_self, or_true, true_or, or_false, false_or, or_self, if_true, if_false, ite_true, ite_false, Bool.eq_false_iff, Bool.not_eq_eq_eq_not, Bool.true_eq_false, Bool.false_eq_true, reduceCtorEq]; done) | (simp only [up_at, sN, becS, bitS, sp_late, FB, FF, FK, FN, FS, FM, FZ, fnd, mv, aN, aF, aK, aH, aT, aS, aW, aZ, aU, b_17, eq_self, ne_eq, not_true_eq_false, not_false_eq_true, Classical.not_not, decide_true, decide_false, and_true, true_and, and_false, false_and, and_self, or_true, true_or, or_false, false_or, or_self, if_true, if_false, ite_true, ite_false, Bool.eq_false_iff, Bool.not_eq_eq_eq_not, Bool.true_eq_false, Bool.false_eq_true, reduceCtorEq]; rfl) | (simp [mv_now, mv_fnd, up_at, sN, becS, bitS, sp_late, FB, FF, FK, FN, FS, FM, FZ, fnd, mv, aN, b_17]; done)
    · repeat first | exact (fun _ _ => rfl) | refine frU (by decide) ?_
    · repeat first | exact id | refine mtU (by decide) ?_

theorem chkS_s (ν f : Nu) (k n : Nat) : chkS ν f k (n + 1) = if wentS ν k = f k then chkS ν f (k + 1) n else k := rfl
def CKp (σ : Sg) (i : Nat) (τ : Sg) : Prop := τ 136 = runS (σ 136) i ∧ τ 138 = σ 136 ∧ Eqx [136, 138, 143] σ τ
theorem CK_e {σ τ τ' : Sg} {i : Nat} (hI : INV (σ 136)) (h : CKp σ i τ) (h' : τ' = sup τ 136 (τ 138)) : mv τ' = mv σ ∧ (∀ k, k < 135 → τ' k = σ k) ∧ MT τ' := by
  obtain ⟨a1, a2, a3⟩ := h
  subst h'
  refine ⟨?_, ?_, ?_⟩
  · show (τ 138, τ 137, τ 135 3, τ 139, τ 140, τ 135 6, τ 144, τ 145, τ 146) = _
    rw [a2, a3 137 (by decide), a3 135 (by decide), a3 139 (by decide), a3 140 (by decide), a3 144 (by decide), a3 145 (by decide), a3 146 (by decide)]; rfl
  · intro k hk
    rw [sup_apply, if_neg (by omega)]
    exact a3 k (by simp; omega)
  · intro j hj
    show τ 138 j = 0
    rw [a2]; exact hI.tail j hj
theorem CK_s {σ τ t1 : Sg} {i : Nat} (h : CKp σ i τ) (h1 : t1 136 = (minS (τ 136)).2) (hE : Eqx [136, 143] τ t1) : CKp σ (i + 1) t1 :=
  ⟨by rw [h1, h.1]; rfl, by rw [hE 138 (by decide), h.2.1], fun k hk => by
    rw [hE k (by simp at hk ⊢; omega)]; exact h.2.2 k hk⟩
theorem lp_chk {μ : Mx} {ω : Om} {d : Nat} (hd : 9 ≤ d) (C : Cx μ ω "TowFieldModel" cX12_check 3 d) (hr : (mH μ).sig.returnType = some .int) (σ : Sg) (hI : INV (σ 136)) {m s n r : Nat} (hs : s < 4) (hn : n ≤ 24) (hz : σ 145 s = nI n) (h0 : σ 136 0 = nI m) (hmn : m + n ≤ 5000) (Φ : Int32 → Sg → Prop) (hΦ : ∀ v τ', (v = nI r ∧ mv τ' = mv σ ∧ (∀ k, k < 135 → τ' k = σ k) ∧ MT τ') → Φ v τ') : ∀ (f i : Nat) (τ : Sg), i + f = n → (CKp σ i τ) → (chkS (σ 136) (fun k => σ 146 (24 * s + k)) i f = r) → G μ ω (RQ μ ω (pP Φ)) 44 [some (.ref 135), some (.int (nI s)), some (.int (nI i))] [] (mk τ) 0 0 := by
  have hn31 : n < 2 ^ 31 := by omega
  intro f
  induction f with
  | zero =>
    intro i τ hif hv hv1
    have hin : i = n := by omega
    have e145 : τ 145 = σ 145 := hv.2.2 145 (by decide)
    have hIτ : INV (τ 136) := by rw [hv.1]; exact (INV_run hI h0 i (by omega)).1
    refine g_il2n (pc := 44) C dX12_check_44 ?_
    refine g_al0n (pc := 45) C dX12_check_45 ?_
    refine s_getR (pc := 46) C fX12_48 h135 rfl dX12_check_46 ?_
    refine g_il1n (pc := 49) C dX12_check_49 ?_
    refine s_iald (pc := 50) (q := s) C h145 rfl (by omega) (Nat.le_of_ble_eq_true rfl) dX12_check_50 ?_
    refine g_icmp_geL (pc := 51) (tgt := 78) C dX12_check_51 (by decide) (fun c_51 => ?_) (fun c_51 => absurd c_51 (by rw [e145, hz]; exact nI_nlt (by omega) (by omega)))
    refine g_al0n (pc := 78) C dX12_check_78 ?_
    refine s_getR (pc := 79) C fX12_16 h135 rfl dX12_check_79 ?_
    refine g_al0n (pc := 82) C dX12_check_82 ?_
    refine s_getR (pc := 83) C fX12_9 h135 rfl dX12_check_83 ?_
    refine s_SU (pc := 86) (st := []) C (c_copy_138_136 (d := d - 1) (by omega) τ (fun j hj => by show τ 138 j = τ 136 j; rw [hv.2.1, hI.tail j hj, hIτ.tail j hj])) (by omega) lX12_200 dX12_check_86 rfl (Nat.le_of_ble_eq_true rfl) rfl ?_
    refine g_il2n (pc := 89) C dX12_check_89 ?_
    exact r_P C hr dX12_check_90 (hΦ _ _ ⟨by rw [← hv1]; rfl, CK_e hI hv rfl⟩)
  | succ f ih =>
    intro i τ hif hv hv1
    have e145 : τ 145 = σ 145 := hv.2.2 145 (by decide)
    have hIτ : INV (τ 136) := by rw [hv.1]; exact (INV_run hI h0 i (by omega)).1
    refine g_il2n (pc := 44) C dX12_check_44 ?_
    refine g_al0n (pc := 45) C dX12_check_45 ?_
    refine s_getR (pc := 46) C fX12_48 h135 rfl dX12_check_46 ?_
    refine g_il1n (pc := 49) C dX12_check_49 ?_
    refine s_iald (pc := 50) (q := s) C h145 rfl (by omega) (Nat.le_of_ble_eq_true rfl) dX12_check_50 ?_
    refine g_icmp_geL (pc := 51) (tgt := 78) C dX12_check_51 (by decide) (fun c_51 => absurd (by rw [e145, hz]; exact nI_lt (by omega) (by omega)) c_51) (fun c_51 => ?_)
    refine g_al0n (pc := 54) C dX12_check_54 ?_
    refine s_VP (pc := 55) (st := []) C h135 rfl (c_X12_goes (d := d - 1) (by omega) τ hIτ) (by omega) lX12_197 dX12_check_55 rfl (Nat.le_of_ble_eq_true rfl) rfl (fun v_g t1 hw_g => ?_)
    obtain ⟨hv_g, h136, hE⟩ := hw_g
    have hv2 : CKp σ (i + 1) t1 := CK_s hv h136 hE
    have hI2 : INV (t1 136) := by rw [hv2.1]; exact (INV_run hI h0 (i + 1) (by omega)).1
    have e146 : t1 146 = σ 146 := hv2.2.2 146 (by decide)
    have evg : v_g = wentS (σ 136) i := by rw [hv_g, hv.1]; rfl
    refine g_al0n (pc := 58) C dX12_check_58 ?_
    refine s_getR (pc := 59) C fX12_51 h135 rfl dX12_check_59 ?_
    refine g_bipush (pc := 62) (v := 24) C dX12_check_62 (by decide) ?_
    refine g_il1n (pc := 64) C dX12_check_64 ?_
    refine g_imul (pc := 65) C dX12_check_65 ?_
    refine g_il2n (pc := 66) C dX12_check_66 ?_
    refine g_iadd (pc := 67) C dX12_check_67 ?_
    refine s_iald (pc := 68) (q := 24 * s + i) C h146 (by first | (simp only [ixl, nI_add, pk_mul]; done) | rfl | decide) (by omega) (Nat.le_of_ble_eq_true rfl) dX12_check_68 ?_
    refine g_icmp_ne (pc := 69) (tgt := 78) C dX12_check_69 (by decide) (fun c_69 => ?_) (fun c_69 => ?_)
    · have hc : ¬ wentS (σ 136) i = σ 146 (24 * s + i) := by rw [← evg, ← e146]; exact c_69
      rw [chkS_s, if_neg hc] at hv1
      refine g_al0n (pc := 78) C dX12_check_78 ?_
      refine s_getR (pc := 79) C fX12_16 h135 rfl dX12_check_79 ?_
      refine g_al0n (pc := 82) C dX12_check_82 ?_
      refine s_getR (pc := 83) C fX12_9 h135 rfl dX12_check_83 ?_
      refine s_SU (pc := 86) (st := []) C (c_copy_138_136 (d := d - 1) (by omega) t1 (fun j hj => by show t1 138 j = t1 136 j; rw [hv2.2.1, hI.tail j hj, hI2.tail j hj])) (by omega) lX12_200 dX12_check_86 rfl (Nat.le_of_ble_eq_true rfl) rfl ?_
      refine g_il2n (pc := 89) C dX12_check_89 ?_
      exact r_P C hr dX12_check_90 (hΦ _ _ ⟨by rw [← hv1], CK_e hI hv2 rfl⟩)
    · have hc : wentS (σ 136) i = σ 146 (24 * s + i) := by rw [← evg, ← e146]; exact c_69
      rw [chkS_s, if_pos hc] at hv1
      refine g_ii2 (pc := 72) (v := nI (i + 1)) C dX12_check_72 (nI_inc1 _) ?_
      refine g_goto (pc := 75) (tgt := 44) C dX12_check_75 (by decide) ?_
      exact ih (i + 1) t1 (by omega) hv2 hv1

theorem m_check {d : Nat} (hd : 9 ≤ d) (σ : Sg) (hI : INV (σ 136)) (ht : MT σ) (hm : ∃ m, m ≤ 900 ∧ σ 136 0 = nI m) (hZ : ∀ s, s < 4 → ∃ n, n ≤ 24 ∧ σ 145 s = nI n) (s : Int32) : CP d mX12_check [.ref 135, .int s] σ (MPo σ (sp_check (mv σ) s)) := by
  obtain ⟨m, hm, h0⟩ := hm
  refine con_of (by decide) (catL rfl) (Nat.le_of_ble_eq_true rfl) ?_
  intro μ ω C hr
  have C : Cx μ ω "TowFieldModel" cX12_check 3 d := C
  have hr : (mH μ).sig.returnType = some .int := hr
  show G μ ω (RQ μ ω (pP (MPo σ (sp_check (mv σ) s)))) 0 [some (.ref 135), some (.int s), none] [] (mk σ) 0 0
  refine g_il1n (pc := 0) C dX12_check_0 ?_
  refine s_SB (pc := 1) (st := []) C (c_X12_isSheet (d := d - 1) (by omega) σ s) (by omega) lX12_296 dX12_check_1 rfl (Nat.le_of_ble_eq_true rfl) rfl (fun b_1 => ?_) (fun b_1 => ?_)
  · obtain ⟨j, hj, rfl⟩ := rg b_1 (B := 3) (by decide)
    have kj : (nI j).toNatClampNeg = j := nI_clamp (by omega)
    refine g_if_ne (pc := 4) (tgt := 14) C dX12_check_4 (by decide) (fun _ => ?_) (fun c => absurd c (by decide))
    refine g_al0n (pc := 14) C dX12_check_14 ?_
    refine s_getR (pc := 15) C fX12_45 h135 rfl dX12_check_15 ?_
    refine g_il1n (pc := 18) C dX12_check_18 ?_
    refine s_iald (pc := 19) (q := j) C h144 rfl (by omega) (Nat.le_of_ble_eq_true rfl) dX12_check_19 ?_
    refine g_if_ne (pc := 20) (tgt := 31) C dX12_check_20 (by decide) (fun c_20 => ?_) (fun c_20 => ?_)
    · refine g_al0n (pc := 31) C dX12_check_31 ?_
      refine s_getR (pc := 32) C fX12_9 h135 rfl dX12_check_32 ?_
      refine g_al0n (pc := 35) C dX12_check_35 ?_
      refine s_getR (pc := 36) C fX12_16 h135 rfl dX12_check_36 ?_
      refine s_SU (pc := 39) (st := []) C (c_copy_136_138 (d := d - 1) (by omega) σ (fun j hj => by rw [hI.tail j hj, ht j hj])) (by omega) lX12_200 dX12_check_39 rfl (Nat.le_of_ble_eq_true rfl) rfl ?_
      refine g_iconst (pc := 42) (v := 0) C dX12_check_42 (by decide) ?_
      refine g_is2n (pc := 43) C dX12_check_43 ?_
      obtain ⟨z, hz24, hz⟩ := hZ j (by omega)
      have ez : (σ 145 j).toNatClampNeg = z := by rw [hz, nI_clamp (by omega)]
      refine lp_chk hd C hr σ hI (by omega) hz24 hz h0 (by omega) _ (fun v τ' q => ?_) z 0 _ (by omega) ⟨rfl, rfl, fun k hk => by rw [sup_apply, if_neg (by simp at hk; omega)]⟩ rfl
      obtain ⟨q1, q2, q3, q4⟩ := q
      refine ⟨?_, ?_, q3, fun _ => q4⟩
      · rw [q1]; simp only [sp_check, mv, aN, aW, aZ, aU, b_1, c_20, kj, ez, eq_self, ne_eq, not_true_eq_false, not_false_eq_true, Classical.not_not, decide_true, decide_false, and_true, true_and, and_false, false_and, and_self, or_true, true_or, or_false, false_or, or_self, if_true, if_false, ite_true, ite_false, Bool.eq_false_iff, Bool.not_eq_eq_eq_not, Bool.true_eq_false, Bool.false_eq_true, reduceCtorEq]
      · rw [q2]; simp only [sp_check, mv, aN, aW, aZ, aU, b_1, c_20, kj, ez, eq_self, ne_eq, not_true_eq_false, not_false_eq_true, Classical.not_not, decide_true, decide_false, and_true, true_and, and_false, false_and, and_self, or_true, true_or, or_false, false_or, or_self, if_true, if_false, ite_true, ite_false, Bool.eq_false_iff, Bool.not_eq_eq_eq_not, Bool.true_eq_false, Bool.false_eq_true, reduceCtorEq]
    · refine g_al0n (pc := 23) C dX12_check_23 ?_
      refine g_ldcw (pc := 24) C dX12_check_24 kX12_299 ?_
      refine s_VI (pc := 27) (st := []) C h135 rfl (c_X12_finding (d := d - 1) (by omega) σ (i := 5) (by decide) (w := ((-1000006))) (by decide)) (by omega) lX12_62 dX12_check_27 rfl (Nat.le_of_ble_eq_true rfl) rfl ?_
      refine r_P C hr dX12_check_30 ⟨?_, ?_, ?_, ?_⟩
      · first | (simp only [sp_check, FB, FF, FK, FN, FS, FM, FZ, fnd, becS, bitS, sN, mv, aN, aF, aK, aH, aT, aS, aW, aZ, aU, b_1, eq_true c_20, kj, eq_self, ne_eq, not_true_eq_false, not_false_eq_true, Classical.not_not, decide_true, decide_false, and_true, true_and, and_false, false_and, and_self, or_true, true_or, or_false, false_or, or_self, if_true, if_false, ite_true, ite_false, Bool.eq_false_iff, Bool.not_eq_eq_eq_not, Bool.true_eq_false, Bool.false_eq_true, reduceCtorEq]; done) | (simp only [sp_check, FB, FF, FK, FN, FS, FM, FZ, fnd, becS, bitS, sN, mv, aN, aF, aK, aH, aT, aS, aW, aZ, aU, b_1, eq_true c_20, kj, eq_self, ne_eq, not_true_eq_false, not_false_eq_true, Classical.not_not, decide_true, decide_false, and_true, true_and, and_false, false_and, and_self, or_true, true_or, or_false, false_or, or_self, if_true, if_false, ite_true, ite_false, Bool.eq_false_iff, Bool.not_eq_eq_eq_not, Bool.true_eq_false, Bool.false_eq_true, reduceCtorEq]; rfl) | (simp [becS, bitS, sp_check, FB, FF, FK, FN, FS, FM, FZ, fnd, mv, aN, b_1, eq_true c_20, kj]; done)
      · try simp only [mv_now, mv_fnd, mv_tap, mv_kep]
        first | (simp only [up_at, sN, becS, bitS, sp_check, FB, FF, FK, FN, FS, FM, FZ, fnd, mv, aN, aF, aK, aH, aT, aS, aW, aZ, aU, b_1, eq_true c_20, kj, eq_self, ne_eq, not_true_eq_false, not_false_eq_true, Classical.not_not, decide_true, decide_false, and_true, true_and, and_false, false_and, and_self, or_true, true_or, or_false, false_or, or_self, if_true, if_false, ite_true, ite_false, Bool.eq_false_iff, Bool.not_eq_eq_eq_not, Bool.true_eq_false, Bool.false_eq_true, reduceCtorEq]; done) | (simp only [up_at, sN, becS, bitS, sp_check, FB, FF, FK, FN, FS, FM, FZ, fnd, mv, aN, aF, aK, aH, aT, aS, aW, aZ, aU, b_1, eq_true c_20, kj, eq_self, ne_eq, not_true_eq_false, not_false_eq_true, Classical.not_not, decide_true, decide_false, and_true, true_and, and_false, false_and, and_self, or_true, true_or, or_false, false_or, or_self, if_true, if_false, ite_true, ite_false, Bool.eq_false_iff, Bool.not_eq_eq_eq_not, Bool.true_eq_false, Bool.false_eq_true, reduceCtorEq]; rfl) | (simp [mv_now, mv_fnd, up_at, sN, becS, bitS, sp_check, FB, FF, FK, FN, FS, FM, FZ, fnd, mv, aN, b_1, eq_true c_20, kj]; done)
      · repeat first | exact (fun _ _ => rfl) | refine frU (by decide) ?_
      · repeat first | exact id | refine mtU (by decide) ?_
  · refine g_if_ne (pc := 4) (tgt := 14) C dX12_check_4 (by decide) (fun c => absurd c (by decide)) (fun _ => ?_)
    refine g_al0n (pc := 7) C dX12_check_7 ?_
    refine g_ldc (pc := 8) C dX12_check_8 kX12_57 ?_
    refine s_VI (pc := 10) (st := []) C h135 rfl (c_X12_finding (d := d - 1) (by omega) σ (i := 0) (by decide) (w := ((-1000001))) (by decide)) (by omega) lX12_62 dX12_check_10 rfl (Nat.le_of_ble_eq_true rfl) rfl ?_
    refine r_P C hr dX12_check_13 ⟨?_, ?_, ?_, ?_⟩
    · first | (simp only [sp_check, FB, FF, FK, FN, FS, FM, FZ, fnd, becS, bitS, sN, mv, aN, aF, aK, aH, aT, aS, aW, aZ, aU, b_1, eq_self, ne_eq, not_true_eq_false, not_false_eq_true, Classical.not_not, decide_true, decide_false, and_true, true_and, and_false, false_and, and_self, or_true, true_or, or_false, false_or, or_self, if_true, if_false, ite_true, ite_false, Bool.eq_false_iff, Bool.not_eq_eq_eq_not, Bool.true_eq_false, Bool.false_eq_true, reduceCtorEq]; done) | (simp only [sp_check, FB, FF, FK, FN, FS, FM, FZ, fnd, becS, bitS, sN, mv, aN, aF, aK, aH, aT, aS, aW, aZ, aU, b_1, eq_self, ne_eq, not_true_eq_false, not_false_eq_true, Classical.not_not, decide_true, decide_false, and_true, true_and, and_false, false_and, and_self, or_true, true_or, or_false, false_or, or_self, if_true, if_false, ite_true, ite_false, Bool.eq_false_iff, Bool.not_eq_eq_eq_not, Bool.true_eq_false, Bool.false_eq_true, reduceCtorEq]; rfl) | (simp [becS, bitS, sp_check, FB, FF, FK, FN, FS, FM, FZ, fnd, mv, aN, b_1]; done)
    · try simp only [mv_now, mv_fnd, mv_tap, mv_kep]
      first | (simp only [up_at, sN, becS, bitS, sp_check, FB, FF, FK, FN, FS, FM, FZ, fnd, mv, aN, aF, aK, aH, aT, aS, aW, aZ, aU, b_1, eq_self, ne_eq, not_true_eq_false, not_false_eq_true, Classical.not_not, decide_true, decide_false, and_true, true_and, and_false, false_and, and_self, or_true, true_or, or_false, false_or, or_self, if_true, if_false, ite_true, ite_false, Bool.eq_false_iff, Bool.not_eq_eq_eq_not, Bool.true_eq_false, Bool.false_eq_true, reduceCtorEq]; done) | (simp only [up_at, sN, becS, bitS, sp_check, FB, FF, FK, FN, FS, FM, FZ, fnd, mv, aN, aF, aK, aH, aT, aS, aW, aZ, aU, b_1, eq_self, ne_eq, not_true_eq_false, not_false_eq_true, Classical.not_not, decide_true, decide_false, and_true, true_and, and_false, false_and, and_self, or_true, true_or, or_false, false_or, or_self, if_true, if_false, ite_true, ite_false, Bool.eq_false_iff, Bool.not_eq_eq_eq_not, Bool.true_eq_false, Bool.false_eq_true, reduceCtorEq]; rfl) | (simp [mv_now, mv_fnd, up_at, sN, becS, bitS, sp_check, FB, FF, FK, FN, FS, FM, FZ, fnd, mv, aN, b_1]; done)
    · repeat first | exact (fun _ _ => rfl) | refine frU (by decide) ?_
    · repeat first | exact id | refine mtU (by decide) ?_

