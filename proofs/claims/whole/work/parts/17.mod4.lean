/-! ===== the model: what it looks up ===== -/
theorem INV.n7 {ν : Nu} (h : INV ν) : ν 7 = nI (cnt ν 7) ∧ cnt ν 7 ≤ 20 := ⟨(isN_cnt h.2.1.2.2.2.2.1 (by decide)).1, by have := (isN_cnt h.2.1.2.2.2.2.1 (by decide)).2; omega⟩
theorem INV.n3 {ν : Nu} (h : INV ν) : ν 3 = nI (cnt ν 3) ∧ cnt ν 3 ≤ 10 := ⟨(isN_cnt h.2.1.1 (by decide)).1, by have := (isN_cnt h.2.1.1 (by decide)).2; omega⟩
theorem INV.n4 {ν : Nu} (h : INV ν) : ν 4 = nI (cnt ν 4) ∧ cnt ν 4 ≤ 14 := ⟨(isN_cnt h.2.1.2.1 (by decide)).1, by have := (isN_cnt h.2.1.2.1 (by decide)).2; omega⟩
theorem INV.n5 {ν : Nu} (h : INV ν) : ν 5 = nI (cnt ν 5) ∧ cnt ν 5 ≤ 3 := ⟨(isN_cnt h.2.1.2.2.1 (by decide)).1, by have := (isN_cnt h.2.1.2.2.1 (by decide)).2; omega⟩
theorem INV.n6 {ν : Nu} (h : INV ν) : ν 6 = nI (cnt ν 6) ∧ cnt ν 6 ≤ 3 := ⟨(isN_cnt h.2.1.2.2.2.1 (by decide)).1, by have := (isN_cnt h.2.1.2.2.2.1 (by decide)).2; omega⟩
theorem INV.n8 {ν : Nu} (h : INV ν) : ν 8 = nI (cnt ν 8) ∧ cnt ν 8 ≤ 6 := ⟨(isN_cnt h.2.1.2.2.2.2.2 (by decide)).1, by have := (isN_cnt h.2.1.2.2.2.2.2 (by decide)).2; omega⟩
theorem INV.lane {ν : Nu} (h : INV ν) {u : Nat} (hu : u < 4) : ν (16 + u) = nI (ν (16 + u)).toNatClampNeg ∧ (ν (16 + u)).toNatClampNeg < 6 := clamp_isN (h.2.2.1.1 u hu) (by decide)
theorem INV.kind {ν : Nu} (h : INV ν) {a : Nat} (ha : a < cnt ν 7) : isN (ν (146 + 10 * a + 3)) 6 := by
  obtain ⟨k, h1, h2, h3⟩ := (h.2.2.2.2.2.1 a ha).2.2.2.1
  exact ⟨k, by omega, h3⟩
theorem INV.who {ν : Nu} (h : INV ν) {a : Nat} (ha : a < cnt ν 7) : ν (146 + 10 * a + 0) = nI (ν (146 + 10 * a + 0)).toNatClampNeg ∧ (ν (146 + 10 * a + 0)).toNatClampNeg < cnt ν 4 := clamp_isN (h.2.2.2.2.2.1 a ha).1 (by have := h.n4.2; omega)
theorem INV.gld {ν : Nu} (h : INV ν) {a : Nat} (ha : a < cnt ν 7) : ν (146 + 10 * a + 2) = nI (ν (146 + 10 * a + 2)).toNatClampNeg ∧ (ν (146 + 10 * a + 2)).toNatClampNeg < cnt ν 3 := clamp_isN (h.2.2.2.2.2.1 a ha).2.2.1 (by have := h.n3.2; omega)
theorem INV.wth {ν : Nu} (h : INV ν) {a : Nat} (ha : a < cnt ν 7) (hw : ¬ ν (146 + 10 * a + 1) < 0) : ν (146 + 10 * a + 1) = nI (ν (146 + 10 * a + 1)).toNatClampNeg ∧ (ν (146 + 10 * a + 1)).toNatClampNeg < cnt ν 4 := by
  rcases (h.2.2.2.2.2.1 a ha).2.1 with e | e
  · exact absurd (show ν (146 + 10 * a + 1) < 0 by have e' : ν (146 + 10 * a + 1) = -1 := e; rw [e']; decide) hw
  · exact clamp_isN e (by have := h.n4.2; omega)
theorem o2i_neg {o : Option Nat} (h : ∀ k, o = some k → k < 2 ^ 31) : o2i o < 0 ↔ o = none := by
  cases o with
  | none => exact ⟨fun _ => rfl, fun _ => by decide⟩
  | some k => exact ⟨fun q => absurd q (nI_pos (h k rfl)), fun q => by cases q⟩
theorem fstL_lt {P : Nat → Bool} {n k : Nat} (h : fstL P n = some k) : k < n := (fstL_spec h).1
theorem lstL_lt {P : Nat → Bool} {n k : Nat} (h : lstL P n = some k) : k < n ∧ P k = true := by
  induction n with
  | zero => cases h
  | succ n ih =>
    rw [lstL_s] at h
    by_cases hp : P n = true
    · rw [if_pos hp] at h
      cases h
      exact ⟨by omega, hp⟩
    · rw [if_neg hp] at h
      exact ⟨by have := (ih h).1; omega, (ih h).2⟩
theorem lp_X12_planeThere {μ : Mx} {ω : Om} {d : Nat} (hd : 1 ≤ d) (C : Cx μ ω "TowFieldModel" cX12_planeThere 2 d) (hr : (mH μ).sig.returnType = some .int) (σ : Sg) {n : Nat} (hn : σ 136 6 = nI n) (hn2 : n ≤ 3) (hf : planeT (σ 136) = fstL (plaP (σ 136)) n) : ∀ (f i : Nat), i + f = n → (fstL (plaP (σ 136)) i = none) → G μ ω (RQ μ ω (pI (o2i (planeT (σ 136))) σ)) 2 [some (.ref 135), some (.int (nI i))] [] (mk σ) 0 0 := by
  intro f
  induction f with
  | zero =>
    intro i hif hv
    have hin : i = n := by omega
    refine g_il1n (pc := 2) C dX12_planeThere_2 ?_
    refine g_al0n (pc := 3) C dX12_planeThere_3 ?_
    refine s_getR (pc := 4) C fX12_9 h135 rfl dX12_planeThere_4 ?_
    refine g_bipush (pc := 7) (v := 6) C dX12_planeThere_7 (by decide) ?_
    refine s_iald (pc := 9) (q := 6) C h136 rfl (by omega) (Nat.le_of_ble_eq_true rfl) dX12_planeThere_9 ?_
    refine g_icmp_ge (pc := 10) (tgt := 33) C dX12_planeThere_10 (by decide) (fun c_10 => ?_) (fun c_10 => absurd (by rw [hn]; exact nI_le (by omega) (by omega)) c_10)
    refine g_iconst (pc := 33) (v := (-1)) C dX12_planeThere_33 (by decide) ?_
    exact r_I C hr dX12_planeThere_34 (by rw [hin] at hv; rw [hf, hv]; rfl) rfl
  | succ f ih =>
    intro i hif hv
    refine g_il1n (pc := 2) C dX12_planeThere_2 ?_
    refine g_al0n (pc := 3) C dX12_planeThere_3 ?_
    refine s_getR (pc := 4) C fX12_9 h135 rfl dX12_planeThere_4 ?_
    refine g_bipush (pc := 7) (v := 6) C dX12_planeThere_7 (by decide) ?_
    refine s_iald (pc := 9) (q := 6) C h136 rfl (by omega) (Nat.le_of_ble_eq_true rfl) dX12_planeThere_9 ?_
    refine g_icmp_ge (pc := 10) (tgt := 33) C dX12_planeThere_10 (by decide) (fun c_10 => absurd c_10 (by rw [hn]; exact nI_ge (by omega) (by omega))) (fun c_10 => ?_)
    refine g_al0n (pc := 13) C dX12_planeThere_13 ?_
    refine s_getR (pc := 14) C fX12_9 h135 rfl dX12_planeThere_14 ?_
    refine g_bipush (pc := 17) (v := 30) C dX12_planeThere_17 (by decide) ?_
    refine g_il1n (pc := 19) C dX12_planeThere_19 ?_
    refine g_iadd (pc := 20) C dX12_planeThere_20 ?_
    refine s_iald (pc := 21) (q := 30 + i) C h136 (by first | (simp only [ixl, nI_add, pk_mul]; done) | rfl | decide) (by omega) (Nat.le_of_ble_eq_true rfl) dX12_planeThere_21 ?_
    refine g_if_ge (pc := 22) (tgt := 27) C dX12_planeThere_22 (by decide) (fun c_22 => ?_) (fun c_22 => ?_)
    · refine g_ii1 (pc := 27) (v := nI (i + 1)) C dX12_planeThere_27 (nI_inc1 _) ?_
      refine g_goto (pc := 30) (tgt := 2) C dX12_planeThere_30 (by decide) ?_
      exact ih (i + 1) (by omega) (fstL_no hv (by simp only [plaP, decide_eq_false_iff_not]; exact Int32.not_lt.mpr (by assumption)))
    · refine g_il1n (pc := 25) C dX12_planeThere_25 ?_
      exact r_I C hr dX12_planeThere_26 (by rw [hf, fstL_hit hv (by simp_all [plaP]) (show i < n by omega)]; rfl) rfl

theorem c_X12_planeThere {d : Nat} (hd : 1 ≤ d) (σ : Sg) (hI : INV (σ 136)) : CI d mX12_planeThere [.ref 135] σ (o2i (planeT (σ 136))) σ := by
  refine con_of (by decide) (catL rfl) (Nat.le_of_ble_eq_true rfl) ?_
  intro μ ω C hr
  have C : Cx μ ω "TowFieldModel" cX12_planeThere 2 d := C
  have hr : (mH μ).sig.returnType = some .int := hr
  show G μ ω (RQ μ ω (pI (o2i (planeT (σ 136))) σ)) 0 [some (.ref 135), none] [] (mk σ) 0 0
  refine g_iconst (pc := 0) (v := 0) C dX12_planeThere_0 (by decide) ?_
  refine g_is1n (pc := 1) C dX12_planeThere_1 ?_
  exact lp_X12_planeThere hd C hr σ hI.n6.1 hI.n6.2 rfl (cnt (σ 136) 6) 0 (by omega) rfl


theorem lp_X12_winchFor {μ : Mx} {ω : Om} {d : Nat} (hd : 2 ≤ d) (C : Cx μ ω "TowFieldModel" cX12_winchFor 5 d) (hr : (mH μ).sig.returnType = some .int) (σ : Sg) (k : Int32) {n : Nat} (hn : σ 136 5 = nI n) (hn2 : n ≤ 3) (hf : winchF (σ 136) k = fstL (winP (σ 136) k) n) : ∀ (f i : Nat) (l3 : Option Value) (l4 : Option Value), i + f = n → (fstL (winP (σ 136) k) i = none) → G μ ω (RQ μ ω (pI (o2i (winchF (σ 136) k)) σ)) 2 [some (.ref 135), some (.int k), some (.int (nI i)), l3, l4] [] (mk σ) 0 0 := by
  intro f
  induction f with
  | zero =>
    intro i l3 l4 hif hv
    have hin : i = n := by omega
    refine g_il2n (pc := 2) C dX12_winchFor_2 ?_
    refine g_al0n (pc := 3) C dX12_winchFor_3 ?_
    refine s_getR (pc := 4) C fX12_9 h135 rfl dX12_winchFor_4 ?_
    refine g_iconst (pc := 7) (v := 5) C dX12_winchFor_7 (by decide) ?_
    refine s_iald (pc := 8) (q := 5) C h136 rfl (by omega) (Nat.le_of_ble_eq_true rfl) dX12_winchFor_8 ?_
    refine g_icmp_ge (pc := 9) (tgt := 87) C dX12_winchFor_9 (by decide) (fun c_9 => ?_) (fun c_9 => absurd (by rw [hn]; exact nI_le (by omega) (by omega)) c_9)
    refine g_iconst (pc := 87) (v := (-1)) C dX12_winchFor_87 (by decide) ?_
    exact r_I C hr dX12_winchFor_88 (by rw [hin] at hv; rw [hf, hv]; rfl) rfl
  | succ f ih =>
    intro i l3 l4 hif hv
    refine g_il2n (pc := 2) C dX12_winchFor_2 ?_
    refine g_al0n (pc := 3) C dX12_winchFor_3 ?_
    refine s_getR (pc := 4) C fX12_9 h135 rfl dX12_winchFor_4 ?_
    refine g_iconst (pc := 7) (v := 5) C dX12_winchFor_7 (by decide) ?_
    refine s_iald (pc := 8) (q := 5) C h136 rfl (by omega) (Nat.le_of_ble_eq_true rfl) dX12_winchFor_8 ?_
    refine g_icmp_ge (pc := 9) (tgt := 87) C dX12_winchFor_9 (by decide) (fun c_9 => absurd c_9 (by rw [hn]; exact nI_ge (by omega) (by omega))) (fun c_9 => ?_)
    refine g_al0n (pc := 12) C dX12_winchFor_12 ?_
    refine s_getR (pc := 13) C fX12_9 h135 rfl dX12_winchFor_13 ?_
    refine g_il2n (pc := 16) C dX12_winchFor_16 ?_
    refine g_iconst (pc := 17) (v := 0) C dX12_winchFor_17 (by decide) ?_
    refine s_SI (pc := 18) (st := [(.ref 136)]) C (c_X12_ropeAt (d := d - 1) (by omega) σ i 0) (by omega) lX12_92 dX12_winchFor_18 rfl (Nat.le_of_ble_eq_true rfl) rfl ?_
    refine s_iald (pc := 21) (q := 33 + 4 * i + 2 * 0) C h136 rfl (by omega) (Nat.le_of_ble_eq_true rfl) dX12_winchFor_21 ?_
    refine g_iconst (pc := 22) (v := 2) C dX12_winchFor_22 (by decide) ?_
    refine g_icmp_ne (pc := 23) (tgt := 30) C dX12_winchFor_23 (by decide) (fun c_23 => ?_) (fun c_23 => ?_)
    · refine g_iconst (pc := 30) (v := 0) C dX12_winchFor_30 (by decide) ?_
      refine g_is3n (pc := 31) C dX12_winchFor_31 ?_
      refine g_al0n (pc := 32) C dX12_winchFor_32 ?_
      refine s_getR (pc := 33) C fX12_9 h135 rfl dX12_winchFor_33 ?_
      refine g_il2n (pc := 36) C dX12_winchFor_36 ?_
      refine g_iconst (pc := 37) (v := 1) C dX12_winchFor_37 (by decide) ?_
      refine s_SI (pc := 38) (st := [(.ref 136)]) C (c_X12_ropeAt (d := d - 1) (by omega) σ i 1) (by omega) lX12_92 dX12_winchFor_38 rfl (Nat.le_of_ble_eq_true rfl) rfl ?_
      refine s_iald (pc := 41) (q := 33 + 4 * i + 2 * 1) C h136 rfl (by omega) (Nat.le_of_ble_eq_true rfl) dX12_winchFor_41 ?_
      refine g_iconst (pc := 42) (v := 2) C dX12_winchFor_42 (by decide) ?_
      refine g_icmp_ne (pc := 43) (tgt := 50) C dX12_winchFor_43 (by decide) (fun c_43 => ?_) (fun c_43 => ?_)
      · refine g_iconst (pc := 50) (v := 0) C dX12_winchFor_50 (by decide) ?_
        refine g_is4 (pc := 51) C dX12_winchFor_51 ?_
        refine g_il1n (pc := 53) C dX12_winchFor_53 ?_
        refine g_iconst (pc := 54) (v := 3) C dX12_winchFor_54 (by decide) ?_
        refine g_icmp_ne (pc := 55) (tgt := 70) C dX12_winchFor_55 (by decide) (fun c_55 => ?_) (fun c_55 => ?_)
        · refine g_il3n (pc := 70) C dX12_winchFor_70 ?_
          refine g_if_ne (pc := 71) (tgt := 79) C dX12_winchFor_71 (by decide) (fun c => absurd c (by decide)) (fun _ => ?_)
          refine g_il4 (pc := 74) C dX12_winchFor_74 ?_
          refine g_if_eq (pc := 76) (tgt := 81) C dX12_winchFor_76 (by decide) (fun _ => ?_) (fun c => absurd c (by decide))
          refine g_ii2 (pc := 81) (v := nI (i + 1)) C dX12_winchFor_81 (nI_inc1 _) ?_
          refine g_goto (pc := 84) (tgt := 2) C dX12_winchFor_84 (by decide) ?_
          exact ih (i + 1) _ _ (by omega) (fstL_no hv (by simp_all [winP, aR]))
        · refine g_il3n (pc := 58) C dX12_winchFor_58 ?_
          refine g_if_eq (pc := 59) (tgt := 81) C dX12_winchFor_59 (by decide) (fun _ => ?_) (fun c => absurd c (by decide))
          refine g_ii2 (pc := 81) (v := nI (i + 1)) C dX12_winchFor_81 (nI_inc1 _) ?_
          refine g_goto (pc := 84) (tgt := 2) C dX12_winchFor_84 (by decide) ?_
          exact ih (i + 1) _ _ (by omega) (fstL_no hv (by simp_all [winP, aR]))
      · refine g_iconst (pc := 46) (v := 1) C dX12_winchFor_46 (by decide) ?_
        refine g_goto (pc := 47) (tgt := 51) C dX12_winchFor_47 (by decide) ?_
        refine g_is4 (pc := 51) C dX12_winchFor_51 ?_
        refine g_il1n (pc := 53) C dX12_winchFor_53 ?_
        refine g_iconst (pc := 54) (v := 3) C dX12_winchFor_54 (by decide) ?_
        refine g_icmp_ne (pc := 55) (tgt := 70) C dX12_winchFor_55 (by decide) (fun c_55 => ?_) (fun c_55 => ?_)
        · refine g_il3n (pc := 70) C dX12_winchFor_70 ?_
          refine g_if_ne (pc := 71) (tgt := 79) C dX12_winchFor_71 (by decide) (fun c => absurd c (by decide)) (fun _ => ?_)
          refine g_il4 (pc := 74) C dX12_winchFor_74 ?_
          refine g_if_eq (pc := 76) (tgt := 81) C dX12_winchFor_76 (by decide) (fun c => absurd c (by decide)) (fun _ => ?_)
          refine g_il2n (pc := 79) C dX12_winchFor_79 ?_
          exact r_I C hr dX12_winchFor_80 (by rw [hf, fstL_hit hv (by simp_all [winP, aR]) (show i < n by omega)]; rfl) rfl
        · refine g_il3n (pc := 58) C dX12_winchFor_58 ?_
          refine g_if_eq (pc := 59) (tgt := 81) C dX12_winchFor_59 (by decide) (fun _ => ?_) (fun c => absurd c (by decide))
          refine g_ii2 (pc := 81) (v := nI (i + 1)) C dX12_winchFor_81 (nI_inc1 _) ?_
          refine g_goto (pc := 84) (tgt := 2) C dX12_winchFor_84 (by decide) ?_
          exact ih (i + 1) _ _ (by omega) (fstL_no hv (by simp_all [winP, aR]))
    · refine g_iconst (pc := 26) (v := 1) C dX12_winchFor_26 (by decide) ?_
      refine g_goto (pc := 27) (tgt := 31) C dX12_winchFor_27 (by decide) ?_
      refine g_is3n (pc := 31) C dX12_winchFor_31 ?_
      refine g_al0n (pc := 32) C dX12_winchFor_32 ?_
      refine s_getR (pc := 33) C fX12_9 h135 rfl dX12_winchFor_33 ?_
      refine g_il2n (pc := 36) C dX12_winchFor_36 ?_
      refine g_iconst (pc := 37) (v := 1) C dX12_winchFor_37 (by decide) ?_
      refine s_SI (pc := 38) (st := [(.ref 136)]) C (c_X12_ropeAt (d := d - 1) (by omega) σ i 1) (by omega) lX12_92 dX12_winchFor_38 rfl (Nat.le_of_ble_eq_true rfl) rfl ?_
      refine s_iald (pc := 41) (q := 33 + 4 * i + 2 * 1) C h136 rfl (by omega) (Nat.le_of_ble_eq_true rfl) dX12_winchFor_41 ?_
      refine g_iconst (pc := 42) (v := 2) C dX12_winchFor_42 (by decide) ?_
      refine g_icmp_ne (pc := 43) (tgt := 50) C dX12_winchFor_43 (by decide) (fun c_43 => ?_) (fun c_43 => ?_)
      · refine g_iconst (pc := 50) (v := 0) C dX12_winchFor_50 (by decide) ?_
        refine g_is4 (pc := 51) C dX12_winchFor_51 ?_
        refine g_il1n (pc := 53) C dX12_winchFor_53 ?_
        refine g_iconst (pc := 54) (v := 3) C dX12_winchFor_54 (by decide) ?_
        refine g_icmp_ne (pc := 55) (tgt := 70) C dX12_winchFor_55 (by decide) (fun c_55 => ?_) (fun c_55 => ?_)
        · refine g_il3n (pc := 70) C dX12_winchFor_70 ?_
          refine g_if_ne (pc := 71) (tgt := 79) C dX12_winchFor_71 (by decide) (fun _ => ?_) (fun c => absurd c (by decide))
          refine g_il2n (pc := 79) C dX12_winchFor_79 ?_
          exact r_I C hr dX12_winchFor_80 (by rw [hf, fstL_hit hv (by simp_all [winP, aR]) (show i < n by omega)]; rfl) rfl
        · refine g_il3n (pc := 58) C dX12_winchFor_58 ?_
          refine g_if_eq (pc := 59) (tgt := 81) C dX12_winchFor_59 (by decide) (fun c => absurd c (by decide)) (fun _ => ?_)
          refine g_il4 (pc := 62) C dX12_winchFor_62 ?_
          refine g_if_eq (pc := 64) (tgt := 81) C dX12_winchFor_64 (by decide) (fun _ => ?_) (fun c => absurd c (by decide))
          refine g_ii2 (pc := 81) (v := nI (i + 1)) C dX12_winchFor_81 (nI_inc1 _) ?_
          refine g_goto (pc := 84) (tgt := 2) C dX12_winchFor_84 (by decide) ?_
          exact ih (i + 1) _ _ (by omega) (fstL_no hv (by simp_all [winP, aR]))
      · refine g_iconst (pc := 46) (v := 1) C dX12_winchFor_46 (by decide) ?_
        refine g_goto (pc := 47) (tgt := 51) C dX12_winchFor_47 (by decide) ?_
        refine g_is4 (pc := 51) C dX12_winchFor_51 ?_
        refine g_il1n (pc := 53) C dX12_winchFor_53 ?_
        refine g_iconst (pc := 54) (v := 3) C dX12_winchFor_54 (by decide) ?_
        refine g_icmp_ne (pc := 55) (tgt := 70) C dX12_winchFor_55 (by decide) (fun c_55 => ?_) (fun c_55 => ?_)
        · refine g_il3n (pc := 70) C dX12_winchFor_70 ?_
          refine g_if_ne (pc := 71) (tgt := 79) C dX12_winchFor_71 (by decide) (fun _ => ?_) (fun c => absurd c (by decide))
          refine g_il2n (pc := 79) C dX12_winchFor_79 ?_
          exact r_I C hr dX12_winchFor_80 (by rw [hf, fstL_hit hv (by simp_all [winP, aR]) (show i < n by omega)]; rfl) rfl
        · refine g_il3n (pc := 58) C dX12_winchFor_58 ?_
          refine g_if_eq (pc := 59) (tgt := 81) C dX12_winchFor_59 (by decide) (fun c => absurd c (by decide)) (fun _ => ?_)
          refine g_il4 (pc := 62) C dX12_winchFor_62 ?_
          refine g_if_eq (pc := 64) (tgt := 81) C dX12_winchFor_64 (by decide) (fun c => absurd c (by decide)) (fun _ => ?_)
          refine g_goto (pc := 67) (tgt := 79) C dX12_winchFor_67 (by decide) ?_
          refine g_il2n (pc := 79) C dX12_winchFor_79 ?_
          exact r_I C hr dX12_winchFor_80 (by rw [hf, fstL_hit hv (by simp_all [winP, aR]) (show i < n by omega)]; rfl) rfl

theorem c_X12_winchFor {d : Nat} (hd : 2 ≤ d) (σ : Sg) (hI : INV (σ 136)) (k : Int32) : CI d mX12_winchFor [.ref 135, .int k] σ (o2i (winchF (σ 136) k)) σ := by
  refine con_of (by decide) (catL rfl) (Nat.le_of_ble_eq_true rfl) ?_
  intro μ ω C hr
  have C : Cx μ ω "TowFieldModel" cX12_winchFor 5 d := C
  have hr : (mH μ).sig.returnType = some .int := hr
  show G μ ω (RQ μ ω (pI (o2i (winchF (σ 136) k)) σ)) 0 [some (.ref 135), some (.int k), none, none, none] [] (mk σ) 0 0
  refine g_iconst (pc := 0) (v := 0) C dX12_winchFor_0 (by decide) ?_
  refine g_is2n (pc := 1) C dX12_winchFor_1 ?_
  exact lp_X12_winchFor hd C hr σ k hI.n5.1 hI.n5.2 rfl (cnt (σ 136) 5) 0 _ _ (by omega) rfl

theorem lp_X12_textOf {μ : Mx} {ω : Om} {d : Nat} (hd : 1 ≤ d) (C : Cx μ ω "TowFieldModel" cX12_textOf 4 d) (hr : (mH μ).sig.returnType = some .int) (σ : Sg) {n : Nat} (hn : σ 136 8 = nI n) (hn2 : n ≤ 6) (u : Int32) : ∀ (f i : Nat) (v : Int32), i + f = n → (v = o2i (lstL (txtP (σ 136) u) i)) → G μ ω (RQ μ ω (pI (o2i (lstL (txtP (σ 136) u) n)) σ)) 4 [some (.ref 135), some (.int u), some (.int v), some (.int (nI i))] [] (mk σ) 0 0 := by
  intro f
  induction f with
  | zero =>
    intro i v hif hv
    have hin : i = n := by omega
    refine g_il3n (pc := 4) C dX12_textOf_4 ?_
    refine g_al0n (pc := 5) C dX12_textOf_5 ?_
    refine s_getR (pc := 6) C fX12_9 h135 rfl dX12_textOf_6 ?_
    refine g_bipush (pc := 9) (v := 8) C dX12_textOf_9 (by decide) ?_
    refine s_iald (pc := 11) (q := 8) C h136 rfl (by omega) (Nat.le_of_ble_eq_true rfl) dX12_textOf_11 ?_
    refine g_icmp_ge (pc := 12) (tgt := 44) C dX12_textOf_12 (by decide) (fun c_12 => ?_) (fun c_12 => absurd (by rw [hn]; exact nI_le (by omega) (by omega)) c_12)
    refine g_il2n (pc := 44) C dX12_textOf_44 ?_
    exact r_I C hr dX12_textOf_45 (by rw [hv, hin]) rfl
  | succ f ih =>
    intro i v hif hv
    refine g_il3n (pc := 4) C dX12_textOf_4 ?_
    refine g_al0n (pc := 5) C dX12_textOf_5 ?_
    refine s_getR (pc := 6) C fX12_9 h135 rfl dX12_textOf_6 ?_
    refine g_bipush (pc := 9) (v := 8) C dX12_textOf_9 (by decide) ?_
    refine s_iald (pc := 11) (q := 8) C h136 rfl (by omega) (Nat.le_of_ble_eq_true rfl) dX12_textOf_11 ?_
    refine g_icmp_ge (pc := 12) (tgt := 44) C dX12_textOf_12 (by decide) (fun c_12 => absurd c_12 (by rw [hn]; exact nI_ge (by omega) (by omega))) (fun c_12 => ?_)
    refine g_al0n (pc := 15) C dX12_textOf_15 ?_
    refine s_getR (pc := 16) C fX12_9 h135 rfl dX12_textOf_16 ?_
    refine g_sipush (pc := 19) (v := 346) C dX12_textOf_19 (by decide) ?_
    refine g_bipush (pc := 22) (v := 104) C dX12_textOf_22 (by decide) ?_
    refine g_il3n (pc := 24) C dX12_textOf_24 ?_
    refine g_imul (pc := 25) C dX12_textOf_25 ?_
    refine g_iadd (pc := 26) C dX12_textOf_26 ?_
    refine s_iald (pc := 27) (q := 346 + (104 * i)) C h136 (by first | (simp only [ixl, nI_add, pk_mul]; done) | rfl | decide) (by omega) (Nat.le_of_ble_eq_true rfl) dX12_textOf_27 ?_
    refine g_il1n (pc := 28) C dX12_textOf_28 ?_
    refine g_icmp_ne (pc := 29) (tgt := 36) C dX12_textOf_29 (by decide) (fun c_29 => ?_) (fun c_29 => ?_)
    · refine g_il2n (pc := 36) C dX12_textOf_36 ?_
      refine g_is2n (pc := 37) C dX12_textOf_37 ?_
      refine g_ii3 (pc := 38) (v := nI (i + 1)) C dX12_textOf_38 (nI_inc1 _) ?_
      refine g_goto (pc := 41) (tgt := 4) C dX12_textOf_41 (by decide) ?_
      exact ih (i + 1) v (by omega) (by simp_all [lstL_s, txtP, o2i])
    · refine g_il3n (pc := 32) C dX12_textOf_32 ?_
      refine g_goto (pc := 33) (tgt := 37) C dX12_textOf_33 (by decide) ?_
      refine g_is2n (pc := 37) C dX12_textOf_37 ?_
      refine g_ii3 (pc := 38) (v := nI (i + 1)) C dX12_textOf_38 (nI_inc1 _) ?_
      refine g_goto (pc := 41) (tgt := 4) C dX12_textOf_41 (by decide) ?_
      exact ih (i + 1) (nI i) (by omega) (by simp_all [lstL_s, txtP, o2i])

theorem c_X12_textOf {d : Nat} (hd : 1 ≤ d) (σ : Sg) (hI : INV (σ 136)) (u : Int32) : CI d mX12_textOf [.ref 135, .int u] σ (o2i (textU (σ 136) u)) σ := by
  refine con_of (by decide) (catL rfl) (Nat.le_of_ble_eq_true rfl) ?_
  intro μ ω C hr
  have C : Cx μ ω "TowFieldModel" cX12_textOf 4 d := C
  have hr : (mH μ).sig.returnType = some .int := hr
  show G μ ω (RQ μ ω (pI (o2i (textU (σ 136) u)) σ)) 0 [some (.ref 135), some (.int u), none, none] [] (mk σ) 0 0
  refine g_iconst (pc := 0) (v := (-1)) C dX12_textOf_0 (by decide) ?_
  refine g_is2n (pc := 1) C dX12_textOf_1 ?_
  refine g_iconst (pc := 2) (v := 0) C dX12_textOf_2 (by decide) ?_
  refine g_is3n (pc := 3) C dX12_textOf_3 ?_
  exact lp_X12_textOf hd C hr σ hI.n8.1 hI.n8.2 u (cnt (σ 136) 8) 0 _ (by omega) rfl

theorem lp_X12_asksThat {μ : Mx} {ω : Om} {d : Nat} (hd : 2 ≤ d) (C : Cx μ ω "TowFieldModel" cX12_asksThat 4 d) (hr : (mH μ).sig.returnType = some .int) (σ : Sg) {n : Nat} (hn : σ 136 7 = nI n) (hn2 : n ≤ 20) (u : Int32) : ∀ (f i : Nat) (v : Int32), i + f = n → (v = setL (σ 136) u i) → G μ ω (RQ μ ω (pI (setL (σ 136) u n) σ)) 4 [some (.ref 135), some (.int u), some (.int v), some (.int (nI i))] [] (mk σ) 0 0 := by
  intro f
  induction f with
  | zero =>
    intro i v hif hv
    have hin : i = n := by omega
    refine g_il3n (pc := 4) C dX12_asksThat_4 ?_
    refine g_al0n (pc := 5) C dX12_asksThat_5 ?_
    refine s_getR (pc := 6) C fX12_9 h135 rfl dX12_asksThat_6 ?_
    refine g_bipush (pc := 9) (v := 7) C dX12_asksThat_9 (by decide) ?_
    refine s_iald (pc := 11) (q := 7) C h136 rfl (by omega) (Nat.le_of_ble_eq_true rfl) dX12_asksThat_11 ?_
    refine g_icmp_ge (pc := 12) (tgt := 42) C dX12_asksThat_12 (by decide) (fun c_12 => ?_) (fun c_12 => absurd (by rw [hn]; exact nI_le (by omega) (by omega)) c_12)
    refine g_il2n (pc := 42) C dX12_asksThat_42 ?_
    exact r_I C hr dX12_asksThat_43 (by rw [hv, hin]) rfl
  | succ f ih =>
    intro i v hif hv
    refine g_il3n (pc := 4) C dX12_asksThat_4 ?_
    refine g_al0n (pc := 5) C dX12_asksThat_5 ?_
    refine s_getR (pc := 6) C fX12_9 h135 rfl dX12_asksThat_6 ?_
    refine g_bipush (pc := 9) (v := 7) C dX12_asksThat_9 (by decide) ?_
    refine s_iald (pc := 11) (q := 7) C h136 rfl (by omega) (Nat.le_of_ble_eq_true rfl) dX12_asksThat_11 ?_
    refine g_icmp_ge (pc := 12) (tgt := 42) C dX12_asksThat_12 (by decide) (fun c_12 => absurd c_12 (by rw [hn]; exact nI_ge (by omega) (by omega))) (fun c_12 => ?_)
    refine g_il2n (pc := 15) C dX12_asksThat_15 ?_
    refine g_al0n (pc := 16) C dX12_asksThat_16 ?_
    refine g_il3n (pc := 17) C dX12_asksThat_17 ?_
    refine g_bipush (pc := 18) (v := 6) C dX12_asksThat_18 (by decide) ?_
    refine s_VI (pc := 20) (st := [(.int v)]) C h135 rfl (c_X12_askOf (d := d - 1) (by omega) σ (a := i) (f := 6) (by omega) (by omega) rfl rfl) (by omega) lX12_67 dX12_asksThat_20 rfl (Nat.le_of_ble_eq_true rfl) rfl ?_
    refine g_il1n (pc := 23) C dX12_asksThat_23 ?_
    refine g_icmp_ne (pc := 24) (tgt := 33) C dX12_asksThat_24 (by decide) (fun c_24 => ?_) (fun c_24 => ?_)
    · refine g_iconst (pc := 33) (v := 0) C dX12_asksThat_33 (by decide) ?_
      refine g_ior (pc := 34) C dX12_asksThat_34 ?_
      refine g_is2n (pc := 35) C dX12_asksThat_35 ?_
      refine g_ii3 (pc := 36) (v := nI (i + 1)) C dX12_asksThat_36 (nI_inc1 _) ?_
      refine g_goto (pc := 39) (tgt := 4) C dX12_asksThat_39 (by decide) ?_
      exact ih (i + 1) (v ||| 0) (by omega) (by simp_all [setL, aA])
    · refine g_iconst (pc := 27) (v := 1) C dX12_asksThat_27 (by decide) ?_
      refine g_il3n (pc := 28) C dX12_asksThat_28 ?_
      refine g_ishl (pc := 29) C dX12_asksThat_29 ?_
      refine g_goto (pc := 30) (tgt := 34) C dX12_asksThat_30 (by decide) ?_
      refine g_ior (pc := 34) C dX12_asksThat_34 ?_
      refine g_is2n (pc := 35) C dX12_asksThat_35 ?_
      refine g_ii3 (pc := 36) (v := nI (i + 1)) C dX12_asksThat_36 (nI_inc1 _) ?_
      refine g_goto (pc := 39) (tgt := 4) C dX12_asksThat_39 (by decide) ?_
      exact ih (i + 1) (v ||| (1 <<< ((nI i) &&& 31))) (by omega) (by simp_all [setL, aA])

theorem c_X12_asksThat {d : Nat} (hd : 2 ≤ d) (σ : Sg) (hI : INV (σ 136)) (u : Int32) : CI d mX12_asksThat [.ref 135, .int u] σ (setS (σ 136) u) σ := by
  refine con_of (by decide) (catL rfl) (Nat.le_of_ble_eq_true rfl) ?_
  intro μ ω C hr
  have C : Cx μ ω "TowFieldModel" cX12_asksThat 4 d := C
  have hr : (mH μ).sig.returnType = some .int := hr
  show G μ ω (RQ μ ω (pI (setS (σ 136) u) σ)) 0 [some (.ref 135), some (.int u), none, none] [] (mk σ) 0 0
  refine g_iconst (pc := 0) (v := 0) C dX12_asksThat_0 (by decide) ?_
  refine g_is2n (pc := 1) C dX12_asksThat_1 ?_
  refine g_iconst (pc := 2) (v := 0) C dX12_asksThat_2 (by decide) ?_
  refine g_is3n (pc := 3) C dX12_asksThat_3 ?_
  exact lp_X12_asksThat hd C hr σ hI.n7.1 hI.n7.2 u (cnt (σ 136) 7) 0 _ (by omega) rfl

theorem c_X12_laneOf {d : Nat} (hd : 3 ≤ d) (σ : Sg) (hI : INV (σ 136)) {a : Nat} (ha : a < cnt (σ 136) 7) : CI d mX12_laneOf [.ref 135, .int (nI a)] σ (laneA (σ 136) a) σ := by
  have hna := hI.n7.2
  have hk := hI.kind ha
  refine con_of (by decide) (catL rfl) (Nat.le_of_ble_eq_true rfl) ?_
  intro μ ω C hr
  have C : Cx μ ω "TowFieldModel" cX12_laneOf 2 d := C
  have hr : (mH μ).sig.returnType = some .int := hr
  show G μ ω (RQ μ ω (pI (laneA (σ 136) a) σ)) 0 [some (.ref 135), some (.int (nI a))] [] (mk σ) 0 0
  refine g_al0n (pc := 0) C dX12_laneOf_0 ?_
  refine s_getR (pc := 1) C fX12_9 h135 rfl dX12_laneOf_1 ?_
  refine g_bipush (pc := 4) (v := 16) C dX12_laneOf_4 (by decide) ?_
  refine g_al0n (pc := 6) C dX12_laneOf_6 ?_
  refine g_il1n (pc := 7) C dX12_laneOf_7 ?_
  refine g_iconst (pc := 8) (v := 3) C dX12_laneOf_8 (by decide) ?_
  refine s_VI (pc := 9) (st := [(.int 16), (.ref 136)]) C h135 rfl (c_X12_askOf (d := d - 1) (by omega) σ (a := a) (f := 3) (by omega) (by omega) rfl rfl) (by omega) lX12_67 dX12_laneOf_9 rfl (Nat.le_of_ble_eq_true rfl) rfl ?_
  refine g_iconst (pc := 12) (v := 1) C dX12_laneOf_12 (by decide) ?_
  refine s_SB (pc := 13) (st := [(.int 16), (.ref 136)]) C (c_X12_isUnder (d := d - 1) (by omega) σ (σ 136 (146 + 10 * a + 3)) 1 (by assumption)) (by omega) lX12_123 dX12_laneOf_13 rfl (Nat.le_of_ble_eq_true rfl) rfl (fun b_13 => ?_) (fun b_13 => ?_)
  · refine g_if_eq (pc := 16) (tgt := 23) C dX12_laneOf_16 (by decide) (fun c => absurd c (by decide)) (fun _ => ?_)
    refine g_iconst (pc := 19) (v := 0) C dX12_laneOf_19 (by decide) ?_
    refine g_goto (pc := 20) (tgt := 24) C dX12_laneOf_20 (by decide) ?_
    refine g_iadd (pc := 24) C dX12_laneOf_24 ?_
    refine s_iald (pc := 25) (q := 16) C h136 (by first | (simp only [ixl, nI_add, pk_mul]; done) | rfl | decide) (by omega) (Nat.le_of_ble_eq_true rfl) dX12_laneOf_25 ?_
    exact r_I C hr dX12_laneOf_26 (by simp_all [laneA, aA]) rfl
  · refine g_if_eq (pc := 16) (tgt := 23) C dX12_laneOf_16 (by decide) (fun _ => ?_) (fun c => absurd c (by decide))
    refine g_iconst (pc := 23) (v := 1) C dX12_laneOf_23 (by decide) ?_
    refine g_iadd (pc := 24) C dX12_laneOf_24 ?_
    refine s_iald (pc := 25) (q := 17) C h136 (by first | (simp only [ixl, nI_add, pk_mul]; done) | rfl | decide) (by omega) (Nat.le_of_ble_eq_true rfl) dX12_laneOf_25 ?_
    exact r_I C hr dX12_laneOf_26 (by simp_all [laneA, aA]) rfl

theorem c_X12_spanOfAsk {d : Nat} (hd : 4 ≤ d) (σ : Sg) (hI : INV (σ 136)) {a : Nat} (ha : a < cnt (σ 136) 7) : CI d mX12_spanOfAsk [.ref 135, .int (nI a)] σ (spanA (σ 136) a) σ := by
  have hna := hI.n7.2
  have hk := hI.kind ha
  refine con_of (by decide) (catL rfl) (Nat.le_of_ble_eq_true rfl) ?_
  intro μ ω C hr
  have C : Cx μ ω "TowFieldModel" cX12_spanOfAsk 2 d := C
  have hr : (mH μ).sig.returnType = some .int := hr
  show G μ ω (RQ μ ω (pI (spanA (σ 136) a) σ)) 0 [some (.ref 135), some (.int (nI a))] [] (mk σ) 0 0
  refine g_al0n (pc := 0) C dX12_spanOfAsk_0 ?_
  refine g_il1n (pc := 1) C dX12_spanOfAsk_1 ?_
  refine g_iconst (pc := 2) (v := 3) C dX12_spanOfAsk_2 (by decide) ?_
  refine s_VI (pc := 3) (st := []) C h135 rfl (c_X12_askOf (d := d - 1) (by omega) σ (a := a) (f := 3) (by omega) (by omega) rfl rfl) (by omega) lX12_67 dX12_spanOfAsk_3 rfl (Nat.le_of_ble_eq_true rfl) rfl ?_
  refine g_al0n (pc := 6) C dX12_spanOfAsk_6 ?_
  refine g_il1n (pc := 7) C dX12_spanOfAsk_7 ?_
  refine g_iconst (pc := 8) (v := 4) C dX12_spanOfAsk_8 (by decide) ?_
  refine s_VI (pc := 9) (st := [(.int (σ 136 (146 + 10 * a + 3)))]) C h135 rfl (c_X12_askOf (d := d - 1) (by omega) σ (a := a) (f := 4) (by omega) (by omega) rfl rfl) (by omega) lX12_67 dX12_spanOfAsk_9 rfl (Nat.le_of_ble_eq_true rfl) rfl ?_
  refine s_SI (pc := 12) (st := []) C (c_X12_spanOf (d := d - 1) (by omega) σ (σ 136 (146 + 10 * a + 3)) (σ 136 (146 + 10 * a + 4))) (by omega) lX12_109 dX12_spanOfAsk_12 rfl (Nat.le_of_ble_eq_true rfl) rfl ?_
  exact r_I C hr dX12_spanOfAsk_15 rfl rfl

theorem c_X12_hasPapers {d : Nat} (hd : 2 ≤ d) (σ : Sg) (p k : Int32) (hp : ¬ p < 0 → p = nI p.toNatClampNeg ∧ p.toNatClampNeg < 14) : CB d mX12_hasPapers [.ref 135, .int p, .int k] σ (papers (σ 136) p k = true) σ := by
  refine con_of (by decide) (catL rfl) (Nat.le_of_ble_eq_true rfl) ?_
  intro μ ω C hr
  have C : Cx μ ω "TowFieldModel" cX12_hasPapers 3 d := C
  have hr : (mH μ).sig.returnType = some .boolean := hr
  show G μ ω (RQ μ ω (pB (papers (σ 136) p k = true) σ)) 0 [some (.ref 135), some (.int p), some (.int k)] [] (mk σ) 0 0
  refine g_il1n (pc := 0) C dX12_hasPapers_0 ?_
  refine g_if_lt (pc := 1) (tgt := 21) C dX12_hasPapers_1 (by decide) (fun c_1 => ?_) (fun c_1 => ?_)
  · refine g_iconst (pc := 21) (v := 0) C dX12_hasPapers_21 (by decide) ?_
    exact r_B0 C hr dX12_hasPapers_22 (by unfold papers; first | (rw [if_pos c_1]; simp) | (rw [if_neg c_1]; assumption)) rfl
  · refine g_al0n (pc := 4) C dX12_hasPapers_4 ?_
    refine g_il1n (pc := 5) C dX12_hasPapers_5 ?_
    refine g_iconst (pc := 6) (v := 1) C dX12_hasPapers_6 (by decide) ?_
    refine s_VI (pc := 7) (st := []) C h135 rfl (c_X12_personOf (d := d - 1) (by omega) σ (a := p.toNatClampNeg) (f := 1) (hp c_1).2 (by omega) (hp c_1).1 rfl) (by omega) lX12_82 dX12_hasPapers_7 rfl (Nat.le_of_ble_eq_true rfl) rfl ?_
    refine g_il2n (pc := 10) C dX12_hasPapers_10 ?_
    refine s_SB (pc := 11) (st := []) C (c_X12_has (d := d - 1) (by omega) σ (σ 136 (90 + 4 * p.toNatClampNeg + 1)) k) (by omega) lX12_127 dX12_hasPapers_11 rfl (Nat.le_of_ble_eq_true rfl) rfl (fun b_11 => ?_) (fun b_11 => ?_)
    · refine g_if_eq (pc := 14) (tgt := 21) C dX12_hasPapers_14 (by decide) (fun c => absurd c (by decide)) (fun _ => ?_)
      refine g_iconst (pc := 17) (v := 1) C dX12_hasPapers_17 (by decide) ?_
      refine g_goto (pc := 18) (tgt := 22) C dX12_hasPapers_18 (by decide) ?_
      exact r_B1 C hr dX12_hasPapers_22 (by unfold papers; rw [if_neg c_1]; assumption) rfl
    · refine g_if_eq (pc := 14) (tgt := 21) C dX12_hasPapers_14 (by decide) (fun _ => ?_) (fun c => absurd c (by decide))
      refine g_iconst (pc := 21) (v := 0) C dX12_hasPapers_21 (by decide) ?_
      exact r_B0 C hr dX12_hasPapers_22 (by unfold papers; first | (rw [if_pos c_1]; simp) | (rw [if_neg c_1]; assumption)) rfl

theorem c_X12_hasHelp {d : Nat} (hd : 3 ≤ d) (σ : Sg) (hI : INV (σ 136)) (k : Int32) (hk : isN k 6) : CB d mX12_hasHelp [.ref 135, .int k] σ (helpK (σ 136) k = true) σ := by
  have hw : ∀ j, winchF (σ 136) k = some j → j < 2 ^ 31 := fun j h => by have := fstL_lt h; have := hI.n5.2; omega
  have hp : ∀ j, planeT (σ 136) = some j → j < 2 ^ 31 := fun j h => by have := fstL_lt h; have := hI.n6.2; omega
  refine con_of (by decide) (catL rfl) (Nat.le_of_ble_eq_true rfl) ?_
  intro μ ω C hr
  have C : Cx μ ω "TowFieldModel" cX12_hasHelp 2 d := C
  have hr : (mH μ).sig.returnType = some .boolean := hr
  show G μ ω (RQ μ ω (pB (helpK (σ 136) k = true) σ)) 0 [some (.ref 135), some (.int k)] [] (mk σ) 0 0
  refine g_il1n (pc := 0) C dX12_hasHelp_0 ?_
  refine g_iconst (pc := 1) (v := 4) C dX12_hasHelp_1 (by decide) ?_
  refine g_icmp_eq (pc := 2) (tgt := 31) C dX12_hasHelp_2 (by decide) (fun c_2 => ?_) (fun c_2 => ?_)
  · refine g_iconst (pc := 31) (v := 1) C dX12_hasHelp_31 (by decide) ?_
    refine g_goto (pc := 32) (tgt := 36) C dX12_hasHelp_32 (by decide) ?_
    exact r_B1 C hr dX12_hasHelp_36 (by simp only [helpK]; first | (simp_all; done) | (rw [o2i_neg hw] at c_18; simp_all [Option.isSome_iff_ne_none]; done) | (rw [o2i_neg hp] at c_28; simp_all [Option.isSome_iff_ne_none])) rfl
  · refine g_il1n (pc := 5) C dX12_hasHelp_5 ?_
    refine g_iconst (pc := 6) (v := 1) C dX12_hasHelp_6 (by decide) ?_
    refine s_SB (pc := 7) (st := []) C (c_X12_isUnder (d := d - 1) (by omega) σ k 1 (by assumption)) (by omega) lX12_123 dX12_hasHelp_7 rfl (Nat.le_of_ble_eq_true rfl) rfl (fun b_7 => ?_) (fun b_7 => ?_)
    · refine g_if_eq (pc := 10) (tgt := 24) C dX12_hasHelp_10 (by decide) (fun c => absurd c (by decide)) (fun _ => ?_)
      refine g_al0n (pc := 13) C dX12_hasHelp_13 ?_
      refine g_il1n (pc := 14) C dX12_hasHelp_14 ?_
      refine s_VI (pc := 15) (st := []) C h135 rfl (c_X12_winchFor (d := d - 1) (by omega) σ hI k) (by omega) lX12_130 dX12_hasHelp_15 rfl (Nat.le_of_ble_eq_true rfl) rfl ?_
      refine g_if_lt (pc := 18) (tgt := 35) C dX12_hasHelp_18 (by decide) (fun c_18 => ?_) (fun c_18 => ?_)
      · refine g_iconst (pc := 35) (v := 0) C dX12_hasHelp_35 (by decide) ?_
        exact r_B0 C hr dX12_hasHelp_36 (by simp only [helpK]; first | (simp_all; done) | (rw [o2i_neg hw] at c_18; simp_all [Option.isSome_iff_ne_none]; done) | (rw [o2i_neg hp] at c_28; simp_all [Option.isSome_iff_ne_none])) rfl
      · refine g_goto (pc := 21) (tgt := 31) C dX12_hasHelp_21 (by decide) ?_
        refine g_iconst (pc := 31) (v := 1) C dX12_hasHelp_31 (by decide) ?_
        refine g_goto (pc := 32) (tgt := 36) C dX12_hasHelp_32 (by decide) ?_
        exact r_B1 C hr dX12_hasHelp_36 (by simp only [helpK]; first | (simp_all; done) | (rw [o2i_neg hw] at c_18; simp_all [Option.isSome_iff_ne_none]; done) | (rw [o2i_neg hp] at c_28; simp_all [Option.isSome_iff_ne_none])) rfl
    · refine g_if_eq (pc := 10) (tgt := 24) C dX12_hasHelp_10 (by decide) (fun _ => ?_) (fun c => absurd c (by decide))
      refine g_al0n (pc := 24) C dX12_hasHelp_24 ?_
      refine s_VI (pc := 25) (st := []) C h135 rfl (c_X12_planeThere (d := d - 1) (by omega) σ hI) (by omega) lX12_133 dX12_hasHelp_25 rfl (Nat.le_of_ble_eq_true rfl) rfl ?_
      refine g_if_lt (pc := 28) (tgt := 35) C dX12_hasHelp_28 (by decide) (fun c_28 => ?_) (fun c_28 => ?_)
      · refine g_iconst (pc := 35) (v := 0) C dX12_hasHelp_35 (by decide) ?_
        exact r_B0 C hr dX12_hasHelp_36 (by simp only [helpK]; first | (simp_all; done) | (rw [o2i_neg hw] at c_18; simp_all [Option.isSome_iff_ne_none]; done) | (rw [o2i_neg hp] at c_28; simp_all [Option.isSome_iff_ne_none])) rfl
      · refine g_iconst (pc := 31) (v := 1) C dX12_hasHelp_31 (by decide) ?_
        refine g_goto (pc := 32) (tgt := 36) C dX12_hasHelp_32 (by decide) ?_
        exact r_B1 C hr dX12_hasHelp_36 (by simp only [helpK]; first | (simp_all; done) | (rw [o2i_neg hw] at c_18; simp_all [Option.isSome_iff_ne_none]; done) | (rw [o2i_neg hp] at c_28; simp_all [Option.isSome_iff_ne_none])) rfl

theorem c_X12_dueOf {d : Nat} (hd : 5 ≤ d) (σ : Sg) (hI : INV (σ 136)) {a : Nat} (ha : a < cnt (σ 136) 7) : CI d mX12_dueOf [.ref 135, .int (nI a)] σ (dueA (σ 136) a) σ := by
  have hna := hI.n7.2
  have hk := hI.kind ha
  refine con_of (by decide) (catL rfl) (Nat.le_of_ble_eq_true rfl) ?_
  intro μ ω C hr
  have C : Cx μ ω "TowFieldModel" cX12_dueOf 2 d := C
  have hr : (mH μ).sig.returnType = some .int := hr
  show G μ ω (RQ μ ω (pI (dueA (σ 136) a) σ)) 0 [some (.ref 135), some (.int (nI a))] [] (mk σ) 0 0
  refine g_al0n (pc := 0) C dX12_dueOf_0 ?_
  refine g_il1n (pc := 1) C dX12_dueOf_1 ?_
  refine g_bipush (pc := 2) (v := 7) C dX12_dueOf_2 (by decide) ?_
  refine s_VI (pc := 4) (st := []) C h135 rfl (c_X12_askOf (d := d - 1) (by omega) σ (a := a) (f := 7) (by omega) (by omega) rfl rfl) (by omega) lX12_67 dX12_dueOf_4 rfl (Nat.le_of_ble_eq_true rfl) rfl ?_
  refine g_al0n (pc := 7) C dX12_dueOf_7 ?_
  refine g_il1n (pc := 8) C dX12_dueOf_8 ?_
  refine s_VI (pc := 9) (st := [(.int (σ 136 (146 + 10 * a + 7)))]) C h135 rfl (c_X12_spanOfAsk (d := d - 1) (by omega) σ hI (by omega)) (by omega) lX12_153 dX12_dueOf_9 rfl (Nat.le_of_ble_eq_true rfl) rfl ?_
  refine g_iadd (pc := 12) C dX12_dueOf_12 ?_
  refine g_al0n (pc := 13) C dX12_dueOf_13 ?_
  refine g_il1n (pc := 14) C dX12_dueOf_14 ?_
  refine g_iconst (pc := 15) (v := 5) C dX12_dueOf_15 (by decide) ?_
  refine s_VI (pc := 16) (st := [(.int ((σ 136 (146 + 10 * a + 7)) + (spanA (σ 136) a)))]) C h135 rfl (c_X12_askOf (d := d - 1) (by omega) σ (a := a) (f := 5) (by omega) (by omega) rfl rfl) (by omega) lX12_67 dX12_dueOf_16 rfl (Nat.le_of_ble_eq_true rfl) rfl ?_
  refine g_al0n (pc := 19) C dX12_dueOf_19 ?_
  refine s_getR (pc := 20) C fX12_9 h135 rfl dX12_dueOf_20 ?_
  refine g_bipush (pc := 23) (v := 29) C dX12_dueOf_23 (by decide) ?_
  refine s_iald (pc := 25) (q := 29) C h136 rfl (by omega) (Nat.le_of_ble_eq_true rfl) dX12_dueOf_25 ?_
  refine s_SI (pc := 26) (st := [(.int ((σ 136 (146 + 10 * a + 7)) + (spanA (σ 136) a)))]) C (c_max (d := d - 1) (by omega) σ (σ 136 (146 + 10 * a + 5)) (σ 136 29)) (by omega) lX12_112 dX12_dueOf_26 rfl (Nat.le_of_ble_eq_true rfl) rfl ?_
  refine g_iadd (pc := 29) C dX12_dueOf_29 ?_
  exact r_I C hr dX12_dueOf_30 rfl rfl

