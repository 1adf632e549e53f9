/-! ===== the class: its calls ===== -/
theorem full_n {x : Int32} {n N : Nat} (hx : x = nI n) (hn : n ≤ N) (hN : N < 2 ^ 31) (c : ¬ nI n < nI N) : x = nI N := by
  rcases Nat.lt_or_ge n N with h | h
  · exact absurd (nI_lt h hN) c
  · rw [hx, show n = N by omega]
theorem full_y {x : Int32} {n N : Nat} (hx : x = nI n) (hn : n ≤ N) (hN : N < 2 ^ 31) (c : nI n < nI N) : ¬ x = nI N ∧ n < N := by
  have h := (nI_ltI (by omega) hN).mp c
  exact ⟨fun q => nI_ne (by omega) hN (show n ≠ N by omega) (hx.symm.trans q), h⟩
theorem zero_bits {x : Int32} : x = 0 ↔ ∀ j, j < 32 → hb x (nI j) = false := by
  constructor
  · rintro rfl j hj; exact hb_zero hj
  · intro h
    have := (and_no (s := x) (t := x)).mpr (fun j hj => by rw [h j hj]; rfl)
    apply Int32.toBitVec_inj.mp
    have e := congrArg Int32.toBitVec this
    rw [Int32.toBitVec_and, BitVec.and_self] at e
    exact e
/-- a set of the first n -/
theorem set_in {x o : Int32} {n : Nat} (hx : x = nI n) (hn : n ≤ 14) : (o &&& (((1 : Int32) <<< (x &&& 31) - 1) ^^^ (-1)) = 0) ↔ (0 ≤ o ∧ o ≤ (1 : Int32) <<< (x &&& 31) - 1) := by
  subst hx
  have hp : 2 ^ n ≤ 2 ^ 14 := Nat.pow_le_pow_right (by decide) hn
  have hp0 : 0 < 2 ^ n := Nat.pow_pos (by decide)
  have e : (1 : Int32) <<< (nI n &&& 31) - 1 = nI (2 ^ n - 1) := by
    rw [one_shl (by omega)]
    have := nI_pred (2 ^ n - 1)
    rw [show 2 ^ n - 1 + 1 = 2 ^ n by omega] at this
    exact this
  rw [e, zero_bits]
  have hbM : ∀ j, j < 32 → hb (nI (2 ^ n - 1)) (nI j) = decide (j < n) := fun j hj => by
    rw [hb_bit _ hj]
    show (BitVec.ofNat 32 (2 ^ n - 1)).getLsbD j = _
    rw [BitVec.getLsbD_ofNat, Nat.testBit_two_pow_sub_one]
    simp [hj]
  constructor
  · intro h
    have hlt : o.toBitVec.toNat < 2 ^ n := by
      refine Nat.lt_pow_two_of_testBit _ (fun j hj => ?_)
      by_cases c : j < 32
      · have := h j c
        rw [hb_andn _ _ c, hbM j c, decide_eq_false (by omega), hb_bit _ c] at this
        have t : o.toBitVec.getLsbD j = false := by simpa using this
        exact t
      · exact Nat.testBit_lt_two_pow (Nat.lt_of_lt_of_le o.toBitVec.isLt (Nat.pow_le_pow_right (by decide) (by omega)))
    have eo : o = nI o.toBitVec.toNat := by
      apply Int32.toBitVec_inj.mp
      show _ = BitVec.ofNat 32 o.toBitVec.toNat
      rw [BitVec.ofNat_toNat]; simp
    rw [eo]
    exact ⟨nI_pos' (by omega), nI_le (by omega) (by omega)⟩
  · rintro ⟨h1, h2⟩ j hj
    obtain ⟨k, hk, rfl⟩ := rg ⟨h1, h2⟩ (by omega)
    rw [hb_andn _ _ hj, hbM j hj, hb_bit _ hj]
    show ((BitVec.ofNat 32 k).getLsbD j && !decide (j < n)) = false
    by_cases c : j < n
    · simp [c]
    · have : k.testBit j = false := Nat.testBit_lt_two_pow (Nat.lt_of_lt_of_le (show k < 2 ^ n by omega) (Nat.pow_le_pow_right (by decide) (by omega)))
      rw [BitVec.getLsbD_ofNat, this]; simp
theorem x_winch {d : Nat} (hd : 3 ≤ d) (σ : Sg) {α : Al} (hA : IA α) (hC : RC σ α) : CP d mX11_winch [.ref 0] σ (XPo σ (sp_winch α)) := by
  have hI := hA.i
  have hR := hC.w
  refine con_of (by decide) (catL rfl) (Nat.le_of_ble_eq_true rfl) ?_
  intro μ ω C hr
  have C : Cx μ ω "TowField" cX11_winch 1 d := C
  have hr : (mH μ).sig.returnType = some .int := hr
  show G μ ω (RQ μ ω (pP (XPo σ (sp_winch α)))) 0 [some (.ref 0)] [] (mk σ) 0 0
  refine g_al0n (pc := 0) C dX11_winch_0 ?_
  refine s_getR (pc := 1) C fX11_21 h0 rfl dX11_winch_1 ?_
  refine s_getR (pc := 4) C fX11_91 (w0 (b := 12) isW12) rfl dX11_winch_4 ?_
  refine s_getIv (pc := 7) (v := nI (cnt (aN α) 5)) C fX11_95 (w11 (b := 12) isW12) rfl (hR.n5 hI) dX11_winch_7 ?_
  refine g_iconst (pc := 10) (v := 3) C dX11_winch_10 (by decide) ?_
  refine g_icmp_lt (pc := 11) (tgt := 21) C dX11_winch_11 (by decide) (fun c_11 => ?_) (fun c_11 => ?_)
  · refine g_al0n (pc := 21) C dX11_winch_21 ?_
    refine s_getR (pc := 22) C fX11_21 h0 rfl dX11_winch_22 ?_
    refine s_getR (pc := 25) C fX11_91 (w0 (b := 12) isW12) rfl dX11_winch_25 ?_
    refine s_VI (pc := 28) (st := []) C (w11 (b := 12) isW12) rfl (c_addW (d := d - 1) (by omega) σ isW12 (n := cnt (aN α) 5) (hR.n5 hI) (full_y hI.n5.1 hI.n5.2 (N := 3) (by decide) c_11).2) (by omega) lX11_98 dX11_winch_28 rfl (Nat.le_of_ble_eq_true rfl) rfl ?_
    have hfu := full_y hI.n5.1 hI.n5.2 (N := 3) (by decide) c_11
    have hfx : ¬ aN α 5 = 3 := hfu.1
    have hfl := hfu.2
    have hsp : sp_winch α = (aN α 5, sN α (upd (upd (upd (upd (upd (aN α) (33 + 4 * cnt (aN α) 5 + 2 * 0) 0) (33 + 4 * cnt (aN α) 5 + 2 * 0 + 1) (-1)) (33 + 4 * cnt (aN α) 5 + 2 * 1) 0) (33 + 4 * cnt (aN α) 5 + 2 * 1 + 1) (-1)) 5 (aN α 5 + 1))) := by simp only [sp_winch, c_11, hfx, eq_self, ne_eq, not_true_eq_false, not_false_eq_true, Classical.not_not, decide_true, decide_false, and_true, true_and, and_false, false_and, and_self, or_true, true_or, or_false, false_or, or_self, if_true, if_false, ite_true, ite_false, Bool.eq_false_iff, Bool.not_eq_eq_eq_not, Bool.true_eq_false, Bool.false_eq_true, reduceCtorEq]; simp (disch := omega) only [upd_ne]
    exact r_P C hr dX11_winch_31 (XPo_now hA hC (W_winch isW12 hI hR hI.n5.1 hfl) (Fz.up (z := 12) (k := 11) (by omega) (Fz.up (z := 12) (k := 13) (by omega) (Fz.up (z := 12) (k := 12) (by omega) (Fz.up (z := 12) (k := 13) (by omega) (Fz.up (z := 12) (k := 12) (by omega) Fz.rf))))) hsp hI.n5.1.symm)
  · refine g_al0n (pc := 14) C dX11_winch_14 ?_
    refine g_ldc (pc := 15) C dX11_winch_15 kX11_82 ?_
    refine s_VI (pc := 17) (st := []) C h0 rfl (c_found1 (d := d - 1) (by omega) σ) (by omega) lX11_58 dX11_winch_17 rfl (Nat.le_of_ble_eq_true rfl) rfl ?_
    have hfx : aN α 5 = 3 := full_n hI.n5.1 hI.n5.2 (N := 3) (by decide) c_11
    have hsp : sp_winch α = FF α := by simp only [sp_winch, c_11, hfx, eq_self, ne_eq, not_true_eq_false, not_false_eq_true, Classical.not_not, decide_true, decide_false, and_true, true_and, and_false, false_and, and_self, or_true, true_or, or_false, false_or, or_self, if_true, if_false, ite_true, ite_false, Bool.eq_false_iff, Bool.not_eq_eq_eq_not, Bool.true_eq_false, Bool.false_eq_true, reduceCtorEq]
    exact r_P C hr dX11_winch_20 (by rw [hsp]; exact XPo_fnd hA hC (i := 1) (by decide) _)

theorem x_plane {d : Nat} (hd : 3 ≤ d) (σ : Sg) {α : Al} (hA : IA α) (hC : RC σ α) : CP d mX11_plane [.ref 0] σ (XPo σ (sp_plane α)) := by
  have hI := hA.i
  have hR := hC.w
  refine con_of (by decide) (catL rfl) (Nat.le_of_ble_eq_true rfl) ?_
  intro μ ω C hr
  have C : Cx μ ω "TowField" cX11_plane 1 d := C
  have hr : (mH μ).sig.returnType = some .int := hr
  show G μ ω (RQ μ ω (pP (XPo σ (sp_plane α)))) 0 [some (.ref 0)] [] (mk σ) 0 0
  refine g_al0n (pc := 0) C dX11_plane_0 ?_
  refine s_getR (pc := 1) C fX11_21 h0 rfl dX11_plane_1 ?_
  refine s_getR (pc := 4) C fX11_100 (w0 (b := 12) isW12) rfl dX11_plane_4 ?_
  refine s_getIv (pc := 7) (v := nI (cnt (aN α) 6)) C fX11_104 (w14 (b := 12) isW12) rfl (hR.n6 hI) dX11_plane_7 ?_
  refine g_iconst (pc := 10) (v := 3) C dX11_plane_10 (by decide) ?_
  refine g_icmp_lt (pc := 11) (tgt := 21) C dX11_plane_11 (by decide) (fun c_11 => ?_) (fun c_11 => ?_)
  · refine g_al0n (pc := 21) C dX11_plane_21 ?_
    refine s_getR (pc := 22) C fX11_21 h0 rfl dX11_plane_22 ?_
    refine s_getR (pc := 25) C fX11_100 (w0 (b := 12) isW12) rfl dX11_plane_25 ?_
    refine s_VI (pc := 28) (st := []) C (w14 (b := 12) isW12) rfl (c_addN (d := d - 1) (by omega) σ isW12 (n := cnt (aN α) 6) (hR.n6 hI) (full_y hI.n6.1 hI.n6.2 (N := 3) (by decide) c_11).2) (by omega) lX11_107 dX11_plane_28 rfl (Nat.le_of_ble_eq_true rfl) rfl ?_
    have hfu := full_y hI.n6.1 hI.n6.2 (N := 3) (by decide) c_11
    have hfx : ¬ aN α 6 = 3 := hfu.1
    have hfl := hfu.2
    have hsp : sp_plane α = (aN α 6, sN α (upd (upd (aN α) (30 + cnt (aN α) 6) (-1)) 6 (aN α 6 + 1))) := by simp only [sp_plane, c_11, hfx, eq_self, ne_eq, not_true_eq_false, not_false_eq_true, Classical.not_not, decide_true, decide_false, and_true, true_and, and_false, false_and, and_self, or_true, true_or, or_false, false_or, or_self, if_true, if_false, ite_true, ite_false, Bool.eq_false_iff, Bool.not_eq_eq_eq_not, Bool.true_eq_false, Bool.false_eq_true, reduceCtorEq]; simp (disch := omega) only [upd_ne]
    exact r_P C hr dX11_plane_31 (XPo_now hA hC (W_plane isW12 hI hR hI.n6.1 hfl) (Fz.up (z := 12) (k := 14) (by omega) (Fz.up (z := 12) (k := 15) (by omega) Fz.rf)) hsp hI.n6.1.symm)
  · refine g_al0n (pc := 14) C dX11_plane_14 ?_
    refine g_ldc (pc := 15) C dX11_plane_15 kX11_82 ?_
    refine s_VI (pc := 17) (st := []) C h0 rfl (c_found1 (d := d - 1) (by omega) σ) (by omega) lX11_58 dX11_plane_17 rfl (Nat.le_of_ble_eq_true rfl) rfl ?_
    have hfx : aN α 6 = 3 := full_n hI.n6.1 hI.n6.2 (N := 3) (by decide) c_11
    have hsp : sp_plane α = FF α := by simp only [sp_plane, c_11, hfx, eq_self, ne_eq, not_true_eq_false, not_false_eq_true, Classical.not_not, decide_true, decide_false, and_true, true_and, and_false, false_and, and_self, or_true, true_or, or_false, false_or, or_self, if_true, if_false, ite_true, ite_false, Bool.eq_false_iff, Bool.not_eq_eq_eq_not, Bool.true_eq_false, Bool.false_eq_true, reduceCtorEq]
    exact r_P C hr dX11_plane_20 (by rw [hsp]; exact XPo_fnd hA hC (i := 1) (by decide) _)

theorem x_person {d : Nat} (hd : 3 ≤ d) (σ : Sg) {α : Al} (hA : IA α) (hC : RC σ α) (w p : Int32) : CP d mX11_person [.ref 0, .int w, .int p] σ (XPo σ (sp_person α w p)) := by
  have hI := hA.i
  have hR := hC.w
  refine con_of (by decide) (catL rfl) (Nat.le_of_ble_eq_true rfl) ?_
  intro μ ω C hr
  have C : Cx μ ω "TowField" cX11_person 3 d := C
  have hr : (mH μ).sig.returnType = some .int := hr
  show G μ ω (RQ μ ω (pP (XPo σ (sp_person α w p)))) 0 [some (.ref 0), some (.int w), some (.int p)] [] (mk σ) 0 0
  refine g_il1n (pc := 0) C dX11_person_0 ?_
  refine g_bipush (pc := 1) (v := 40) C dX11_person_1 (by decide) ?_
  refine g_sipush (pc := 3) (v := 130) C dX11_person_3 (by decide) ?_
  refine s_SB (pc := 6) (st := []) C (c_X11_within (d := d - 1) (by omega) σ w 40 130) (by omega) lX11_53 dX11_person_6 rfl (Nat.le_of_ble_eq_true rfl) rfl (fun b_6 => ?_) (fun b_6 => ?_)
  · refine g_if_eq (pc := 9) (tgt := 19) C dX11_person_9 (by decide) (fun c => absurd c (by decide)) (fun _ => ?_)
    refine g_il2n (pc := 12) C dX11_person_12 ?_
    refine g_bipush (pc := 13) (v := (-127)) C dX11_person_13 (by decide) ?_
    refine g_iand (pc := 15) C dX11_person_15 ?_
    refine g_if_eq (pc := 16) (tgt := 26) C dX11_person_16 (by decide) (fun c_16 => ?_) (fun c_16 => ?_)
    · refine g_al0n (pc := 26) C dX11_person_26 ?_
      refine s_getR (pc := 27) C fX11_21 h0 rfl dX11_person_27 ?_
      refine s_getR (pc := 30) C fX11_62 (w0 (b := 12) isW12) rfl dX11_person_30 ?_
      refine s_getIv (pc := 33) (v := nI (cnt (aN α) 4)) C fX11_87 (w6 (b := 12) isW12) rfl (hR.n4 hI) dX11_person_33 ?_
      refine g_bipush (pc := 36) (v := 14) C dX11_person_36 (by decide) ?_
      refine g_icmp_lt (pc := 38) (tgt := 48) C dX11_person_38 (by decide) (fun c_38 => ?_) (fun c_38 => ?_)
      · refine g_al0n (pc := 48) C dX11_person_48 ?_
        refine s_getR (pc := 49) C fX11_21 h0 rfl dX11_person_49 ?_
        refine s_getR (pc := 52) C fX11_62 (w0 (b := 12) isW12) rfl dX11_person_52 ?_
        refine g_il1n (pc := 55) C dX11_person_55 ?_
        refine g_il2n (pc := 56) C dX11_person_56 ?_
        refine s_VI (pc := 57) (st := []) C (w6 (b := 12) isW12) rfl (c_addP (d := d - 1) (by omega) σ isW12 (n := cnt (aN α) 4) (hR.n4 hI) (full_y hI.n4.1 hI.n4.2 (N := 14) (by decide) c_38).2 w p) (by omega) lX11_88 dX11_person_57 rfl (Nat.le_of_ble_eq_true rfl) rfl ?_
        have hfu := full_y hI.n4.1 hI.n4.2 (N := 14) (by decide) c_38
        have hfx : ¬ aN α 4 = 14 := hfu.1
        have hfl := hfu.2
        have hsp : sp_person α w p = (aN α 4, sN α (upd (upd (upd (upd (upd (aN α) (90 + 4 * cnt (aN α) 4) w) (90 + 4 * cnt (aN α) 4 + 1) p) (90 + 4 * cnt (aN α) 4 + 2) (-1)) (90 + 4 * cnt (aN α) 4 + 3) 0) 4 (aN α 4 + 1))) := by simp only [sp_person, b_6, eq_true c_16, c_38, hfx, eq_self, ne_eq, not_true_eq_false, not_false_eq_true, Classical.not_not, decide_true, decide_false, and_true, true_and, and_false, false_and, and_self, or_true, true_or, or_false, false_or, or_self, if_true, if_false, ite_true, ite_false, Bool.eq_false_iff, Bool.not_eq_eq_eq_not, Bool.true_eq_false, Bool.false_eq_true, reduceCtorEq]; simp (disch := omega) only [upd_ne]
        exact r_P C hr dX11_person_60 (XPo_now hA hC (W_person isW12 hI hR hI.n4.1 hfl w p) (Fz.up (z := 12) (k := 6) (by omega) (Fz.up (z := 12) (k := 10) (by omega) (Fz.up (z := 12) (k := 9) (by omega) (Fz.up (z := 12) (k := 8) (by omega) (Fz.up (z := 12) (k := 7) (by omega) Fz.rf))))) hsp hI.n4.1.symm)
      · refine g_al0n (pc := 41) C dX11_person_41 ?_
        refine g_ldc (pc := 42) C dX11_person_42 kX11_82 ?_
        refine s_VI (pc := 44) (st := []) C h0 rfl (c_found1 (d := d - 1) (by omega) σ) (by omega) lX11_58 dX11_person_44 rfl (Nat.le_of_ble_eq_true rfl) rfl ?_
        have hfx : aN α 4 = 14 := full_n hI.n4.1 hI.n4.2 (N := 14) (by decide) c_38
        have hsp : sp_person α w p = FF α := by simp only [sp_person, b_6, eq_true c_16, c_38, hfx, eq_self, ne_eq, not_true_eq_false, not_false_eq_true, Classical.not_not, decide_true, decide_false, and_true, true_and, and_false, false_and, and_self, or_true, true_or, or_false, false_or, or_self, if_true, if_false, ite_true, ite_false, Bool.eq_false_iff, Bool.not_eq_eq_eq_not, Bool.true_eq_false, Bool.false_eq_true, reduceCtorEq]
        exact r_P C hr dX11_person_47 (by rw [hsp]; exact XPo_fnd hA hC (i := 1) (by decide) _)
    · refine g_al0n (pc := 19) C dX11_person_19 ?_
      refine g_ldc (pc := 20) C dX11_person_20 kX11_57 ?_
      refine s_VI (pc := 22) (st := []) C h0 rfl (c_found0 (d := d - 1) (by omega) σ) (by omega) lX11_58 dX11_person_22 rfl (Nat.le_of_ble_eq_true rfl) rfl ?_
      have hsp : sp_person α w p = FB α := by simp only [sp_person, b_6, c_16, eq_self, ne_eq, not_true_eq_false, not_false_eq_true, Classical.not_not, decide_true, decide_false, and_true, true_and, and_false, false_and, and_self, or_true, true_or, or_false, false_or, or_self, if_true, if_false, ite_true, ite_false, Bool.eq_false_iff, Bool.not_eq_eq_eq_not, Bool.true_eq_false, Bool.false_eq_true, reduceCtorEq]
      exact r_P C hr dX11_person_25 (by rw [hsp]; exact XPo_fnd hA hC (i := 0) (by decide) _)
  · refine g_if_eq (pc := 9) (tgt := 19) C dX11_person_9 (by decide) (fun _ => ?_) (fun c => absurd c (by decide))
    refine g_al0n (pc := 19) C dX11_person_19 ?_
    refine g_ldc (pc := 20) C dX11_person_20 kX11_57 ?_
    refine s_VI (pc := 22) (st := []) C h0 rfl (c_found0 (d := d - 1) (by omega) σ) (by omega) lX11_58 dX11_person_22 rfl (Nat.le_of_ble_eq_true rfl) rfl ?_
    have hsp : sp_person α w p = FB α := by simp only [sp_person, b_6, eq_self, ne_eq, not_true_eq_false, not_false_eq_true, Classical.not_not, decide_true, decide_false, and_true, true_and, and_false, false_and, and_self, or_true, true_or, or_false, false_or, or_self, if_true, if_false, ite_true, ite_false, Bool.eq_false_iff, Bool.not_eq_eq_eq_not, Bool.true_eq_false, Bool.false_eq_true, reduceCtorEq]
    exact r_P C hr dX11_person_25 (by rw [hsp]; exact XPo_fnd hA hC (i := 0) (by decide) _)

theorem x_glider {d : Nat} (hd : 3 ≤ d) (σ : Sg) {α : Al} (hA : IA α) (hC : RC σ α) (s m l q : Int32) : CP d mX11_glider [.ref 0, .int s, .int m, .int l, .int q] σ (XPo σ (sp_glider α s m l q)) := by
  have hI := hA.i
  have hR := hC.w
  refine con_of (by decide) (catL rfl) (Nat.le_of_ble_eq_true rfl) ?_
  intro μ ω C hr
  have C : Cx μ ω "TowField" cX11_glider 5 d := C
  have hr : (mH μ).sig.returnType = some .int := hr
  show G μ ω (RQ μ ω (pP (XPo σ (sp_glider α s m l q)))) 0 [some (.ref 0), some (.int s), some (.int m), some (.int l), some (.int q)] [] (mk σ) 0 0
  refine g_il1n (pc := 0) C dX11_glider_0 ?_
  refine g_iconst (pc := 1) (v := 1) C dX11_glider_1 (by decide) ?_
  refine g_iconst (pc := 2) (v := 2) C dX11_glider_2 (by decide) ?_
  refine s_SB (pc := 3) (st := []) C (c_X11_within (d := d - 1) (by omega) σ s 1 2) (by omega) lX11_53 dX11_glider_3 rfl (Nat.le_of_ble_eq_true rfl) rfl (fun b_3 => ?_) (fun b_3 => ?_)
  · refine g_if_eq (pc := 6) (tgt := 30) C dX11_glider_6 (by decide) (fun c => absurd c (by decide)) (fun _ => ?_)
    refine g_il2n (pc := 9) C dX11_glider_9 ?_
    refine g_bipush (pc := 10) (v := 60) C dX11_glider_10 (by decide) ?_
    refine g_sipush (pc := 12) (v := 250) C dX11_glider_12 (by decide) ?_
    refine s_SB (pc := 15) (st := []) C (c_X11_within (d := d - 1) (by omega) σ m 60 250) (by omega) lX11_53 dX11_glider_15 rfl (Nat.le_of_ble_eq_true rfl) rfl (fun b_15 => ?_) (fun b_15 => ?_)
    · refine g_if_eq (pc := 18) (tgt := 30) C dX11_glider_18 (by decide) (fun c => absurd c (by decide)) (fun _ => ?_)
      refine g_il3n (pc := 21) C dX11_glider_21 ?_
      refine g_iconst (pc := 22) (v := 0) C dX11_glider_22 (by decide) ?_
      refine g_iconst (pc := 23) (v := 3) C dX11_glider_23 (by decide) ?_
      refine s_SB (pc := 24) (st := []) C (c_X11_within (d := d - 1) (by omega) σ l 0 3) (by omega) lX11_53 dX11_glider_24 rfl (Nat.le_of_ble_eq_true rfl) rfl (fun b_24 => ?_) (fun b_24 => ?_)
      · refine g_if_ne (pc := 27) (tgt := 37) C dX11_glider_27 (by decide) (fun _ => ?_) (fun c => absurd c (by decide))
        refine g_il4 (pc := 37) C dX11_glider_37 ?_
        refine g_al0n (pc := 39) C dX11_glider_39 ?_
        refine s_getR (pc := 40) C fX11_21 h0 rfl dX11_glider_40 ?_
        refine s_getR (pc := 43) C fX11_62 (w0 (b := 12) isW12) rfl dX11_glider_43 ?_
        refine s_VI (pc := 46) (st := [(.int q)]) C (w6 (b := 12) isW12) rfl (by have := c_all (d := d - 1) (by omega) σ isW12; rw [hR.p.1] at this; exact this) (by omega) lX11_66 dX11_glider_46 rfl (Nat.le_of_ble_eq_true rfl) rfl ?_
        refine g_iconst (pc := 49) (v := (-1)) C dX11_glider_49 (by decide) ?_
        refine g_ixor (pc := 50) C dX11_glider_50 ?_
        refine g_iand (pc := 51) C dX11_glider_51 ?_
        refine g_if_eq (pc := 52) (tgt := 62) C dX11_glider_52 (by decide) (fun c_52 => ?_) (fun c_52 => ?_)
        · refine g_al0n (pc := 62) C dX11_glider_62 ?_
          refine s_getR (pc := 63) C fX11_21 h0 rfl dX11_glider_63 ?_
          refine s_getR (pc := 66) C fX11_72 (w0 (b := 12) isW12) rfl dX11_glider_66 ?_
          refine s_getIv (pc := 69) (v := nI (cnt (aN α) 3)) C fX11_76 (w1 (b := 12) isW12) rfl (hR.n3 hI) dX11_glider_69 ?_
          refine g_bipush (pc := 72) (v := 10) C dX11_glider_72 (by decide) ?_
          refine g_icmp_lt (pc := 74) (tgt := 84) C dX11_glider_74 (by decide) (fun c_74 => ?_) (fun c_74 => ?_)
          · refine g_al0n (pc := 84) C dX11_glider_84 ?_
            refine s_getR (pc := 85) C fX11_21 h0 rfl dX11_glider_85 ?_
            refine s_getR (pc := 88) C fX11_72 (w0 (b := 12) isW12) rfl dX11_glider_88 ?_
            refine g_il1n (pc := 91) C dX11_glider_91 ?_
            refine g_il2n (pc := 92) C dX11_glider_92 ?_
            refine g_il3n (pc := 93) C dX11_glider_93 ?_
            refine g_il4 (pc := 94) C dX11_glider_94 ?_
            refine s_VI (pc := 96) (st := []) C (w1 (b := 12) isW12) rfl (c_addG (d := d - 1) (by omega) σ isW12 (n := cnt (aN α) 3) (hR.n3 hI) (full_y hI.n3.1 hI.n3.2 (N := 10) (by decide) c_74).2 s m l q) (by omega) lX11_83 dX11_glider_96 rfl (Nat.le_of_ble_eq_true rfl) rfl ?_
            have hst := (set_in hI.n4.1 hI.n4.2).mp c_52
            have hfu := full_y hI.n3.1 hI.n3.2 (N := 10) (by decide) c_74
            have hfx : ¬ aN α 3 = 10 := hfu.1
            have hfl := hfu.2
            have hsp : sp_glider α s m l q = (aN α 3, sN α (upd (upd (upd (upd (upd (aN α) (50 + 4 * cnt (aN α) 3) s) (50 + 4 * cnt (aN α) 3 + 1) m) (50 + 4 * cnt (aN α) 3 + 2) l) (50 + 4 * cnt (aN α) 3 + 3) q) 3 (aN α 3 + 1))) := by simp only [sp_glider, b_3, b_15, b_24, eq_true c_52, c_74, hst, hfx, eq_self, ne_eq, not_true_eq_false, not_false_eq_true, Classical.not_not, decide_true, decide_false, and_true, true_and, and_false, false_and, and_self, or_true, true_or, or_false, false_or, or_self, if_true, if_false, ite_true, ite_false, Bool.eq_false_iff, Bool.not_eq_eq_eq_not, Bool.true_eq_false, Bool.false_eq_true, reduceCtorEq]; simp (disch := omega) only [upd_ne]
            exact r_P C hr dX11_glider_99 (XPo_now hA hC (W_glider isW12 hI hR hI.n3.1 hfl s m l q) (Fz.up (z := 12) (k := 1) (by omega) (Fz.up (z := 12) (k := 5) (by omega) (Fz.up (z := 12) (k := 4) (by omega) (Fz.up (z := 12) (k := 3) (by omega) (Fz.up (z := 12) (k := 2) (by omega) Fz.rf))))) hsp hI.n3.1.symm)
          · refine g_al0n (pc := 77) C dX11_glider_77 ?_
            refine g_ldc (pc := 78) C dX11_glider_78 kX11_82 ?_
            refine s_VI (pc := 80) (st := []) C h0 rfl (c_found1 (d := d - 1) (by omega) σ) (by omega) lX11_58 dX11_glider_80 rfl (Nat.le_of_ble_eq_true rfl) rfl ?_
            have hst := (set_in hI.n4.1 hI.n4.2).mp c_52
            have hfx : aN α 3 = 10 := full_n hI.n3.1 hI.n3.2 (N := 10) (by decide) c_74
            have hsp : sp_glider α s m l q = FF α := by simp only [sp_glider, b_3, b_15, b_24, eq_true c_52, c_74, hst, hfx, eq_self, ne_eq, not_true_eq_false, not_false_eq_true, Classical.not_not, decide_true, decide_false, and_true, true_and, and_false, false_and, and_self, or_true, true_or, or_false, false_or, or_self, if_true, if_false, ite_true, ite_false, Bool.eq_false_iff, Bool.not_eq_eq_eq_not, Bool.true_eq_false, Bool.false_eq_true, reduceCtorEq]
            exact r_P C hr dX11_glider_83 (by rw [hsp]; exact XPo_fnd hA hC (i := 1) (by decide) _)
        · refine g_al0n (pc := 55) C dX11_glider_55 ?_
          refine g_ldc (pc := 56) C dX11_glider_56 kX11_57 ?_
          refine s_VI (pc := 58) (st := []) C h0 rfl (c_found0 (d := d - 1) (by omega) σ) (by omega) lX11_58 dX11_glider_58 rfl (Nat.le_of_ble_eq_true rfl) rfl ?_
          have hst : ¬ (0 ≤ q ∧ q ≤ (1 : Int32) <<< (aN α 4 &&& 31) - 1) := fun y => c_52 ((set_in hI.n4.1 hI.n4.2).mpr y)
          have hsp : sp_glider α s m l q = FB α := by simp only [sp_glider, b_3, b_15, b_24, c_52, hst, eq_self, ne_eq, not_true_eq_false, not_false_eq_true, Classical.not_not, decide_true, decide_false, and_true, true_and, and_false, false_and, and_self, or_true, true_or, or_false, false_or, or_self, if_true, if_false, ite_true, ite_false, Bool.eq_false_iff, Bool.not_eq_eq_eq_not, Bool.true_eq_false, Bool.false_eq_true, reduceCtorEq]
          exact r_P C hr dX11_glider_61 (by rw [hsp]; exact XPo_fnd hA hC (i := 0) (by decide) _)
      · refine g_if_ne (pc := 27) (tgt := 37) C dX11_glider_27 (by decide) (fun c => absurd c (by decide)) (fun _ => ?_)
        refine g_al0n (pc := 30) C dX11_glider_30 ?_
        refine g_ldc (pc := 31) C dX11_glider_31 kX11_57 ?_
        refine s_VI (pc := 33) (st := []) C h0 rfl (c_found0 (d := d - 1) (by omega) σ) (by omega) lX11_58 dX11_glider_33 rfl (Nat.le_of_ble_eq_true rfl) rfl ?_
        have hsp : sp_glider α s m l q = FB α := by simp only [sp_glider, b_3, b_15, b_24, eq_self, ne_eq, not_true_eq_false, not_false_eq_true, Classical.not_not, decide_true, decide_false, and_true, true_and, and_false, false_and, and_self, or_true, true_or, or_false, false_or, or_self, if_true, if_false, ite_true, ite_false, Bool.eq_false_iff, Bool.not_eq_eq_eq_not, Bool.true_eq_false, Bool.false_eq_true, reduceCtorEq]
        exact r_P C hr dX11_glider_36 (by rw [hsp]; exact XPo_fnd hA hC (i := 0) (by decide) _)
    · refine g_if_eq (pc := 18) (tgt := 30) C dX11_glider_18 (by decide) (fun _ => ?_) (fun c => absurd c (by decide))
      refine g_al0n (pc := 30) C dX11_glider_30 ?_
      refine g_ldc (pc := 31) C dX11_glider_31 kX11_57 ?_
      refine s_VI (pc := 33) (st := []) C h0 rfl (c_found0 (d := d - 1) (by omega) σ) (by omega) lX11_58 dX11_glider_33 rfl (Nat.le_of_ble_eq_true rfl) rfl ?_
      have hsp : sp_glider α s m l q = FB α := by simp only [sp_glider, b_3, b_15, eq_self, ne_eq, not_true_eq_false, not_false_eq_true, Classical.not_not, decide_true, decide_false, and_true, true_and, and_false, false_and, and_self, or_true, true_or, or_false, false_or, or_self, if_true, if_false, ite_true, ite_false, Bool.eq_false_iff, Bool.not_eq_eq_eq_not, Bool.true_eq_false, Bool.false_eq_true, reduceCtorEq]
      exact r_P C hr dX11_glider_36 (by rw [hsp]; exact XPo_fnd hA hC (i := 0) (by decide) _)
  · refine g_if_eq (pc := 6) (tgt := 30) C dX11_glider_6 (by decide) (fun _ => ?_) (fun c => absurd c (by decide))
    refine g_al0n (pc := 30) C dX11_glider_30 ?_
    refine g_ldc (pc := 31) C dX11_glider_31 kX11_57 ?_
    refine s_VI (pc := 33) (st := []) C h0 rfl (c_found0 (d := d - 1) (by omega) σ) (by omega) lX11_58 dX11_glider_33 rfl (Nat.le_of_ble_eq_true rfl) rfl ?_
    have hsp : sp_glider α s m l q = FB α := by simp only [sp_glider, b_3, eq_self, ne_eq, not_true_eq_false, not_false_eq_true, Classical.not_not, decide_true, decide_false, and_true, true_and, and_false, false_and, and_self, or_true, true_or, or_false, false_or, or_self, if_true, if_false, ite_true, ite_false, Bool.eq_false_iff, Bool.not_eq_eq_eq_not, Bool.true_eq_false, Bool.false_eq_true, reduceCtorEq]
    exact r_P C hr dX11_glider_36 (by rw [hsp]; exact XPo_fnd hA hC (i := 0) (by decide) _)

theorem x_gliderIs {d : Nat} (hd : 4 ≤ d) (σ : Sg) {α : Al} (hA : IA α) (hC : RC σ α) (g x : Int32) : CP d mX11_gliderIs [.ref 0, .int g, .int x] σ (XPo σ (sp_gliderIs α g x)) := by
  have hI := hA.i
  have hR := hC.w
  refine con_of (by decide) (catL rfl) (Nat.le_of_ble_eq_true rfl) ?_
  intro μ ω C hr
  have C : Cx μ ω "TowField" cX11_gliderIs 3 d := C
  have hr : (mH μ).sig.returnType = some .int := hr
  show G μ ω (RQ μ ω (pP (XPo σ (sp_gliderIs α g x)))) 0 [some (.ref 0), some (.int g), some (.int x)] [] (mk σ) 0 0
  refine g_al0n (pc := 0) C dX11_gliderIs_0 ?_
  refine s_getR (pc := 1) C fX11_21 h0 rfl dX11_gliderIs_1 ?_
  refine s_getR (pc := 4) C fX11_72 (w0 (b := 12) isW12) rfl dX11_gliderIs_4 ?_
  refine g_il1n (pc := 7) C dX11_gliderIs_7 ?_
  refine s_VB (pc := 8) (st := []) C (w1 (b := 12) isW12) rfl (by have := c_hasX1 (d := d - 1) (by omega) σ isW12 g; rw [hR.g.1] at this; exact this) (by omega) lX11_108 dX11_gliderIs_8 rfl (Nat.le_of_ble_eq_true rfl) rfl (fun b_8 => ?_) (fun b_8 => ?_)
  · have hn3 := hI.n3.2
    obtain ⟨j, hj, rfl⟩ := (is_iff hI.n3.1 (by omega)).mp b_8
    have kj : (nI j).toNatClampNeg = j := nI_clamp (by omega)
    refine g_if_eq (pc := 11) (tgt := 23) C dX11_gliderIs_11 (by decide) (fun c => absurd c (by decide)) (fun _ => ?_)
    refine g_il2n (pc := 14) C dX11_gliderIs_14 ?_
    refine g_iconst (pc := 15) (v := 0) C dX11_gliderIs_15 (by decide) ?_
    refine g_iconst (pc := 16) (v := 4) C dX11_gliderIs_16 (by decide) ?_
    refine s_SB (pc := 17) (st := []) C (c_X11_within (d := d - 1) (by omega) σ x 0 4) (by omega) lX11_53 dX11_gliderIs_17 rfl (Nat.le_of_ble_eq_true rfl) rfl (fun b_17 => ?_) (fun b_17 => ?_)
    · obtain ⟨w, hw, rfl⟩ := rgL b_17 (by decide) (B := 4) (by decide)
      have kw : (nI w).toNatClampNeg = w := nI_clamp (by omega)
      refine g_if_ne (pc := 20) (tgt := 30) C dX11_gliderIs_20 (by decide) (fun _ => ?_) (fun c => absurd c (by decide))
      refine g_al0n (pc := 30) C dX11_gliderIs_30 ?_
      refine s_getR (pc := 31) C fX11_21 h0 rfl dX11_gliderIs_31 ?_
      refine s_getR (pc := 34) C fX11_72 (w0 (b := 12) isW12) rfl dX11_gliderIs_34 ?_
      refine g_il1n (pc := 37) C dX11_gliderIs_37 ?_
      refine g_il2n (pc := 38) C dX11_gliderIs_38 ?_
      refine s_VP (pc := 39) (st := []) C (w1 (b := 12) isW12) rfl (CI.p (post := fun v t => v = _ ∧ t = σ) (c_tellG (d := d - 1) (by omega) σ isW12 (k := j) (by omega) (nI w)) ⟨rfl, rfl⟩) (by omega) lX11_112 dX11_gliderIs_39 rfl (Nat.le_of_ble_eq_true rfl) rfl (fun v τ hv => ?_)
      obtain ⟨hv, ht⟩ := hv
      rw [ht]
      have hvv : v = if (nI w : Int32) < 4 then aN α (50 + 4 * j + w) else if inRow (aN α) (nI j) = true then 1 else 0 := by
        rw [hv]
        rcases (show w = 0 ∨ w = 1 ∨ w = 2 ∨ w = 3 ∨ w = 4 by omega) with rfl | rfl | rfl | rfl | rfl
        · exact hR.g0 hj
        · exact hR.g1 hj
        · exact hR.g2 hj
        · exact hR.g3 hj
        · exact (by show (if hb (σ (12 + 1) 5) (nI j) = true then (0 : Int32) else 1) = _; rw [hR.b.1 j (by omega)]; cases inRow (aN α) (nI j) <;> rfl)
      have hsp : sp_gliderIs α (nI j) (nI w) = (if (nI w : Int32) < 4 then aN α (50 + 4 * j + w) else if inRow (aN α) (nI j) = true then 1 else 0, α) := by simp only [sp_gliderIs, b_8, b_17, kj, kw, eq_self, ne_eq, not_true_eq_false, not_false_eq_true, Classical.not_not, decide_true, decide_false, and_true, true_and, and_false, false_and, and_self, or_true, true_or, or_false, false_or, or_self, if_true, if_false, ite_true, ite_false, Bool.eq_false_iff, Bool.not_eq_eq_eq_not, Bool.true_eq_false, Bool.false_eq_true, reduceCtorEq]
      exact r_P C hr dX11_gliderIs_42 (XPo_val hC hsp hvv)
    · refine g_if_ne (pc := 20) (tgt := 30) C dX11_gliderIs_20 (by decide) (fun c => absurd c (by decide)) (fun _ => ?_)
      refine g_al0n (pc := 23) C dX11_gliderIs_23 ?_
      refine g_ldc (pc := 24) C dX11_gliderIs_24 kX11_57 ?_
      refine s_VI (pc := 26) (st := []) C h0 rfl (c_found0 (d := d - 1) (by omega) σ) (by omega) lX11_58 dX11_gliderIs_26 rfl (Nat.le_of_ble_eq_true rfl) rfl ?_
      have hsp : sp_gliderIs α (nI j) x = FB α := by simp only [sp_gliderIs, b_8, b_17, kj, eq_self, ne_eq, not_true_eq_false, not_false_eq_true, Classical.not_not, decide_true, decide_false, and_true, true_and, and_false, false_and, and_self, or_true, true_or, or_false, false_or, or_self, if_true, if_false, ite_true, ite_false, Bool.eq_false_iff, Bool.not_eq_eq_eq_not, Bool.true_eq_false, Bool.false_eq_true, reduceCtorEq]
      exact r_P C hr dX11_gliderIs_29 (by rw [hsp]; exact XPo_fnd hA hC (i := 0) (by decide) _)
  · refine g_if_eq (pc := 11) (tgt := 23) C dX11_gliderIs_11 (by decide) (fun _ => ?_) (fun c => absurd c (by decide))
    refine g_al0n (pc := 23) C dX11_gliderIs_23 ?_
    refine g_ldc (pc := 24) C dX11_gliderIs_24 kX11_57 ?_
    refine s_VI (pc := 26) (st := []) C h0 rfl (c_found0 (d := d - 1) (by omega) σ) (by omega) lX11_58 dX11_gliderIs_26 rfl (Nat.le_of_ble_eq_true rfl) rfl ?_
    have hsp : sp_gliderIs α g x = FB α := by simp only [sp_gliderIs, b_8, eq_self, ne_eq, not_true_eq_false, not_false_eq_true, Classical.not_not, decide_true, decide_false, and_true, true_and, and_false, false_and, and_self, or_true, true_or, or_false, false_or, or_self, if_true, if_false, ite_true, ite_false, Bool.eq_false_iff, Bool.not_eq_eq_eq_not, Bool.true_eq_false, Bool.false_eq_true, reduceCtorEq]
    exact r_P C hr dX11_gliderIs_29 (by rw [hsp]; exact XPo_fnd hA hC (i := 0) (by decide) _)

theorem x_personIs {d : Nat} (hd : 4 ≤ d) (σ : Sg) {α : Al} (hA : IA α) (hC : RC σ α) (g x : Int32) : CP d mX11_personIs [.ref 0, .int g, .int x] σ (XPo σ (sp_personIs α g x)) := by
  have hI := hA.i
  have hR := hC.w
  refine con_of (by decide) (catL rfl) (Nat.le_of_ble_eq_true rfl) ?_
  intro μ ω C hr
  have C : Cx μ ω "TowField" cX11_personIs 3 d := C
  have hr : (mH μ).sig.returnType = some .int := hr
  show G μ ω (RQ μ ω (pP (XPo σ (sp_personIs α g x)))) 0 [some (.ref 0), some (.int g), some (.int x)] [] (mk σ) 0 0
  refine g_al0n (pc := 0) C dX11_personIs_0 ?_
  refine s_getR (pc := 1) C fX11_21 h0 rfl dX11_personIs_1 ?_
  refine s_getR (pc := 4) C fX11_62 (w0 (b := 12) isW12) rfl dX11_personIs_4 ?_
  refine g_il1n (pc := 7) C dX11_personIs_7 ?_
  refine s_VB (pc := 8) (st := []) C (w6 (b := 12) isW12) rfl (by have := c_hasX4 (d := d - 1) (by omega) σ isW12 g; rw [hR.p.1] at this; exact this) (by omega) lX11_115 dX11_personIs_8 rfl (Nat.le_of_ble_eq_true rfl) rfl (fun b_8 => ?_) (fun b_8 => ?_)
  · have hn4 := hI.n4.2
    obtain ⟨j, hj, rfl⟩ := (is_iff hI.n4.1 (by omega)).mp b_8
    have kj : (nI j).toNatClampNeg = j := nI_clamp (by omega)
    refine g_if_eq (pc := 11) (tgt := 23) C dX11_personIs_11 (by decide) (fun c => absurd c (by decide)) (fun _ => ?_)
    refine g_il2n (pc := 14) C dX11_personIs_14 ?_
    refine g_iconst (pc := 15) (v := 0) C dX11_personIs_15 (by decide) ?_
    refine g_iconst (pc := 16) (v := 4) C dX11_personIs_16 (by decide) ?_
    refine s_SB (pc := 17) (st := []) C (c_X11_within (d := d - 1) (by omega) σ x 0 4) (by omega) lX11_53 dX11_personIs_17 rfl (Nat.le_of_ble_eq_true rfl) rfl (fun b_17 => ?_) (fun b_17 => ?_)
    · obtain ⟨w, hw, rfl⟩ := rgL b_17 (by decide) (B := 4) (by decide)
      have kw : (nI w).toNatClampNeg = w := nI_clamp (by omega)
      refine g_if_ne (pc := 20) (tgt := 30) C dX11_personIs_20 (by decide) (fun _ => ?_) (fun c => absurd c (by decide))
      refine g_al0n (pc := 30) C dX11_personIs_30 ?_
      refine s_getR (pc := 31) C fX11_21 h0 rfl dX11_personIs_31 ?_
      refine s_getR (pc := 34) C fX11_62 (w0 (b := 12) isW12) rfl dX11_personIs_34 ?_
      refine g_il1n (pc := 37) C dX11_personIs_37 ?_
      refine g_il2n (pc := 38) C dX11_personIs_38 ?_
      refine s_VP (pc := 39) (st := []) C (w6 (b := 12) isW12) rfl (CI.p (post := fun v t => v = _ ∧ t = σ) (c_tellP (d := d - 1) (by omega) σ isW12 (k := j) (by omega) (nI w)) ⟨rfl, rfl⟩) (by omega) lX11_116 dX11_personIs_39 rfl (Nat.le_of_ble_eq_true rfl) rfl (fun v τ hv => ?_)
      obtain ⟨hv, ht⟩ := hv
      rw [ht]
      have hvv : v = if (nI w : Int32) < 4 then aN α (90 + 4 * j + w) else if inAir (aN α) (nI j) = true then 1 else 0 := by
        rw [hv]
        rcases (show w = 0 ∨ w = 1 ∨ w = 2 ∨ w = 3 ∨ w = 4 by omega) with rfl | rfl | rfl | rfl | rfl
        · exact hR.p0 hj
        · exact hR.p1 hj
        · exact hR.p2 hj
        · exact hR.p3 hj
        · exact (by show (if hb (σ (12 + 6) 5) (nI j) = true then (1 : Int32) else 0) = _; rw [hR.b.2 j (by omega)]; rfl)
      have hsp : sp_personIs α (nI j) (nI w) = (if (nI w : Int32) < 4 then aN α (90 + 4 * j + w) else if inAir (aN α) (nI j) = true then 1 else 0, α) := by simp only [sp_personIs, b_8, b_17, kj, kw, eq_self, ne_eq, not_true_eq_false, not_false_eq_true, Classical.not_not, decide_true, decide_false, and_true, true_and, and_false, false_and, and_self, or_true, true_or, or_false, false_or, or_self, if_true, if_false, ite_true, ite_false, Bool.eq_false_iff, Bool.not_eq_eq_eq_not, Bool.true_eq_false, Bool.false_eq_true, reduceCtorEq]
      exact r_P C hr dX11_personIs_42 (XPo_val hC hsp hvv)
    · refine g_if_ne (pc := 20) (tgt := 30) C dX11_personIs_20 (by decide) (fun c => absurd c (by decide)) (fun _ => ?_)
      refine g_al0n (pc := 23) C dX11_personIs_23 ?_
      refine g_ldc (pc := 24) C dX11_personIs_24 kX11_57 ?_
      refine s_VI (pc := 26) (st := []) C h0 rfl (c_found0 (d := d - 1) (by omega) σ) (by omega) lX11_58 dX11_personIs_26 rfl (Nat.le_of_ble_eq_true rfl) rfl ?_
      have hsp : sp_personIs α (nI j) x = FB α := by simp only [sp_personIs, b_8, b_17, kj, eq_self, ne_eq, not_true_eq_false, not_false_eq_true, Classical.not_not, decide_true, decide_false, and_true, true_and, and_false, false_and, and_self, or_true, true_or, or_false, false_or, or_self, if_true, if_false, ite_true, ite_false, Bool.eq_false_iff, Bool.not_eq_eq_eq_not, Bool.true_eq_false, Bool.false_eq_true, reduceCtorEq]
      exact r_P C hr dX11_personIs_29 (by rw [hsp]; exact XPo_fnd hA hC (i := 0) (by decide) _)
  · refine g_if_eq (pc := 11) (tgt := 23) C dX11_personIs_11 (by decide) (fun _ => ?_) (fun c => absurd c (by decide))
    refine g_al0n (pc := 23) C dX11_personIs_23 ?_
    refine g_ldc (pc := 24) C dX11_personIs_24 kX11_57 ?_
    refine s_VI (pc := 26) (st := []) C h0 rfl (c_found0 (d := d - 1) (by omega) σ) (by omega) lX11_58 dX11_personIs_26 rfl (Nat.le_of_ble_eq_true rfl) rfl ?_
    have hsp : sp_personIs α g x = FB α := by simp only [sp_personIs, b_8, eq_self, ne_eq, not_true_eq_false, not_false_eq_true, Classical.not_not, decide_true, decide_false, and_true, true_and, and_false, false_and, and_self, or_true, true_or, or_false, false_or, or_self, if_true, if_false, ite_true, ite_false, Bool.eq_false_iff, Bool.not_eq_eq_eq_not, Bool.true_eq_false, Bool.false_eq_true, reduceCtorEq]
    exact r_P C hr dX11_personIs_29 (by rw [hsp]; exact XPo_fnd hA hC (i := 0) (by decide) _)

theorem x_askIs {d : Nat} (hd : 3 ≤ d) (σ : Sg) {α : Al} (hA : IA α) (hC : RC σ α) (a x : Int32) : CP d mX11_askIs [.ref 0, .int a, .int x] σ (XPo σ (sp_askIs α a x)) := by
  have hI := hA.i
  have hR := hC.w
  refine con_of (by decide) (catL rfl) (Nat.le_of_ble_eq_true rfl) ?_
  intro μ ω C hr
  have C : Cx μ ω "TowField" cX11_askIs 3 d := C
  have hr : (mH μ).sig.returnType = some .int := hr
  show G μ ω (RQ μ ω (pP (XPo σ (sp_askIs α a x)))) 0 [some (.ref 0), some (.int a), some (.int x)] [] (mk σ) 0 0
  refine g_al0n (pc := 0) C dX11_askIs_0 ?_
  refine s_getR (pc := 1) C fX11_21 h0 rfl dX11_askIs_1 ?_
  refine s_getR (pc := 4) C fX11_190 (w0 (b := 12) isW12) rfl dX11_askIs_4 ?_
  refine g_il1n (pc := 7) C dX11_askIs_7 ?_
  refine s_VB (pc := 8) (st := []) C (w22 (b := 12) isW12) rfl (by have := c_hasX0 (d := d - 1) (by omega) σ isW12 a; rw [hR.a.1] at this; exact this) (by omega) lX11_200 dX11_askIs_8 rfl (Nat.le_of_ble_eq_true rfl) rfl (fun b_8 => ?_) (fun b_8 => ?_)
  · have hn7 := hI.n7.2
    obtain ⟨j, hj, rfl⟩ := (is_iff hI.n7.1 (by omega)).mp b_8
    have kj : (nI j).toNatClampNeg = j := nI_clamp (by omega)
    refine g_if_eq (pc := 11) (tgt := 24) C dX11_askIs_11 (by decide) (fun c => absurd c (by decide)) (fun _ => ?_)
    refine g_il2n (pc := 14) C dX11_askIs_14 ?_
    refine g_iconst (pc := 15) (v := 0) C dX11_askIs_15 (by decide) ?_
    refine g_bipush (pc := 16) (v := 9) C dX11_askIs_16 (by decide) ?_
    refine s_SB (pc := 18) (st := []) C (c_X11_within (d := d - 1) (by omega) σ x 0 9) (by omega) lX11_53 dX11_askIs_18 rfl (Nat.le_of_ble_eq_true rfl) rfl (fun b_18 => ?_) (fun b_18 => ?_)
    · obtain ⟨w, hw, rfl⟩ := rgL b_18 (by decide) (B := 9) (by decide)
      have kw : (nI w).toNatClampNeg = w := nI_clamp (by omega)
      refine g_if_ne (pc := 21) (tgt := 31) C dX11_askIs_21 (by decide) (fun _ => ?_) (fun c => absurd c (by decide))
      refine g_al0n (pc := 31) C dX11_askIs_31 ?_
      refine s_getR (pc := 32) C fX11_21 h0 rfl dX11_askIs_32 ?_
      refine s_getR (pc := 35) C fX11_190 (w0 (b := 12) isW12) rfl dX11_askIs_35 ?_
      refine g_il1n (pc := 38) C dX11_askIs_38 ?_
      refine g_il2n (pc := 39) C dX11_askIs_39 ?_
      refine s_VP (pc := 40) (st := []) C (w22 (b := 12) isW12) rfl (CI.p (post := fun v t => v = _ ∧ t = σ) (c_tellA (d := d - 1) (by omega) σ isW12 (k := j) (by omega) (nI w)) ⟨rfl, rfl⟩) (by omega) lX11_201 dX11_askIs_40 rfl (Nat.le_of_ble_eq_true rfl) rfl (fun v τ hv => ?_)
      obtain ⟨hv, ht⟩ := hv
      rw [ht]
      have hvv : v = aN α (146 + 10 * j + w) := by
        rw [hv]
        rcases (show w = 0 ∨ w = 1 ∨ w = 2 ∨ w = 3 ∨ w = 4 ∨ w = 5 ∨ w = 6 ∨ w = 7 ∨ w = 8 ∨ w = 9 by omega) with rfl | rfl | rfl | rfl | rfl | rfl | rfl | rfl | rfl | rfl
        · exact hR.a0 hj
        · exact hR.a1 hj
        · exact hR.a2 hj
        · exact hR.a3 hj
        · exact hR.a4 hj
        · exact hR.a5 hj
        · exact hR.a8 hj
        · exact hR.a9 hj
        · exact hR.a10 hj
        · exact hR.a11 hj
      have hsp : sp_askIs α (nI j) (nI w) = (aN α (146 + 10 * j + w), α) := by simp only [sp_askIs, b_8, b_18, kj, kw, eq_self, ne_eq, not_true_eq_false, not_false_eq_true, Classical.not_not, decide_true, decide_false, and_true, true_and, and_false, false_and, and_self, or_true, true_or, or_false, false_or, or_self, if_true, if_false, ite_true, ite_false, Bool.eq_false_iff, Bool.not_eq_eq_eq_not, Bool.true_eq_false, Bool.false_eq_true, reduceCtorEq]
      exact r_P C hr dX11_askIs_43 (XPo_val hC hsp hvv)
    · refine g_if_ne (pc := 21) (tgt := 31) C dX11_askIs_21 (by decide) (fun c => absurd c (by decide)) (fun _ => ?_)
      refine g_al0n (pc := 24) C dX11_askIs_24 ?_
      refine g_ldc (pc := 25) C dX11_askIs_25 kX11_57 ?_
      refine s_VI (pc := 27) (st := []) C h0 rfl (c_found0 (d := d - 1) (by omega) σ) (by omega) lX11_58 dX11_askIs_27 rfl (Nat.le_of_ble_eq_true rfl) rfl ?_
      have hsp : sp_askIs α (nI j) x = FB α := by simp only [sp_askIs, b_8, b_18, kj, eq_self, ne_eq, not_true_eq_false, not_false_eq_true, Classical.not_not, decide_true, decide_false, and_true, true_and, and_false, false_and, and_self, or_true, true_or, or_false, false_or, or_self, if_true, if_false, ite_true, ite_false, Bool.eq_false_iff, Bool.not_eq_eq_eq_not, Bool.true_eq_false, Bool.false_eq_true, reduceCtorEq]
      exact r_P C hr dX11_askIs_30 (by rw [hsp]; exact XPo_fnd hA hC (i := 0) (by decide) _)
  · refine g_if_eq (pc := 11) (tgt := 24) C dX11_askIs_11 (by decide) (fun _ => ?_) (fun c => absurd c (by decide))
    refine g_al0n (pc := 24) C dX11_askIs_24 ?_
    refine g_ldc (pc := 25) C dX11_askIs_25 kX11_57 ?_
    refine s_VI (pc := 27) (st := []) C h0 rfl (c_found0 (d := d - 1) (by omega) σ) (by omega) lX11_58 dX11_askIs_27 rfl (Nat.le_of_ble_eq_true rfl) rfl ?_
    have hsp : sp_askIs α a x = FB α := by simp only [sp_askIs, b_8, eq_self, ne_eq, not_true_eq_false, not_false_eq_true, Classical.not_not, decide_true, decide_false, and_true, true_and, and_false, false_and, and_self, or_true, true_or, or_false, false_or, or_self, if_true, if_false, ite_true, ite_false, Bool.eq_false_iff, Bool.not_eq_eq_eq_not, Bool.true_eq_false, Bool.false_eq_true, reduceCtorEq]
    exact r_P C hr dX11_askIs_30 (by rw [hsp]; exact XPo_fnd hA hC (i := 0) (by decide) _)

theorem x_paper {d : Nat} (hd : 3 ≤ d) (σ : Sg) {α : Al} (hA : IA α) (hC : RC σ α) (p x h : Int32) : CP d mX11_paper [.ref 0, .int p, .int x, .int h] σ (XPo σ (sp_paper α p x h)) := by
  have hI := hA.i
  have hR := hC.w
  refine con_of (by decide) (catL rfl) (Nat.le_of_ble_eq_true rfl) ?_
  intro μ ω C hr
  have C : Cx μ ω "TowField" cX11_paper 6 d := C
  have hr : (mH μ).sig.returnType = some .int := hr
  show G μ ω (RQ μ ω (pP (XPo σ (sp_paper α p x h)))) 0 [some (.ref 0), some (.int p), some (.int x), some (.int h), none, none] [] (mk σ) 0 0
  refine g_al0n (pc := 0) C dX11_paper_0 ?_
  refine s_getR (pc := 1) C fX11_21 h0 rfl dX11_paper_1 ?_
  refine s_getR (pc := 4) C fX11_62 (w0 (b := 12) isW12) rfl dX11_paper_4 ?_
  refine g_il1n (pc := 7) C dX11_paper_7 ?_
  refine s_VB (pc := 8) (st := []) C (w6 (b := 12) isW12) rfl (by have := c_hasX4 (d := d - 1) (by omega) σ isW12 p; rw [hR.p.1] at this; exact this) (by omega) lX11_115 dX11_paper_8 rfl (Nat.le_of_ble_eq_true rfl) rfl (fun b_8 => ?_) (fun b_8 => ?_)
  · have hn4 := hI.n4.2
    obtain ⟨j, hj, rfl⟩ := (is_iff hI.n4.1 (by omega)).mp b_8
    have kj : (nI j).toNatClampNeg = j := nI_clamp (by omega)
    refine g_if_eq (pc := 11) (tgt := 24) C dX11_paper_11 (by decide) (fun c => absurd c (by decide)) (fun _ => ?_)
    refine g_il2n (pc := 14) C dX11_paper_14 ?_
    refine g_iconst (pc := 15) (v := 1) C dX11_paper_15 (by decide) ?_
    refine g_bipush (pc := 16) (v := 6) C dX11_paper_16 (by decide) ?_
    refine s_SB (pc := 18) (st := []) C (c_X11_within (d := d - 1) (by omega) σ x 1 6) (by omega) lX11_53 dX11_paper_18 rfl (Nat.le_of_ble_eq_true rfl) rfl (fun b_18 => ?_) (fun b_18 => ?_)
    · obtain ⟨k, hk, rfl⟩ := rgL b_18 (by decide) (B := 6) (by decide)
      have kk : (nI k).toNatClampNeg = k := nI_clamp (by omega)
      refine g_if_ne (pc := 21) (tgt := 31) C dX11_paper_21 (by decide) (fun _ => ?_) (fun c => absurd c (by decide))
      refine g_al0n (pc := 31) C dX11_paper_31 ?_
      refine s_getR (pc := 32) C fX11_21 h0 rfl dX11_paper_32 ?_
      refine s_getR (pc := 35) C fX11_62 (w0 (b := 12) isW12) rfl dX11_paper_35 ?_
      refine s_getR (pc := 38) C fX11_117 (w6 (b := 12) isW12) rfl dX11_paper_38 ?_
      refine g_il1n (pc := 41) C dX11_paper_41 ?_
      refine s_ialdv (pc := 42) (q := j) (v := aP (aN α) j 1) C (w8 (b := 12) isW12) rfl (by omega) (Nat.le_of_ble_eq_true rfl) (hR.p1 (by omega)) dX11_paper_42 ?_
      refine g_is4 (pc := 43) C dX11_paper_43 ?_
      refine g_il4 (pc := 45) C dX11_paper_45 ?_
      refine g_il2n (pc := 47) C dX11_paper_47 ?_
      refine g_il3n (pc := 48) C dX11_paper_48 ?_
      refine s_SI (pc := 49) (st := []) C (c_withBit (d := d - 1) (by omega) σ (aP (aN α) j 1) (nI k) h) (by omega) lX11_120 dX11_paper_49 rfl (Nat.le_of_ble_eq_true rfl) rfl ?_
      refine g_is5 (pc := 52) C dX11_paper_52 ?_
      refine g_al0n (pc := 54) C dX11_paper_54 ?_
      refine s_getR (pc := 55) C fX11_21 h0 rfl dX11_paper_55 ?_
      refine s_getR (pc := 58) C fX11_62 (w0 (b := 12) isW12) rfl dX11_paper_58 ?_
      refine s_getR (pc := 61) C fX11_117 (w6 (b := 12) isW12) rfl dX11_paper_61 ?_
      refine g_il1n (pc := 64) C dX11_paper_64 ?_
      refine g_il5 (pc := 65) C dX11_paper_65 ?_
      refine s_iast (pc := 67) (q := j) C (w8 (b := 12) isW12) rfl (by omega) (Nat.le_of_ble_eq_true rfl) dX11_paper_67 ?_
      refine g_il4 (pc := 68) C dX11_paper_68 ?_
      refine g_il5 (pc := 70) C dX11_paper_70 ?_
      refine g_icmp_ne (pc := 72) (tgt := 79) C dX11_paper_72 (by decide) (fun c_72 => ?_) (fun c_72 => ?_)
      · refine g_iconst (pc := 79) (v := 1) C dX11_paper_79 (by decide) ?_
        have hsp : sp_paper α (nI j) (nI k) h = (if wb (aN α (90 + 4 * j + 1)) (nI k) h = aN α (90 + 4 * j + 1) then 0 else 1, sN α (upd (aN α) (90 + 4 * j + 1) (wb (aN α (90 + 4 * j + 1)) (nI k) h))) := by simp only [sp_paper, b_8, b_18, c_72, kj, kk, bitS, eq_self, ne_eq, not_true_eq_false, not_false_eq_true, Classical.not_not, decide_true, decide_false, and_true, true_and, and_false, false_and, and_self, or_true, true_or, or_false, false_or, or_self, if_true, if_false, ite_true, ite_false, Bool.eq_false_iff, Bool.not_eq_eq_eq_not, Bool.true_eq_false, Bool.false_eq_true, reduceCtorEq]
        exact r_P C hr dX11_paper_80 (XPo_now hA hC (W_paper isW12 hI hR hj _) (Fz.up (z := 12) (k := 8) (by omega) Fz.rf) hsp (if_neg (fun q => c_72 q.symm)).symm)
      · refine g_iconst (pc := 75) (v := 0) C dX11_paper_75 (by decide) ?_
        refine g_goto (pc := 76) (tgt := 80) C dX11_paper_76 (by decide) ?_
        have hsp : sp_paper α (nI j) (nI k) h = (if wb (aN α (90 + 4 * j + 1)) (nI k) h = aN α (90 + 4 * j + 1) then 0 else 1, sN α (upd (aN α) (90 + 4 * j + 1) (wb (aN α (90 + 4 * j + 1)) (nI k) h))) := by simp only [sp_paper, b_8, b_18, eq_true c_72, kj, kk, bitS, eq_self, ne_eq, not_true_eq_false, not_false_eq_true, Classical.not_not, decide_true, decide_false, and_true, true_and, and_false, false_and, and_self, or_true, true_or, or_false, false_or, or_self, if_true, if_false, ite_true, ite_false, Bool.eq_false_iff, Bool.not_eq_eq_eq_not, Bool.true_eq_false, Bool.false_eq_true, reduceCtorEq]
        exact r_P C hr dX11_paper_80 (XPo_now hA hC (W_paper isW12 hI hR hj _) (Fz.up (z := 12) (k := 8) (by omega) Fz.rf) hsp (if_pos c_72.symm).symm)
    · refine g_if_ne (pc := 21) (tgt := 31) C dX11_paper_21 (by decide) (fun c => absurd c (by decide)) (fun _ => ?_)
      refine g_al0n (pc := 24) C dX11_paper_24 ?_
      refine g_ldc (pc := 25) C dX11_paper_25 kX11_57 ?_
      refine s_VI (pc := 27) (st := []) C h0 rfl (c_found0 (d := d - 1) (by omega) σ) (by omega) lX11_58 dX11_paper_27 rfl (Nat.le_of_ble_eq_true rfl) rfl ?_
      have hsp : sp_paper α (nI j) x h = FB α := by simp only [sp_paper, b_8, b_18, kj, bitS, eq_self, ne_eq, not_true_eq_false, not_false_eq_true, Classical.not_not, decide_true, decide_false, and_true, true_and, and_false, false_and, and_self, or_true, true_or, or_false, false_or, or_self, if_true, if_false, ite_true, ite_false, Bool.eq_false_iff, Bool.not_eq_eq_eq_not, Bool.true_eq_false, Bool.false_eq_true, reduceCtorEq]
      exact r_P C hr dX11_paper_30 (by rw [hsp]; exact XPo_fnd hA hC (i := 0) (by decide) _)
  · refine g_if_eq (pc := 11) (tgt := 24) C dX11_paper_11 (by decide) (fun _ => ?_) (fun c => absurd c (by decide))
    refine g_al0n (pc := 24) C dX11_paper_24 ?_
    refine g_ldc (pc := 25) C dX11_paper_25 kX11_57 ?_
    refine s_VI (pc := 27) (st := []) C h0 rfl (c_found0 (d := d - 1) (by omega) σ) (by omega) lX11_58 dX11_paper_27 rfl (Nat.le_of_ble_eq_true rfl) rfl ?_
    have hsp : sp_paper α p x h = FB α := by simp only [sp_paper, b_8, bitS, eq_self, ne_eq, not_true_eq_false, not_false_eq_true, Classical.not_not, decide_true, decide_false, and_true, true_and, and_false, false_and, and_self, or_true, true_or, or_false, false_or, or_self, if_true, if_false, ite_true, ite_false, Bool.eq_false_iff, Bool.not_eq_eq_eq_not, Bool.true_eq_false, Bool.false_eq_true, reduceCtorEq]
    exact r_P C hr dX11_paper_30 (by rw [hsp]; exact XPo_fnd hA hC (i := 0) (by decide) _)

theorem x_rope {d : Nat} (hd : 3 ≤ d) (σ : Sg) {α : Al} (hA : IA α) (hC : RC σ α) (w r f : Int32) : CP d mX11_rope [.ref 0, .int w, .int r, .int f] σ (XPo σ (sp_rope α w r f)) := by
  have hI := hA.i
  have hR := hC.w
  refine con_of (by decide) (catL rfl) (Nat.le_of_ble_eq_true rfl) ?_
  intro μ ω C hr
  have C : Cx μ ω "TowField" cX11_rope 5 d := C
  have hr : (mH μ).sig.returnType = some .int := hr
  show G μ ω (RQ μ ω (pP (XPo σ (sp_rope α w r f)))) 0 [some (.ref 0), some (.int w), some (.int r), some (.int f), none] [] (mk σ) 0 0
  refine g_al0n (pc := 0) C dX11_rope_0 ?_
  refine s_getR (pc := 1) C fX11_21 h0 rfl dX11_rope_1 ?_
  refine s_getR (pc := 4) C fX11_91 (w0 (b := 12) isW12) rfl dX11_rope_4 ?_
  refine g_il1n (pc := 7) C dX11_rope_7 ?_
  refine g_il2n (pc := 8) C dX11_rope_8 ?_
  refine s_VB (pc := 9) (st := []) C (w11 (b := 12) isW12) rfl (by have := c_hasRope (d := d - 1) (by omega) σ isW12 w r; rw [hR.w.1] at this; exact this) (by omega) lX11_124 dX11_rope_9 rfl (Nat.le_of_ble_eq_true rfl) rfl (fun b_9 => ?_) (fun b_9 => ?_)
  · have hn5 := hI.n5.2
    obtain ⟨j, hj, rfl⟩ := (is_iff hI.n5.1 (by omega)).mp b_9.1
    obtain ⟨i, hi, rfl⟩ := rg b_9.2 (B := 1) (by decide)
    have kj : (nI j).toNatClampNeg = j := nI_clamp (by omega)
    have ki : (nI i).toNatClampNeg = i := nI_clamp (by omega)
    refine g_if_eq (pc := 12) (tgt := 24) C dX11_rope_12 (by decide) (fun c => absurd c (by decide)) (fun _ => ?_)
    refine g_il3n (pc := 15) C dX11_rope_15 ?_
    refine g_iconst (pc := 16) (v := 0) C dX11_rope_16 (by decide) ?_
    refine g_iconst (pc := 17) (v := 1) C dX11_rope_17 (by decide) ?_
    refine s_SB (pc := 18) (st := []) C (c_X11_within (d := d - 1) (by omega) σ f 0 1) (by omega) lX11_53 dX11_rope_18 rfl (Nat.le_of_ble_eq_true rfl) rfl (fun b_18 => ?_) (fun b_18 => ?_)
    · obtain ⟨q, hq, rfl⟩ := rgL b_18 (by decide) (B := 1) (by decide)
      have kq : (nI q).toNatClampNeg = q := nI_clamp (by omega)
      refine g_if_ne (pc := 21) (tgt := 31) C dX11_rope_21 (by decide) (fun _ => ?_) (fun c => absurd c (by decide))
      refine g_il1n (pc := 31) C dX11_rope_31 ?_
      refine g_il2n (pc := 32) C dX11_rope_32 ?_
      refine s_SI (pc := 33) (st := []) C (c_place (d := d - 1) (by omega) σ j i) (by omega) lX11_128 dX11_rope_33 rfl (Nat.le_of_ble_eq_true rfl) rfl ?_
      refine g_is4 (pc := 36) C dX11_rope_36 ?_
      refine g_il3n (pc := 38) C dX11_rope_38 ?_
      refine g_if_ne (pc := 39) (tgt := 58) C dX11_rope_39 (by decide) (fun c_39 => ?_) (fun c_39 => ?_)
      · refine g_al0n (pc := 58) C dX11_rope_58 ?_
        refine s_getR (pc := 59) C fX11_21 h0 rfl dX11_rope_59 ?_
        refine s_getR (pc := 62) C fX11_91 (w0 (b := 12) isW12) rfl dX11_rope_62 ?_
        refine s_getR (pc := 65) C fX11_134 (w11 (b := 12) isW12) rfl dX11_rope_65 ?_
        refine g_il4 (pc := 68) C dX11_rope_68 ?_
        refine s_ialdv (pc := 70) (q := 2 * j + i) (v := (aN α) (33 + 2 * (2 * j + i) + 1)) C (w13 (b := 12) isW12) rfl (by omega) (Nat.le_of_ble_eq_true rfl) (hR.w1 (by omega)) dX11_rope_70 ?_
        have hq2 : q = 1 := by
          rcases (show q = 0 ∨ q = 1 by omega) with e | e
          · rw [e] at c_39; exact absurd rfl c_39
          · exact e
        have hvv : (aN α) (33 + 2 * (2 * j + i) + 1) = aN α (33 + 4 * j + 2 * i + q) := by rw [hq2]; congr 1; omega
        have hsp : sp_rope α (nI j) (nI i) (nI q) = (aN α (33 + 4 * j + 2 * i + q), α) := by simp only [sp_rope, b_9, b_18, c_39, kj, ki, kq, eq_self, ne_eq, not_true_eq_false, not_false_eq_true, Classical.not_not, decide_true, decide_false, and_true, true_and, and_false, false_and, and_self, or_true, true_or, or_false, false_or, or_self, if_true, if_false, ite_true, ite_false, Bool.eq_false_iff, Bool.not_eq_eq_eq_not, Bool.true_eq_false, Bool.false_eq_true, reduceCtorEq]
        exact r_P C hr dX11_rope_71 (XPo_val hC hsp hvv)
      · refine g_al0n (pc := 42) C dX11_rope_42 ?_
        refine s_getR (pc := 43) C fX11_21 h0 rfl dX11_rope_43 ?_
        refine s_getR (pc := 46) C fX11_91 (w0 (b := 12) isW12) rfl dX11_rope_46 ?_
        refine s_getR (pc := 49) C fX11_131 (w11 (b := 12) isW12) rfl dX11_rope_49 ?_
        refine g_il4 (pc := 52) C dX11_rope_52 ?_
        refine s_ialdv (pc := 54) (q := 2 * j + i) (v := (aN α) (33 + 2 * (2 * j + i))) C (w12 (b := 12) isW12) rfl (by omega) (Nat.le_of_ble_eq_true rfl) (hR.w0 (by omega)) dX11_rope_54 ?_
        refine g_goto (pc := 55) (tgt := 71) C dX11_rope_55 (by decide) ?_
        have hq2 : q = 0 := by
          rcases (show q = 0 ∨ q = 1 by omega) with e | e
          · exact e
          · rw [e] at c_39; exact absurd c_39 (by decide)
        have hvv : (aN α) (33 + 2 * (2 * j + i)) = aN α (33 + 4 * j + 2 * i + q) := by rw [hq2]; congr 1; omega
        have hsp : sp_rope α (nI j) (nI i) (nI q) = (aN α (33 + 4 * j + 2 * i + q), α) := by simp only [sp_rope, b_9, b_18, eq_true c_39, kj, ki, kq, eq_self, ne_eq, not_true_eq_false, not_false_eq_true, Classical.not_not, decide_true, decide_false, and_true, true_and, and_false, false_and, and_self, or_true, true_or, or_false, false_or, or_self, if_true, if_false, ite_true, ite_false, Bool.eq_false_iff, Bool.not_eq_eq_eq_not, Bool.true_eq_false, Bool.false_eq_true, reduceCtorEq]
        exact r_P C hr dX11_rope_71 (XPo_val hC hsp hvv)
    · refine g_if_ne (pc := 21) (tgt := 31) C dX11_rope_21 (by decide) (fun c => absurd c (by decide)) (fun _ => ?_)
      refine g_al0n (pc := 24) C dX11_rope_24 ?_
      refine g_ldc (pc := 25) C dX11_rope_25 kX11_57 ?_
      refine s_VI (pc := 27) (st := []) C h0 rfl (c_found0 (d := d - 1) (by omega) σ) (by omega) lX11_58 dX11_rope_27 rfl (Nat.le_of_ble_eq_true rfl) rfl ?_
      have hsp : sp_rope α (nI j) (nI i) f = FB α := by simp only [sp_rope, b_9, b_18, kj, ki, eq_self, ne_eq, not_true_eq_false, not_false_eq_true, Classical.not_not, decide_true, decide_false, and_true, true_and, and_false, false_and, and_self, or_true, true_or, or_false, false_or, or_self, if_true, if_false, ite_true, ite_false, Bool.eq_false_iff, Bool.not_eq_eq_eq_not, Bool.true_eq_false, Bool.false_eq_true, reduceCtorEq]
      exact r_P C hr dX11_rope_30 (by rw [hsp]; exact XPo_fnd hA hC (i := 0) (by decide) _)
  · refine g_if_eq (pc := 12) (tgt := 24) C dX11_rope_12 (by decide) (fun _ => ?_) (fun c => absurd c (by decide))
    refine g_al0n (pc := 24) C dX11_rope_24 ?_
    refine g_ldc (pc := 25) C dX11_rope_25 kX11_57 ?_
    refine s_VI (pc := 27) (st := []) C h0 rfl (c_found0 (d := d - 1) (by omega) σ) (by omega) lX11_58 dX11_rope_27 rfl (Nat.le_of_ble_eq_true rfl) rfl ?_
    have hb9 : ¬ ((0 ≤ w ∧ w ≤ aN α 5 - 1) ∧ (0 ≤ r ∧ r ≤ 1) ∧ (0 ≤ f ∧ f ≤ 1)) := fun y => b_9 ⟨y.1, y.2.1⟩
    have hsp : sp_rope α w r f = FB α := by simp only [sp_rope, b_9, hb9, eq_self, ne_eq, not_true_eq_false, not_false_eq_true, Classical.not_not, decide_true, decide_false, and_true, true_and, and_false, false_and, and_self, or_true, true_or, or_false, false_or, or_self, if_true, if_false, ite_true, ite_false, Bool.eq_false_iff, Bool.not_eq_eq_eq_not, Bool.true_eq_false, Bool.false_eq_true, reduceCtorEq]
    exact r_P C hr dX11_rope_30 (by rw [hsp]; exact XPo_fnd hA hC (i := 0) (by decide) _)

theorem x_broken {d : Nat} (hd : 3 ≤ d) (σ : Sg) {α : Al} (hA : IA α) (hC : RC σ α) (w r : Int32) : CP d mX11_broken [.ref 0, .int w, .int r] σ (XPo σ (sp_broken α w r)) := by
  have hI := hA.i
  have hR := hC.w
  refine con_of (by decide) (catL rfl) (Nat.le_of_ble_eq_true rfl) ?_
  intro μ ω C hr
  have C : Cx μ ω "TowField" cX11_broken 5 d := C
  have hr : (mH μ).sig.returnType = some .int := hr
  show G μ ω (RQ μ ω (pP (XPo σ (sp_broken α w r)))) 0 [some (.ref 0), some (.int w), some (.int r), none, none] [] (mk σ) 0 0
  refine g_al0n (pc := 0) C dX11_broken_0 ?_
  refine s_getR (pc := 1) C fX11_21 h0 rfl dX11_broken_1 ?_
  refine s_getR (pc := 4) C fX11_91 (w0 (b := 12) isW12) rfl dX11_broken_4 ?_
  refine g_il1n (pc := 7) C dX11_broken_7 ?_
  refine g_il2n (pc := 8) C dX11_broken_8 ?_
  refine s_VB (pc := 9) (st := []) C (w11 (b := 12) isW12) rfl (by have := c_hasRope (d := d - 1) (by omega) σ isW12 w r; rw [hR.w.1] at this; exact this) (by omega) lX11_124 dX11_broken_9 rfl (Nat.le_of_ble_eq_true rfl) rfl (fun b_9 => ?_) (fun b_9 => ?_)
  · have hn5 := hI.n5.2
    obtain ⟨j, hj, rfl⟩ := (is_iff hI.n5.1 (by omega)).mp b_9.1
    obtain ⟨i, hi, rfl⟩ := rg b_9.2 (B := 1) (by decide)
    have kj : (nI j).toNatClampNeg = j := nI_clamp (by omega)
    have ki : (nI i).toNatClampNeg = i := nI_clamp (by omega)
    refine g_if_ne (pc := 12) (tgt := 22) C dX11_broken_12 (by decide) (fun _ => ?_) (fun c => absurd c (by decide))
    refine g_il1n (pc := 22) C dX11_broken_22 ?_
    refine g_il2n (pc := 23) C dX11_broken_23 ?_
    refine s_SI (pc := 24) (st := []) C (c_place (d := d - 1) (by omega) σ j i) (by omega) lX11_128 dX11_broken_24 rfl (Nat.le_of_ble_eq_true rfl) rfl ?_
    refine g_is3n (pc := 27) C dX11_broken_27 ?_
    refine g_al0n (pc := 28) C dX11_broken_28 ?_
    refine s_getR (pc := 29) C fX11_21 h0 rfl dX11_broken_29 ?_
    refine s_getR (pc := 32) C fX11_91 (w0 (b := 12) isW12) rfl dX11_broken_32 ?_
    refine s_getR (pc := 35) C fX11_131 (w11 (b := 12) isW12) rfl dX11_broken_35 ?_
    refine g_il3n (pc := 38) C dX11_broken_38 ?_
    refine s_ialdv (pc := 39) (q := 2 * j + i) (v := (aN α) (33 + 2 * (2 * j + i))) C (w12 (b := 12) isW12) rfl (by omega) (Nat.le_of_ble_eq_true rfl) (hR.w0 (by omega)) dX11_broken_39 ?_
    refine g_iconst (pc := 40) (v := 3) C dX11_broken_40 (by decide) ?_
    refine g_icmp_ne (pc := 41) (tgt := 51) C dX11_broken_41 (by decide) (fun c_41 => ?_) (fun c_41 => ?_)
    · refine g_al0n (pc := 51) C dX11_broken_51 ?_
      refine s_getR (pc := 52) C fX11_21 h0 rfl dX11_broken_52 ?_
      refine s_getIv (pc := 55) (v := (aN α) 0) C fX11_138 (w0 (b := 12) isW12) rfl hR.min dX11_broken_55 ?_
      refine g_al0n (pc := 58) C dX11_broken_58 ?_
      refine s_getR (pc := 59) C fX11_21 h0 rfl dX11_broken_59 ?_
      refine s_getR (pc := 62) C fX11_141 (w0 (b := 12) isW12) rfl dX11_broken_62 ?_
      refine g_iconst (pc := 65) (v := 2) C dX11_broken_65 (by decide) ?_
      refine s_ialdv (pc := 66) (q := 2) (v := (aN α) 28) C (w35 (b := 12) isW12) rfl (by omega) (Nat.le_of_ble_eq_true rfl) (hR.rul (i := 2) (by decide)) dX11_broken_66 ?_
      refine g_iadd (pc := 67) C dX11_broken_67 ?_
      refine g_is4 (pc := 68) C dX11_broken_68 ?_
      refine g_al0n (pc := 70) C dX11_broken_70 ?_
      refine s_getR (pc := 71) C fX11_21 h0 rfl dX11_broken_71 ?_
      refine s_getR (pc := 74) C fX11_91 (w0 (b := 12) isW12) rfl dX11_broken_74 ?_
      refine g_il3n (pc := 77) C dX11_broken_77 ?_
      refine g_iconst (pc := 78) (v := 3) C dX11_broken_78 (by decide) ?_
      refine g_il4 (pc := 79) C dX11_broken_79 ?_
      refine s_VU (pc := 81) (st := []) C (w11 (b := 12) isW12) rfl (c_putW (d := d - 1) (by omega) σ isW12 (p := 2 * j + i) (by omega) 3 (((aN α) 0) + ((aN α) 28))) (by omega) lX11_144 dX11_broken_81 rfl (Nat.le_of_ble_eq_true rfl) rfl ?_
      refine g_il4 (pc := 84) C dX11_broken_84 ?_
      have hp3 : 33 + 2 * (2 * j + i) = 33 + 4 * j + 2 * i := by omega
      rw [hp3] at c_41
      have hp2 : 33 + 2 * (2 * j + i) = 33 + 4 * j + 2 * i := by omega
      have hW := W_rope (p := 2 * j + i) isW12 hI hR (by omega) 3 (aN α 0 + aN α 28)
      rw [hp2] at hW
      have hsp : sp_broken α (nI j) (nI i) = (aN α 0 + aN α 28, sN α (ropeS (aN α) j i 3 (aN α 0 + aN α 28))) := by simp only [sp_broken, b_9, c_41, kj, ki, eq_self, ne_eq, not_true_eq_false, not_false_eq_true, Classical.not_not, decide_true, decide_false, and_true, true_and, and_false, false_and, and_self, or_true, true_or, or_false, false_or, or_self, if_true, if_false, ite_true, ite_false, Bool.eq_false_iff, Bool.not_eq_eq_eq_not, Bool.true_eq_false, Bool.false_eq_true, reduceCtorEq]
      exact r_P C hr dX11_broken_86 (XPo_now hA hC hW (Fz.up (z := 12) (k := 13) (by omega) (Fz.up (z := 12) (k := 12) (by omega) Fz.rf)) hsp rfl)
    · refine g_al0n (pc := 44) C dX11_broken_44 ?_
      refine g_ldc (pc := 45) C dX11_broken_45 kX11_137 ?_
      refine s_VI (pc := 47) (st := []) C h0 rfl (c_found4 (d := d - 1) (by omega) σ) (by omega) lX11_58 dX11_broken_47 rfl (Nat.le_of_ble_eq_true rfl) rfl ?_
      have hp3 : 33 + 2 * (2 * j + i) = 33 + 4 * j + 2 * i := by omega
      rw [hp3] at c_41
      have hsp : sp_broken α (nI j) (nI i) = FS α := by simp only [sp_broken, b_9, eq_true c_41, kj, ki, eq_self, ne_eq, not_true_eq_false, not_false_eq_true, Classical.not_not, decide_true, decide_false, and_true, true_and, and_false, false_and, and_self, or_true, true_or, or_false, false_or, or_self, if_true, if_false, ite_true, ite_false, Bool.eq_false_iff, Bool.not_eq_eq_eq_not, Bool.true_eq_false, Bool.false_eq_true, reduceCtorEq]
      exact r_P C hr dX11_broken_50 (by rw [hsp]; exact XPo_fnd hA hC (i := 4) (by decide) _)
  · refine g_if_ne (pc := 12) (tgt := 22) C dX11_broken_12 (by decide) (fun c => absurd c (by decide)) (fun _ => ?_)
    refine g_al0n (pc := 15) C dX11_broken_15 ?_
    refine g_ldc (pc := 16) C dX11_broken_16 kX11_57 ?_
    refine s_VI (pc := 18) (st := []) C h0 rfl (c_found0 (d := d - 1) (by omega) σ) (by omega) lX11_58 dX11_broken_18 rfl (Nat.le_of_ble_eq_true rfl) rfl ?_
    have hsp : sp_broken α w r = FB α := by simp only [sp_broken, b_9, eq_self, ne_eq, not_true_eq_false, not_false_eq_true, Classical.not_not, decide_true, decide_false, and_true, true_and, and_false, false_and, and_self, or_true, true_or, or_false, false_or, or_self, if_true, if_false, ite_true, ite_false, Bool.eq_false_iff, Bool.not_eq_eq_eq_not, Bool.true_eq_false, Bool.false_eq_true, reduceCtorEq]
    exact r_P C hr dX11_broken_21 (by rw [hsp]; exact XPo_fnd hA hC (i := 0) (by decide) _)

theorem x_tow {d : Nat} (hd : 3 ≤ d) (σ : Sg) {α : Al} (hA : IA α) (hC : RC σ α) (p : Int32) : CP d mX11_tow [.ref 0, .int p] σ (XPo σ (sp_tow α p)) := by
  have hI := hA.i
  have hR := hC.w
  refine con_of (by decide) (catL rfl) (Nat.le_of_ble_eq_true rfl) ?_
  intro μ ω C hr
  have C : Cx μ ω "TowField" cX11_tow 2 d := C
  have hr : (mH μ).sig.returnType = some .int := hr
  show G μ ω (RQ μ ω (pP (XPo σ (sp_tow α p)))) 0 [some (.ref 0), some (.int p)] [] (mk σ) 0 0
  refine g_al0n (pc := 0) C dX11_tow_0 ?_
  refine s_getR (pc := 1) C fX11_21 h0 rfl dX11_tow_1 ?_
  refine s_getR (pc := 4) C fX11_100 (w0 (b := 12) isW12) rfl dX11_tow_4 ?_
  refine g_il1n (pc := 7) C dX11_tow_7 ?_
  refine s_VB (pc := 8) (st := []) C (w14 (b := 12) isW12) rfl (by have := c_hasX5 (d := d - 1) (by omega) σ isW12 p; rw [hR.n.1] at this; exact this) (by omega) lX11_148 dX11_tow_8 rfl (Nat.le_of_ble_eq_true rfl) rfl (fun b_8 => ?_) (fun b_8 => ?_)
  · have hn6 := hI.n6.2
    obtain ⟨j, hj, rfl⟩ := (is_iff hI.n6.1 (by omega)).mp b_8
    have kj : (nI j).toNatClampNeg = j := nI_clamp (by omega)
    refine g_if_ne (pc := 11) (tgt := 21) C dX11_tow_11 (by decide) (fun _ => ?_) (fun c => absurd c (by decide))
    refine g_al0n (pc := 21) C dX11_tow_21 ?_
    refine s_getR (pc := 22) C fX11_21 h0 rfl dX11_tow_22 ?_
    refine s_getR (pc := 25) C fX11_100 (w0 (b := 12) isW12) rfl dX11_tow_25 ?_
    refine s_getR (pc := 28) C fX11_149 (w14 (b := 12) isW12) rfl dX11_tow_28 ?_
    refine g_il1n (pc := 31) C dX11_tow_31 ?_
    refine s_ialdv (pc := 32) (q := j) (v := (aN α) (30 + j)) C (w15 (b := 12) isW12) rfl (by omega) (Nat.le_of_ble_eq_true rfl) (hR.n0 (by omega)) dX11_tow_32 ?_
    have hsp : sp_tow α (nI j) = (aN α (30 + j), α) := by simp only [sp_tow, b_8, kj, eq_self, ne_eq, not_true_eq_false, not_false_eq_true, Classical.not_not, decide_true, decide_false, and_true, true_and, and_false, false_and, and_self, or_true, true_or, or_false, false_or, or_self, if_true, if_false, ite_true, ite_false, Bool.eq_false_iff, Bool.not_eq_eq_eq_not, Bool.true_eq_false, Bool.false_eq_true, reduceCtorEq]
    exact r_P C hr dX11_tow_33 (XPo_val hC hsp rfl)
  · refine g_if_ne (pc := 11) (tgt := 21) C dX11_tow_11 (by decide) (fun c => absurd c (by decide)) (fun _ => ?_)
    refine g_al0n (pc := 14) C dX11_tow_14 ?_
    refine g_ldc (pc := 15) C dX11_tow_15 kX11_57 ?_
    refine s_VI (pc := 17) (st := []) C h0 rfl (c_found0 (d := d - 1) (by omega) σ) (by omega) lX11_58 dX11_tow_17 rfl (Nat.le_of_ble_eq_true rfl) rfl ?_
    have hsp : sp_tow α p = FB α := by simp only [sp_tow, b_8, eq_self, ne_eq, not_true_eq_false, not_false_eq_true, Classical.not_not, decide_true, decide_false, and_true, true_and, and_false, false_and, and_self, or_true, true_or, or_false, false_or, or_self, if_true, if_false, ite_true, ite_false, Bool.eq_false_iff, Bool.not_eq_eq_eq_not, Bool.true_eq_false, Bool.false_eq_true, reduceCtorEq]
    exact r_P C hr dX11_tow_20 (by rw [hsp]; exact XPo_fnd hA hC (i := 0) (by decide) _)

theorem cross_RW {σ : Sg} {ν : Nu} (hI : INV ν) (hR : RW σ 12 ν) {i j : Nat} (hi : i < 6) (hj : j < 6) (hne : i ≠ j) (x y : Int32) : RW (up (up σ (12 + 17) i x) (12 + 17) j y) 12 (upd (upd ν (10 + j) y) (10 + i) x) := by
  have h := W_cross (l := i) (q := j) isW12 hI hR hi hj x y
  have e : upd (upd ν (10 + i) x) (10 + j) y = upd (upd ν (10 + j) y) (10 + i) x := by
    funext k
    unfold upd
    by_cases c1 : k = 10 + i
    · rw [if_neg (by omega), if_pos c1, if_pos c1]
    · by_cases c2 : k = 10 + j
      · rw [if_pos c2, if_neg c1, if_pos c2]
      · rw [if_neg c2, if_neg c1, if_neg c1, if_neg c2]
  rw [e] at h
  exact h
theorem x_cross {d : Nat} (hd : 3 ≤ d) (σ : Sg) {α : Al} (hA : IA α) (hC : RC σ α) (l x h : Int32) : CP d mX11_cross [.ref 0, .int l, .int x, .int h] σ (XPo σ (sp_cross α l x h)) := by
  have hI := hA.i
  have hR := hC.w
  refine con_of (by decide) (catL rfl) (Nat.le_of_ble_eq_true rfl) ?_
  intro μ ω C hr
  have C : Cx μ ω "TowField" cX11_cross 6 d := C
  have hr : (mH μ).sig.returnType = some .int := hr
  show G μ ω (RQ μ ω (pP (XPo σ (sp_cross α l x h)))) 0 [some (.ref 0), some (.int l), some (.int x), some (.int h), none, none] [] (mk σ) 0 0
  refine g_il1n (pc := 0) C dX11_cross_0 ?_
  refine s_SB (pc := 1) (st := []) C (c_X3_has (d := d - 1) (by omega) σ l) (by omega) lX11_150 dX11_cross_1 rfl (Nat.le_of_ble_eq_true rfl) rfl (fun b_1 => ?_) (fun b_1 => ?_)
  · obtain ⟨i, hi, rfl⟩ := rg b_1 (B := 5) (by decide)
    have ki : (nI i).toNatClampNeg = i := nI_clamp (by omega)
    refine g_if_eq (pc := 4) (tgt := 19) C dX11_cross_4 (by decide) (fun c => absurd c (by decide)) (fun _ => ?_)
    refine g_il2n (pc := 7) C dX11_cross_7 ?_
    refine s_SB (pc := 8) (st := []) C (c_X3_has (d := d - 1) (by omega) σ x) (by omega) lX11_150 dX11_cross_8 rfl (Nat.le_of_ble_eq_true rfl) rfl (fun b_8 => ?_) (fun b_8 => ?_)
    · obtain ⟨j, hj, rfl⟩ := rg b_8 (B := 5) (by decide)
      have kj : (nI j).toNatClampNeg = j := nI_clamp (by omega)
      refine g_if_eq (pc := 11) (tgt := 19) C dX11_cross_11 (by decide) (fun c => absurd c (by decide)) (fun _ => ?_)
      refine g_il1n (pc := 14) C dX11_cross_14 ?_
      refine g_il2n (pc := 15) C dX11_cross_15 ?_
      refine g_icmp_ne (pc := 16) (tgt := 26) C dX11_cross_16 (by decide) (fun c_16 => ?_) (fun c_16 => ?_)
      · refine g_al0n (pc := 26) C dX11_cross_26 ?_
        refine s_getR (pc := 27) C fX11_21 h0 rfl dX11_cross_27 ?_
        refine s_getR (pc := 30) C fX11_153 (w0 (b := 12) isW12) rfl dX11_cross_30 ?_
        refine s_getR (pc := 33) C fX11_157 (w16 (b := 12) isW12) rfl dX11_cross_33 ?_
        refine g_il1n (pc := 36) C dX11_cross_36 ?_
        refine s_ialdv (pc := 37) (q := i) (v := (aN α) (10 + i)) C (w17 (b := 12) isW12) rfl (by omega) (Nat.le_of_ble_eq_true rfl) (hR.crs (by omega)) dX11_cross_37 ?_
        refine g_is4 (pc := 38) C dX11_cross_38 ?_
        refine g_il4 (pc := 40) C dX11_cross_40 ?_
        refine g_il2n (pc := 42) C dX11_cross_42 ?_
        refine g_il3n (pc := 43) C dX11_cross_43 ?_
        refine s_SI (pc := 44) (st := []) C (c_withBit (d := d - 1) (by omega) σ ((aN α) (10 + i)) (nI j) h) (by omega) lX11_120 dX11_cross_44 rfl (Nat.le_of_ble_eq_true rfl) rfl ?_
        refine g_is5 (pc := 47) C dX11_cross_47 ?_
        refine g_al0n (pc := 49) C dX11_cross_49 ?_
        refine s_getR (pc := 50) C fX11_21 h0 rfl dX11_cross_50 ?_
        refine s_getR (pc := 53) C fX11_153 (w0 (b := 12) isW12) rfl dX11_cross_53 ?_
        refine s_getR (pc := 56) C fX11_157 (w16 (b := 12) isW12) rfl dX11_cross_56 ?_
        refine g_il1n (pc := 59) C dX11_cross_59 ?_
        refine g_il5 (pc := 60) C dX11_cross_60 ?_
        refine s_iast (pc := 62) (q := i) C (w17 (b := 12) isW12) rfl (by omega) (Nat.le_of_ble_eq_true rfl) dX11_cross_62 ?_
        refine g_al0n (pc := 63) C dX11_cross_63 ?_
        refine s_getR (pc := 64) C fX11_21 h0 rfl dX11_cross_64 ?_
        refine s_getR (pc := 67) C fX11_153 (w0 (b := 12) isW12) rfl dX11_cross_67 ?_
        refine s_getR (pc := 70) C fX11_157 (w16 (b := 12) isW12) rfl dX11_cross_70 ?_
        refine g_il2n (pc := 73) C dX11_cross_73 ?_
        refine g_al0n (pc := 74) C dX11_cross_74 ?_
        refine s_getR (pc := 75) C fX11_21 h0 rfl dX11_cross_75 ?_
        refine s_getR (pc := 78) C fX11_153 (w0 (b := 12) isW12) rfl dX11_cross_78 ?_
        refine s_getR (pc := 81) C fX11_157 (w16 (b := 12) isW12) rfl dX11_cross_81 ?_
        refine g_il2n (pc := 84) C dX11_cross_84 ?_
        refine s_ialdv (pc := 85) (q := j) (v := aN α (10 + j)) C (w17 (b := 12) isW12) rfl (by omega) (Nat.le_of_ble_eq_true rfl) (by rw [up_at, upd_ne _ _ (fun q => c_16 (by rw [q]))]; exact hR.crs (by omega)) dX11_cross_85 ?_
        refine g_il1n (pc := 86) C dX11_cross_86 ?_
        refine g_il3n (pc := 87) C dX11_cross_87 ?_
        refine s_SI (pc := 88) (st := [(.int (nI j)), (.ref 29)]) C (c_withBit (d := d - 1) (by omega) ((up σ 29 i (wb ((aN α) (10 + i)) (nI j) h))) (aN α (10 + j)) (nI i) h) (by omega) lX11_120 dX11_cross_88 rfl (Nat.le_of_ble_eq_true rfl) rfl ?_
        refine s_iast (pc := 91) (q := j) C (w17 (b := 12) isW12) rfl (by omega) (Nat.le_of_ble_eq_true rfl) dX11_cross_91 ?_
        refine g_il4 (pc := 92) C dX11_cross_92 ?_
        refine g_il5 (pc := 94) C dX11_cross_94 ?_
        refine g_icmp_ne (pc := 96) (tgt := 103) C dX11_cross_96 (by decide) (fun c_96 => ?_) (fun c_96 => ?_)
        · refine g_iconst (pc := 103) (v := 1) C dX11_cross_103 (by decide) ?_
          have hne : i ≠ j := fun q => c_16 (by rw [q])
          have hsp : sp_cross α (nI i) (nI j) h = (if wb (aN α (10 + i)) (nI j) h = aN α (10 + i) then 0 else 1, sN α (upd (upd (aN α) (10 + j) (wb (aN α (10 + j)) (nI i) h)) (10 + i) (wb (aN α (10 + i)) (nI j) h))) := by simp only [sp_cross, b_1, b_8, c_16, c_96, ki, kj, bitS, sN, aN, eq_self, ne_eq, not_true_eq_false, not_false_eq_true, Classical.not_not, decide_true, decide_false, and_true, true_and, and_false, false_and, and_self, or_true, true_or, or_false, false_or, or_self, if_true, if_false, ite_true, ite_false, Bool.eq_false_iff, Bool.not_eq_eq_eq_not, Bool.true_eq_false, Bool.false_eq_true, reduceCtorEq]; simp (disch := omega) only [upd_ne]
          exact r_P C hr dX11_cross_104 (XPo_now hA hC (cross_RW hI hR (by omega) (by omega) hne _ _) (Fz.up (z := 12) (k := 17) (by omega) (Fz.up (z := 12) (k := 17) (by omega) Fz.rf)) hsp (if_neg (fun q => c_96 q.symm)).symm)
        · refine g_iconst (pc := 99) (v := 0) C dX11_cross_99 (by decide) ?_
          refine g_goto (pc := 100) (tgt := 104) C dX11_cross_100 (by decide) ?_
          have hne : i ≠ j := fun q => c_16 (by rw [q])
          have hsp : sp_cross α (nI i) (nI j) h = (if wb (aN α (10 + i)) (nI j) h = aN α (10 + i) then 0 else 1, sN α (upd (upd (aN α) (10 + j) (wb (aN α (10 + j)) (nI i) h)) (10 + i) (wb (aN α (10 + i)) (nI j) h))) := by simp only [sp_cross, b_1, b_8, c_16, eq_true c_96, ki, kj, bitS, sN, aN, eq_self, ne_eq, not_true_eq_false, not_false_eq_true, Classical.not_not, decide_true, decide_false, and_true, true_and, and_false, false_and, and_self, or_true, true_or, or_false, false_or, or_self, if_true, if_false, ite_true, ite_false, Bool.eq_false_iff, Bool.not_eq_eq_eq_not, Bool.true_eq_false, Bool.false_eq_true, reduceCtorEq]; simp (disch := omega) only [upd_ne]
          exact r_P C hr dX11_cross_104 (XPo_now hA hC (cross_RW hI hR (by omega) (by omega) hne _ _) (Fz.up (z := 12) (k := 17) (by omega) (Fz.up (z := 12) (k := 17) (by omega) Fz.rf)) hsp (if_pos c_96.symm).symm)
      · refine g_al0n (pc := 19) C dX11_cross_19 ?_
        refine g_ldc (pc := 20) C dX11_cross_20 kX11_57 ?_
        refine s_VI (pc := 22) (st := []) C h0 rfl (c_found0 (d := d - 1) (by omega) σ) (by omega) lX11_58 dX11_cross_22 rfl (Nat.le_of_ble_eq_true rfl) rfl ?_
        have hsp : sp_cross α (nI i) (nI j) h = FB α := by simp only [sp_cross, b_1, b_8, eq_true c_16, ki, kj, bitS, sN, aN, eq_self, ne_eq, not_true_eq_false, not_false_eq_true, Classical.not_not, decide_true, decide_false, and_true, true_and, and_false, false_and, and_self, or_true, true_or, or_false, false_or, or_self, if_true, if_false, ite_true, ite_false, Bool.eq_false_iff, Bool.not_eq_eq_eq_not, Bool.true_eq_false, Bool.false_eq_true, reduceCtorEq]
        exact r_P C hr dX11_cross_25 (by rw [hsp]; exact XPo_fnd hA hC (i := 0) (by decide) _)
    · refine g_if_eq (pc := 11) (tgt := 19) C dX11_cross_11 (by decide) (fun _ => ?_) (fun c => absurd c (by decide))
      refine g_al0n (pc := 19) C dX11_cross_19 ?_
      refine g_ldc (pc := 20) C dX11_cross_20 kX11_57 ?_
      refine s_VI (pc := 22) (st := []) C h0 rfl (c_found0 (d := d - 1) (by omega) σ) (by omega) lX11_58 dX11_cross_22 rfl (Nat.le_of_ble_eq_true rfl) rfl ?_
      have hsp : sp_cross α (nI i) x h = FB α := by simp only [sp_cross, b_1, b_8, ki, bitS, sN, aN, eq_self, ne_eq, not_true_eq_false, not_false_eq_true, Classical.not_not, decide_true, decide_false, and_true, true_and, and_false, false_and, and_self, or_true, true_or, or_false, false_or, or_self, if_true, if_false, ite_true, ite_false, Bool.eq_false_iff, Bool.not_eq_eq_eq_not, Bool.true_eq_false, Bool.false_eq_true, reduceCtorEq]
      exact r_P C hr dX11_cross_25 (by rw [hsp]; exact XPo_fnd hA hC (i := 0) (by decide) _)
  · refine g_if_eq (pc := 4) (tgt := 19) C dX11_cross_4 (by decide) (fun _ => ?_) (fun c => absurd c (by decide))
    refine g_al0n (pc := 19) C dX11_cross_19 ?_
    refine g_ldc (pc := 20) C dX11_cross_20 kX11_57 ?_
    refine s_VI (pc := 22) (st := []) C h0 rfl (c_found0 (d := d - 1) (by omega) σ) (by omega) lX11_58 dX11_cross_22 rfl (Nat.le_of_ble_eq_true rfl) rfl ?_
    have hsp : sp_cross α l x h = FB α := by simp only [sp_cross, b_1, bitS, sN, aN, eq_self, ne_eq, not_true_eq_false, not_false_eq_true, Classical.not_not, decide_true, decide_false, and_true, true_and, and_false, false_and, and_self, or_true, true_or, or_false, false_or, or_self, if_true, if_false, ite_true, ite_false, Bool.eq_false_iff, Bool.not_eq_eq_eq_not, Bool.true_eq_false, Bool.false_eq_true, reduceCtorEq]
    exact r_P C hr dX11_cross_25 (by rw [hsp]; exact XPo_fnd hA hC (i := 0) (by decide) _)

theorem x_lane {d : Nat} (hd : 3 ≤ d) (σ : Sg) {α : Al} (hA : IA α) (hC : RC σ α) (w l : Int32) : CP d mX11_lane [.ref 0, .int w, .int l] σ (XPo σ (sp_lane α w l)) := by
  have hI := hA.i
  have hR := hC.w
  refine con_of (by decide) (catL rfl) (Nat.le_of_ble_eq_true rfl) ?_
  intro μ ω C hr
  have C : Cx μ ω "TowField" cX11_lane 4 d := C
  have hr : (mH μ).sig.returnType = some .int := hr
  show G μ ω (RQ μ ω (pP (XPo σ (sp_lane α w l)))) 0 [some (.ref 0), some (.int w), some (.int l), none] [] (mk σ) 0 0
  refine g_il1n (pc := 0) C dX11_lane_0 ?_
  refine g_iconst (pc := 1) (v := 0) C dX11_lane_1 (by decide) ?_
  refine g_iconst (pc := 2) (v := 3) C dX11_lane_2 (by decide) ?_
  refine s_SB (pc := 3) (st := []) C (c_X11_within (d := d - 1) (by omega) σ w 0 3) (by omega) lX11_53 dX11_lane_3 rfl (Nat.le_of_ble_eq_true rfl) rfl (fun b_3 => ?_) (fun b_3 => ?_)
  · obtain ⟨i, hi, rfl⟩ := rgL b_3 (by decide) (B := 3) (by decide)
    have ki : (nI i).toNatClampNeg = i := nI_clamp (by omega)
    refine g_if_eq (pc := 6) (tgt := 16) C dX11_lane_6 (by decide) (fun c => absurd c (by decide)) (fun _ => ?_)
    refine g_il2n (pc := 9) C dX11_lane_9 ?_
    refine s_SB (pc := 10) (st := []) C (c_X3_has (d := d - 1) (by omega) σ l) (by omega) lX11_150 dX11_lane_10 rfl (Nat.le_of_ble_eq_true rfl) rfl (fun b_10 => ?_) (fun b_10 => ?_)
    · obtain ⟨j, hj, rfl⟩ := rg b_10 (B := 5) (by decide)
      have kj : (nI j).toNatClampNeg = j := nI_clamp (by omega)
      refine g_if_ne (pc := 13) (tgt := 23) C dX11_lane_13 (by decide) (fun _ => ?_) (fun c => absurd c (by decide))
      refine g_al0n (pc := 23) C dX11_lane_23 ?_
      refine s_getR (pc := 24) C fX11_21 h0 rfl dX11_lane_24 ?_
      refine s_getR (pc := 27) C fX11_153 (w0 (b := 12) isW12) rfl dX11_lane_27 ?_
      refine s_getR (pc := 30) C fX11_160 (w16 (b := 12) isW12) rfl dX11_lane_30 ?_
      refine g_il1n (pc := 33) C dX11_lane_33 ?_
      refine s_ialdv (pc := 34) (q := i) (v := (aN α) (16 + i)) C (w18 (b := 12) isW12) rfl (by omega) (Nat.le_of_ble_eq_true rfl) (hR.lfo (by omega)) dX11_lane_34 ?_
      refine g_is3n (pc := 35) C dX11_lane_35 ?_
      refine g_al0n (pc := 36) C dX11_lane_36 ?_
      refine s_getR (pc := 37) C fX11_21 h0 rfl dX11_lane_37 ?_
      refine s_getR (pc := 40) C fX11_153 (w0 (b := 12) isW12) rfl dX11_lane_40 ?_
      refine s_getR (pc := 43) C fX11_160 (w16 (b := 12) isW12) rfl dX11_lane_43 ?_
      refine g_il1n (pc := 46) C dX11_lane_46 ?_
      refine g_il2n (pc := 47) C dX11_lane_47 ?_
      refine s_iast (pc := 48) (q := i) C (w18 (b := 12) isW12) rfl (by omega) (Nat.le_of_ble_eq_true rfl) dX11_lane_48 ?_
      refine g_il3n (pc := 49) C dX11_lane_49 ?_
      have hsp : sp_lane α (nI i) (nI j) = (aN α (16 + i), sN α (upd (aN α) (16 + i) (nI j))) := by simp only [sp_lane, b_3, b_10, ki, kj, becS, eq_self, ne_eq, not_true_eq_false, not_false_eq_true, Classical.not_not, decide_true, decide_false, and_true, true_and, and_false, false_and, and_self, or_true, true_or, or_false, false_or, or_self, if_true, if_false, ite_true, ite_false, Bool.eq_false_iff, Bool.not_eq_eq_eq_not, Bool.true_eq_false, Bool.false_eq_true, reduceCtorEq]
      exact r_P C hr dX11_lane_50 (XPo_now hA hC (W_lane isW12 hI hR (by omega) _) (Fz.up (z := 12) (k := 18) (by omega) Fz.rf) hsp rfl)
    · refine g_if_ne (pc := 13) (tgt := 23) C dX11_lane_13 (by decide) (fun c => absurd c (by decide)) (fun _ => ?_)
      refine g_al0n (pc := 16) C dX11_lane_16 ?_
      refine g_ldc (pc := 17) C dX11_lane_17 kX11_57 ?_
      refine s_VI (pc := 19) (st := []) C h0 rfl (c_found0 (d := d - 1) (by omega) σ) (by omega) lX11_58 dX11_lane_19 rfl (Nat.le_of_ble_eq_true rfl) rfl ?_
      have hsp : sp_lane α (nI i) l = FB α := by simp only [sp_lane, b_3, b_10, ki, becS, eq_self, ne_eq, not_true_eq_false, not_false_eq_true, Classical.not_not, decide_true, decide_false, and_true, true_and, and_false, false_and, and_self, or_true, true_or, or_false, false_or, or_self, if_true, if_false, ite_true, ite_false, Bool.eq_false_iff, Bool.not_eq_eq_eq_not, Bool.true_eq_false, Bool.false_eq_true, reduceCtorEq]
      exact r_P C hr dX11_lane_22 (by rw [hsp]; exact XPo_fnd hA hC (i := 0) (by decide) _)
  · refine g_if_eq (pc := 6) (tgt := 16) C dX11_lane_6 (by decide) (fun _ => ?_) (fun c => absurd c (by decide))
    refine g_al0n (pc := 16) C dX11_lane_16 ?_
    refine g_ldc (pc := 17) C dX11_lane_17 kX11_57 ?_
    refine s_VI (pc := 19) (st := []) C h0 rfl (c_found0 (d := d - 1) (by omega) σ) (by omega) lX11_58 dX11_lane_19 rfl (Nat.le_of_ble_eq_true rfl) rfl ?_
    have hsp : sp_lane α w l = FB α := by simp only [sp_lane, b_3, becS, eq_self, ne_eq, not_true_eq_false, not_false_eq_true, Classical.not_not, decide_true, decide_false, and_true, true_and, and_false, false_and, and_self, or_true, true_or, or_false, false_or, or_self, if_true, if_false, ite_true, ite_false, Bool.eq_false_iff, Bool.not_eq_eq_eq_not, Bool.true_eq_false, Bool.false_eq_true, reduceCtorEq]
    exact r_P C hr dX11_lane_22 (by rw [hsp]; exact XPo_fnd hA hC (i := 0) (by decide) _)

theorem x_wind {d : Nat} (hd : 3 ≤ d) (σ : Sg) {α : Al} (hA : IA α) (hC : RC σ α) (v : Int32) : CP d mX11_wind [.ref 0, .int v] σ (XPo σ (sp_wind α v)) := by
  have hI := hA.i
  have hR := hC.w
  refine con_of (by decide) (catL rfl) (Nat.le_of_ble_eq_true rfl) ?_
  intro μ ω C hr
  have C : Cx μ ω "TowField" cX11_wind 3 d := C
  have hr : (mH μ).sig.returnType = some .int := hr
  show G μ ω (RQ μ ω (pP (XPo σ (sp_wind α v)))) 0 [some (.ref 0), some (.int v), none] [] (mk σ) 0 0
  refine g_il1n (pc := 0) C dX11_wind_0 ?_
  refine g_iconst (pc := 1) (v := 0) C dX11_wind_1 (by decide) ?_
  refine g_bipush (pc := 2) (v := 40) C dX11_wind_2 (by decide) ?_
  refine s_SB (pc := 4) (st := []) C (c_X11_within (d := d - 1) (by omega) σ v 0 40) (by omega) lX11_53 dX11_wind_4 rfl (Nat.le_of_ble_eq_true rfl) rfl (fun b_4 => ?_) (fun b_4 => ?_)
  · refine g_if_ne (pc := 7) (tgt := 17) C dX11_wind_7 (by decide) (fun _ => ?_) (fun c => absurd c (by decide))
    refine g_al0n (pc := 17) C dX11_wind_17 ?_
    refine s_getR (pc := 18) C fX11_21 h0 rfl dX11_wind_18 ?_
    refine s_getIv (pc := 21) (v := (aN α) 1) C fX11_163 (w0 (b := 12) isW12) rfl hR.wnd dX11_wind_21 ?_
    refine g_is2n (pc := 24) C dX11_wind_24 ?_
    refine g_al0n (pc := 25) C dX11_wind_25 ?_
    refine s_getR (pc := 26) C fX11_21 h0 rfl dX11_wind_26 ?_
    refine g_il1n (pc := 29) C dX11_wind_29 ?_
    refine s_putI (pc := 30) C pX11_163 (w0 (b := 12) isW12) rfl dX11_wind_30 ?_
    refine g_il2n (pc := 33) C dX11_wind_33 ?_
    have hsp : sp_wind α v = (aN α 1, sN α (upd (aN α) 1 v)) := by simp only [sp_wind, b_4, becS, eq_self, ne_eq, not_true_eq_false, not_false_eq_true, Classical.not_not, decide_true, decide_false, and_true, true_and, and_false, false_and, and_self, or_true, true_or, or_false, false_or, or_self, if_true, if_false, ite_true, ite_false, Bool.eq_false_iff, Bool.not_eq_eq_eq_not, Bool.true_eq_false, Bool.false_eq_true, reduceCtorEq]
    exact r_P C hr dX11_wind_34 (XPo_now hA hC (W_wind isW12 hI hR _) (Fz.up (z := 12) (k := 0) (by omega) Fz.rf) hsp rfl)
  · refine g_if_ne (pc := 7) (tgt := 17) C dX11_wind_7 (by decide) (fun c => absurd c (by decide)) (fun _ => ?_)
    refine g_al0n (pc := 10) C dX11_wind_10 ?_
    refine g_ldc (pc := 11) C dX11_wind_11 kX11_57 ?_
    refine s_VI (pc := 13) (st := []) C h0 rfl (c_found0 (d := d - 1) (by omega) σ) (by omega) lX11_58 dX11_wind_13 rfl (Nat.le_of_ble_eq_true rfl) rfl ?_
    have hsp : sp_wind α v = FB α := by simp only [sp_wind, b_4, becS, eq_self, ne_eq, not_true_eq_false, not_false_eq_true, Classical.not_not, decide_true, decide_false, and_true, true_and, and_false, false_and, and_self, or_true, true_or, or_false, false_or, or_self, if_true, if_false, ite_true, ite_false, Bool.eq_false_iff, Bool.not_eq_eq_eq_not, Bool.true_eq_false, Bool.false_eq_true, reduceCtorEq]
    exact r_P C hr dX11_wind_16 (by rw [hsp]; exact XPo_fnd hA hC (i := 0) (by decide) _)

theorem x_link {d : Nat} (hd : 3 ≤ d) (σ : Sg) {α : Al} (hA : IA α) (hC : RC σ α) (l h : Int32) : CP d mX11_link [.ref 0, .int l, .int h] σ (XPo σ (sp_link α l h)) := by
  have hI := hA.i
  have hR := hC.w
  refine con_of (by decide) (catL rfl) (Nat.le_of_ble_eq_true rfl) ?_
  intro μ ω C hr
  have C : Cx μ ω "TowField" cX11_link 4 d := C
  have hr : (mH μ).sig.returnType = some .int := hr
  show G μ ω (RQ μ ω (pP (XPo σ (sp_link α l h)))) 0 [some (.ref 0), some (.int l), some (.int h), none] [] (mk σ) 0 0
  refine g_il1n (pc := 0) C dX11_link_0 ?_
  refine g_iconst (pc := 1) (v := 0) C dX11_link_1 (by decide) ?_
  refine g_iconst (pc := 2) (v := 3) C dX11_link_2 (by decide) ?_
  refine s_SB (pc := 3) (st := []) C (c_X11_within (d := d - 1) (by omega) σ l 0 3) (by omega) lX11_53 dX11_link_3 rfl (Nat.le_of_ble_eq_true rfl) rfl (fun b_3 => ?_) (fun b_3 => ?_)
  · refine g_if_ne (pc := 6) (tgt := 16) C dX11_link_6 (by decide) (fun _ => ?_) (fun c => absurd c (by decide))
    refine g_al0n (pc := 16) C dX11_link_16 ?_
    refine s_getR (pc := 17) C fX11_21 h0 rfl dX11_link_17 ?_
    refine s_getIv (pc := 20) (v := (aN α) 2) C fX11_166 (w0 (b := 12) isW12) rfl hR.lnk dX11_link_20 ?_
    refine g_is3n (pc := 23) C dX11_link_23 ?_
    refine g_al0n (pc := 24) C dX11_link_24 ?_
    refine s_getR (pc := 25) C fX11_21 h0 rfl dX11_link_25 ?_
    refine g_il3n (pc := 28) C dX11_link_28 ?_
    refine g_il1n (pc := 29) C dX11_link_29 ?_
    refine g_il2n (pc := 30) C dX11_link_30 ?_
    refine s_SI (pc := 31) (st := [(.ref 12)]) C (c_withBit (d := d - 1) (by omega) σ ((aN α) 2) l h) (by omega) lX11_120 dX11_link_31 rfl (Nat.le_of_ble_eq_true rfl) rfl ?_
    refine s_putI (pc := 34) C pX11_166 (w0 (b := 12) isW12) rfl dX11_link_34 ?_
    refine g_il3n (pc := 37) C dX11_link_37 ?_
    refine g_al0n (pc := 38) C dX11_link_38 ?_
    refine s_getR (pc := 39) C fX11_21 h0 rfl dX11_link_39 ?_
    refine s_getIv (pc := 42) (v := wb (aN α 2) l h) C fX11_166 (w0 (b := 12) isW12) rfl (by rw [up_at, upd_at]) dX11_link_42 ?_
    refine g_icmp_ne (pc := 45) (tgt := 52) C dX11_link_45 (by decide) (fun c_45 => ?_) (fun c_45 => ?_)
    · refine g_iconst (pc := 52) (v := 1) C dX11_link_52 (by decide) ?_
      have hsp : sp_link α l h = (if wb (aN α 2) l h = aN α 2 then 0 else 1, sN α (upd (aN α) 2 (wb (aN α 2) l h))) := by simp only [sp_link, b_3, c_45, bitS, eq_self, ne_eq, not_true_eq_false, not_false_eq_true, Classical.not_not, decide_true, decide_false, and_true, true_and, and_false, false_and, and_self, or_true, true_or, or_false, false_or, or_self, if_true, if_false, ite_true, ite_false, Bool.eq_false_iff, Bool.not_eq_eq_eq_not, Bool.true_eq_false, Bool.false_eq_true, reduceCtorEq]
      exact r_P C hr dX11_link_53 (XPo_now hA hC (W_link isW12 hI hR _) (Fz.up (z := 12) (k := 0) (by omega) Fz.rf) hsp (if_neg (fun q => c_45 q.symm)).symm)
    · refine g_iconst (pc := 48) (v := 0) C dX11_link_48 (by decide) ?_
      refine g_goto (pc := 49) (tgt := 53) C dX11_link_49 (by decide) ?_
      have hsp : sp_link α l h = (if wb (aN α 2) l h = aN α 2 then 0 else 1, sN α (upd (aN α) 2 (wb (aN α 2) l h))) := by simp only [sp_link, b_3, eq_true c_45, bitS, eq_self, ne_eq, not_true_eq_false, not_false_eq_true, Classical.not_not, decide_true, decide_false, and_true, true_and, and_false, false_and, and_self, or_true, true_or, or_false, false_or, or_self, if_true, if_false, ite_true, ite_false, Bool.eq_false_iff, Bool.not_eq_eq_eq_not, Bool.true_eq_false, Bool.false_eq_true, reduceCtorEq]
      exact r_P C hr dX11_link_53 (XPo_now hA hC (W_link isW12 hI hR _) (Fz.up (z := 12) (k := 0) (by omega) Fz.rf) hsp (if_pos c_45.symm).symm)
  · refine g_if_ne (pc := 6) (tgt := 16) C dX11_link_6 (by decide) (fun c => absurd c (by decide)) (fun _ => ?_)
    refine g_al0n (pc := 9) C dX11_link_9 ?_
    refine g_ldc (pc := 10) C dX11_link_10 kX11_57 ?_
    refine s_VI (pc := 12) (st := []) C h0 rfl (c_found0 (d := d - 1) (by omega) σ) (by omega) lX11_58 dX11_link_12 rfl (Nat.le_of_ble_eq_true rfl) rfl ?_
    have hsp : sp_link α l h = FB α := by simp only [sp_link, b_3, bitS, eq_self, ne_eq, not_true_eq_false, not_false_eq_true, Classical.not_not, decide_true, decide_false, and_true, true_and, and_false, false_and, and_self, or_true, true_or, or_false, false_or, or_self, if_true, if_false, ite_true, ite_false, Bool.eq_false_iff, Bool.not_eq_eq_eq_not, Bool.true_eq_false, Bool.false_eq_true, reduceCtorEq]
    exact r_P C hr dX11_link_15 (by rw [hsp]; exact XPo_fnd hA hC (i := 0) (by decide) _)

