/-! ===== the model: calls that look and put ===== -/
theorem mv_now (σ : Sg) (j : Nat) (x : Int32) : mv (up σ 136 j x) = sN (mv σ) (upd (σ 136) j x) := rfl
theorem mv_fnd (σ : Sg) (j : Nat) (x : Int32) : mv (up σ 139 j x) = (σ 136, σ 137, σ 135 3, upd (σ 139) j x, σ 140, σ 135 6, σ 144, σ 145, σ 146) := rfl
theorem rg {w : Int32} {B : Nat} (h : 0 ≤ w ∧ w ≤ nI B) (hB : B < 2 ^ 31) : ∃ k, k ≤ B ∧ w = nI k := by
  obtain ⟨j, hj, rfl⟩ := nI_of (nlt_of_le32 h.1)
  exact ⟨j, (nI_leI hj hB).mp h.2, rfl⟩
theorem rgL {w A : Int32} {B : Nat} (h : A ≤ w ∧ w ≤ nI B) (hA : 0 ≤ A) (hB : B < 2 ^ 31) : ∃ k, k ≤ B ∧ w = nI k := rg ⟨Int32.le_trans hA h.1, h.2⟩ hB
theorem ltN {a b : Nat} (h : nI a < nI b) (ha : a < 2 ^ 31) (hb : b < 2 ^ 31) : a < b := (nI_ltI ha hb).mp h
theorem neN {a b : Nat} (h : ¬ nI a = nI b) : a ≠ b := fun e => h (by rw [e])
theorem c_X12_becomeE {d : Nat} (hd : 1 ≤ d) (σ : Sg) {q : Nat} (hq : q < 970) {x : Int32} (hx : x = nI q) (v : Int32) : CI d mX12_become [.ref 135, .int x, .int v] σ (σ 136 q) (up σ 136 q v) := by
  subst hx
  exact c_X12_become hd σ hq v
theorem c_X12_bitE {d : Nat} (hd : 1 ≤ d) (σ : Sg) {q : Nat} (hq : q < 970) {x : Int32} (hx : x = nI q) (k is : Int32) : CI d mX12_bit [.ref 135, .int x, .int k, .int is] σ (if wb (σ 136 q) k is = σ 136 q then 0 else 1) (up σ 136 q (wb (σ 136 q) k is)) := by
  subst hx
  exact c_X12_bit hd σ hq k is
theorem c_X12_isE {d : Nat} (hd : 2 ≤ d) (σ : Sg) (k : Int32) {c : Nat} (hc : c < 970) {x : Int32} (hx : x = nI c) : CB d mX12_is [.ref 135, .int k, .int x] σ (0 ≤ k ∧ k ≤ σ 136 c - 1) σ := by
  subst hx
  exact c_X12_is hd σ k hc
theorem mvE {σ τ : Sg} (h : Eqx [143] σ τ) : mv τ = mv σ := by
  unfold mv
  rw [h 136 (by decide), h 137 (by decide), h 135 (by decide), h 139 (by decide), h 140 (by decide), h 144 (by decide), h 145 (by decide), h 146 (by decide)]
theorem mv_tap (σ : Sg) (x : Int32) : mv (up σ 135 6 x) = (σ 136, σ 137, σ 135 3, σ 139, σ 140, x, σ 144, σ 145, σ 146) := rfl
theorem mv_kep (σ : Sg) (x : Int32) : mv (up σ 135 3 x) = (σ 136, σ 137, x, σ 139, σ 140, σ 135 6, σ 144, σ 145, σ 146) := rfl
theorem frX {σ τ : Sg} (h : Eqx [143] σ τ) : ∀ k, k < 135 → τ k = σ k := fun k hk => h k (by simp; omega)
theorem mtX {σ τ : Sg} (h : Eqx [143] σ τ) : MT σ → MT τ := mtE h (by decide)
theorem m_wind {d : Nat} (hd : 3 ≤ d) (σ : Sg) (hI : INV (σ 136)) (v : Int32) : CP d mX12_wind [.ref 135, .int v] σ (MPo σ (sp_wind (mv σ) v)) := by
  refine con_of (by decide) (catL rfl) (Nat.le_of_ble_eq_true rfl) ?_
  intro μ ω C hr
  have C : Cx μ ω "TowFieldModel" cX12_wind 2 d := C
  have hr : (mH μ).sig.returnType = some .int := hr
  show G μ ω (RQ μ ω (pP (MPo σ (sp_wind (mv σ) v)))) 0 [some (.ref 135), some (.int v)] [] (mk σ) 0 0
  refine g_il1n (pc := 0) C dX12_wind_0 ?_
  refine g_iconst (pc := 1) (v := 0) C dX12_wind_1 (by decide) ?_
  refine g_bipush (pc := 2) (v := 40) C dX12_wind_2 (by decide) ?_
  refine s_SB (pc := 4) (st := []) C (c_X12_within (d := d - 1) (by omega) σ v 0 40) (by omega) lX12_58 dX12_wind_4 rfl (Nat.le_of_ble_eq_true rfl) rfl (fun b_4 => ?_) (fun b_4 => ?_)
  · refine g_if_eq (pc := 7) (tgt := 19) C dX12_wind_7 (by decide) (fun c => absurd c (by decide)) (fun _ => ?_)
    refine g_al0n (pc := 10) C dX12_wind_10 ?_
    refine g_iconst (pc := 11) (v := 1) C dX12_wind_11 (by decide) ?_
    refine g_il1n (pc := 12) C dX12_wind_12 ?_
    refine s_VI (pc := 13) (st := []) C h135 rfl (c_X12_becomeE (d := d - 1) (by omega) σ (q := 1) (by omega) (by first | (simp only [ixl, nI_add, pk_mul]; done) | rfl | decide) v) (by omega) lX12_103 dX12_wind_13 rfl (Nat.le_of_ble_eq_true rfl) rfl ?_
    refine g_goto (pc := 16) (tgt := 25) C dX12_wind_16 (by decide) ?_
    refine r_P C hr dX12_wind_25 ⟨?_, ?_, ?_, ?_⟩
    · first | (simp only [sp_wind, FB, FF, FK, FN, FS, FM, FZ, fnd, becS, bitS, sN, mv, aN, aF, aK, aH, aT, aS, aW, aZ, aU, b_4, eq_self, ne_eq, not_true_eq_false, not_false_eq_true, Classical.not_not, decide_true, decide_false, and_true, true_and, and_false, false_and, and_self, or_true, true_or, or_false, false_or, or_self, if_true, if_false, ite_true, ite_false, Bool.eq_false_iff, Bool.not_eq_eq_eq_not, Bool.true_eq_false, Bool.false_eq_true, reduceCtorEq]; done) | (simp only [sp_wind, FB, FF, FK, FN, FS, FM, FZ, fnd, becS, bitS, sN, mv, aN, aF, aK, aH, aT, aS, aW, aZ, aU, b_4, eq_self, ne_eq, not_true_eq_false, not_false_eq_true, Classical.not_not, decide_true, decide_false, and_true, true_and, and_false, false_and, and_self, or_true, true_or, or_false, false_or, or_self, if_true, if_false, ite_true, ite_false, Bool.eq_false_iff, Bool.not_eq_eq_eq_not, Bool.true_eq_false, Bool.false_eq_true, reduceCtorEq]; rfl) | (simp [becS, bitS, sp_wind, FB, FF, FK, FN, FS, FM, FZ, fnd, mv, aN, b_4]; done)
    · try simp only [mv_now, mv_fnd, mv_tap, mv_kep]
      first | (simp only [up_at, sN, becS, bitS, sp_wind, FB, FF, FK, FN, FS, FM, FZ, fnd, mv, aN, aF, aK, aH, aT, aS, aW, aZ, aU, b_4, eq_self, ne_eq, not_true_eq_false, not_false_eq_true, Classical.not_not, decide_true, decide_false, and_true, true_and, and_false, false_and, and_self, or_true, true_or, or_false, false_or, or_self, if_true, if_false, ite_true, ite_false, Bool.eq_false_iff, Bool.not_eq_eq_eq_not, Bool.true_eq_false, Bool.false_eq_true, reduceCtorEq]; done) | (simp only [up_at, sN, becS, bitS, sp_wind, FB, FF, FK, FN, FS, FM, FZ, fnd, mv, aN, aF, aK, aH, aT, aS, aW, aZ, aU, b_4, eq_self, ne_eq, not_true_eq_false, not_false_eq_true, Classical.not_not, decide_true, decide_false, and_true, true_and, and_false, false_and, and_self, or_true, true_or, or_false, false_or, or_self, if_true, if_false, ite_true, ite_false, Bool.eq_false_iff, Bool.not_eq_eq_eq_not, Bool.true_eq_false, Bool.false_eq_true, reduceCtorEq]; rfl) | (simp [mv_now, mv_fnd, up_at, sN, becS, bitS, sp_wind, FB, FF, FK, FN, FS, FM, FZ, fnd, mv, aN, b_4]; done)
    · repeat first | exact (fun _ _ => rfl) | refine frU (by decide) ?_
    · repeat first | exact id | refine mtU (by decide) ?_
  · refine g_if_eq (pc := 7) (tgt := 19) C dX12_wind_7 (by decide) (fun _ => ?_) (fun c => absurd c (by decide))
    refine g_al0n (pc := 19) C dX12_wind_19 ?_
    refine g_ldc (pc := 20) C dX12_wind_20 kX12_57 ?_
    refine s_VI (pc := 22) (st := []) C h135 rfl (c_X12_finding (d := d - 1) (by omega) σ (i := 0) (by decide) (w := ((-1000001))) (by decide)) (by omega) lX12_62 dX12_wind_22 rfl (Nat.le_of_ble_eq_true rfl) rfl ?_
    refine r_P C hr dX12_wind_25 ⟨?_, ?_, ?_, ?_⟩
    · first | (simp only [sp_wind, FB, FF, FK, FN, FS, FM, FZ, fnd, becS, bitS, sN, mv, aN, aF, aK, aH, aT, aS, aW, aZ, aU, b_4, eq_self, ne_eq, not_true_eq_false, not_false_eq_true, Classical.not_not, decide_true, decide_false, and_true, true_and, and_false, false_and, and_self, or_true, true_or, or_false, false_or, or_self, if_true, if_false, ite_true, ite_false, Bool.eq_false_iff, Bool.not_eq_eq_eq_not, Bool.true_eq_false, Bool.false_eq_true, reduceCtorEq]; done) | (simp only [sp_wind, FB, FF, FK, FN, FS, FM, FZ, fnd, becS, bitS, sN, mv, aN, aF, aK, aH, aT, aS, aW, aZ, aU, b_4, eq_self, ne_eq, not_true_eq_false, not_false_eq_true, Classical.not_not, decide_true, decide_false, and_true, true_and, and_false, false_and, and_self, or_true, true_or, or_false, false_or, or_self, if_true, if_false, ite_true, ite_false, Bool.eq_false_iff, Bool.not_eq_eq_eq_not, Bool.true_eq_false, Bool.false_eq_true, reduceCtorEq]; rfl) | (simp [becS, bitS, sp_wind, FB, FF, FK, FN, FS, FM, FZ, fnd, mv, aN, b_4]; done)
    · try simp only [mv_now, mv_fnd, mv_tap, mv_kep]
      first | (simp only [up_at, sN, becS, bitS, sp_wind, FB, FF, FK, FN, FS, FM, FZ, fnd, mv, aN, aF, aK, aH, aT, aS, aW, aZ, aU, b_4, eq_self, ne_eq, not_true_eq_false, not_false_eq_true, Classical.not_not, decide_true, decide_false, and_true, true_and, and_false, false_and, and_self, or_true, true_or, or_false, false_or, or_self, if_true, if_false, ite_true, ite_false, Bool.eq_false_iff, Bool.not_eq_eq_eq_not, Bool.true_eq_false, Bool.false_eq_true, reduceCtorEq]; done) | (simp only [up_at, sN, becS, bitS, sp_wind, FB, FF, FK, FN, FS, FM, FZ, fnd, mv, aN, aF, aK, aH, aT, aS, aW, aZ, aU, b_4, eq_self, ne_eq, not_true_eq_false, not_false_eq_true, Classical.not_not, decide_true, decide_false, and_true, true_and, and_false, false_and, and_self, or_true, true_or, or_false, false_or, or_self, if_true, if_false, ite_true, ite_false, Bool.eq_false_iff, Bool.not_eq_eq_eq_not, Bool.true_eq_false, Bool.false_eq_true, reduceCtorEq]; rfl) | (simp [mv_now, mv_fnd, up_at, sN, becS, bitS, sp_wind, FB, FF, FK, FN, FS, FM, FZ, fnd, mv, aN, b_4]; done)
    · repeat first | exact (fun _ _ => rfl) | refine frU (by decide) ?_
    · repeat first | exact id | refine mtU (by decide) ?_

theorem m_tow {d : Nat} (hd : 3 ≤ d) (σ : Sg) (hI : INV (σ 136)) (p : Int32) : CP d mX12_tow [.ref 135, .int p] σ (MPo σ (sp_tow (mv σ) p)) := by
  refine con_of (by decide) (catL rfl) (Nat.le_of_ble_eq_true rfl) ?_
  intro μ ω C hr
  have C : Cx μ ω "TowFieldModel" cX12_tow 2 d := C
  have hr : (mH μ).sig.returnType = some .int := hr
  show G μ ω (RQ μ ω (pP (MPo σ (sp_tow (mv σ) p)))) 0 [some (.ref 135), some (.int p)] [] (mk σ) 0 0
  refine g_al0n (pc := 0) C dX12_tow_0 ?_
  refine g_il1n (pc := 1) C dX12_tow_1 ?_
  refine g_bipush (pc := 2) (v := 6) C dX12_tow_2 (by decide) ?_
  refine s_VB (pc := 4) (st := []) C h135 rfl (c_X12_isE (d := d - 1) (by omega) σ p (c := 6) (by decide) rfl) (by omega) lX12_71 dX12_tow_4 rfl (Nat.le_of_ble_eq_true rfl) rfl (fun b_4 => ?_) (fun b_4 => ?_)
  · have hn6 := hI.n6.2
    obtain ⟨j, hj, rfl⟩ := (is_iff hI.n6.1 (by have := hI.n6.2; omega)).mp b_4
    have kj : (nI j).toNatClampNeg = j := nI_clamp (by omega)
    refine g_if_eq (pc := 7) (tgt := 22) C dX12_tow_7 (by decide) (fun c => absurd c (by decide)) (fun _ => ?_)
    refine g_al0n (pc := 10) C dX12_tow_10 ?_
    refine s_getR (pc := 11) C fX12_9 h135 rfl dX12_tow_11 ?_
    refine g_bipush (pc := 14) (v := 30) C dX12_tow_14 (by decide) ?_
    refine g_il1n (pc := 16) C dX12_tow_16 ?_
    refine g_iadd (pc := 17) C dX12_tow_17 ?_
    refine s_iald (pc := 18) (q := 30 + j) C h136 (by first | (simp only [ixl, nI_add, pk_mul]; done) | rfl | decide) (by omega) (Nat.le_of_ble_eq_true rfl) dX12_tow_18 ?_
    refine g_goto (pc := 19) (tgt := 28) C dX12_tow_19 (by decide) ?_
    refine r_P C hr dX12_tow_28 ⟨?_, ?_, ?_, ?_⟩
    · first | (simp only [sp_tow, FB, FF, FK, FN, FS, FM, FZ, fnd, becS, bitS, sN, mv, aN, aF, aK, aH, aT, aS, aW, aZ, aU, b_4, kj, eq_self, ne_eq, not_true_eq_false, not_false_eq_true, Classical.not_not, decide_true, decide_false, and_true, true_and, and_false, false_and, and_self, or_true, true_or, or_false, false_or, or_self, if_true, if_false, ite_true, ite_false, Bool.eq_false_iff, Bool.not_eq_eq_eq_not, Bool.true_eq_false, Bool.false_eq_true, reduceCtorEq]; done) | (simp only [sp_tow, FB, FF, FK, FN, FS, FM, FZ, fnd, becS, bitS, sN, mv, aN, aF, aK, aH, aT, aS, aW, aZ, aU, b_4, kj, eq_self, ne_eq, not_true_eq_false, not_false_eq_true, Classical.not_not, decide_true, decide_false, and_true, true_and, and_false, false_and, and_self, or_true, true_or, or_false, false_or, or_self, if_true, if_false, ite_true, ite_false, Bool.eq_false_iff, Bool.not_eq_eq_eq_not, Bool.true_eq_false, Bool.false_eq_true, reduceCtorEq]; rfl) | (simp [becS, bitS, sp_tow, FB, FF, FK, FN, FS, FM, FZ, fnd, mv, aN, b_4, kj]; done)
    · try simp only [mv_now, mv_fnd, mv_tap, mv_kep]
      first | (simp only [up_at, sN, becS, bitS, sp_tow, FB, FF, FK, FN, FS, FM, FZ, fnd, mv, aN, aF, aK, aH, aT, aS, aW, aZ, aU, b_4, kj, eq_self, ne_eq, not_true_eq_false, not_false_eq_true, Classical.not_not, decide_true, decide_false, and_true, true_and, and_false, false_and, and_self, or_true, true_or, or_false, false_or, or_self, if_true, if_false, ite_true, ite_false, Bool.eq_false_iff, Bool.not_eq_eq_eq_not, Bool.true_eq_false, Bool.false_eq_true, reduceCtorEq]; done) | (simp only [up_at, sN, becS, bitS, sp_tow, FB, FF, FK, FN, FS, FM, FZ, fnd, mv, aN, aF, aK, aH, aT, aS, aW, aZ, aU, b_4, kj, eq_self, ne_eq, not_true_eq_false, not_false_eq_true, Classical.not_not, decide_true, decide_false, and_true, true_and, and_false, false_and, and_self, or_true, true_or, or_false, false_or, or_self, if_true, if_false, ite_true, ite_false, Bool.eq_false_iff, Bool.not_eq_eq_eq_not, Bool.true_eq_false, Bool.false_eq_true, reduceCtorEq]; rfl) | (simp [mv_now, mv_fnd, up_at, sN, becS, bitS, sp_tow, FB, FF, FK, FN, FS, FM, FZ, fnd, mv, aN, b_4, kj]; done)
    · repeat first | exact (fun _ _ => rfl) | refine frU (by decide) ?_
    · repeat first | exact id | refine mtU (by decide) ?_
  · refine g_if_eq (pc := 7) (tgt := 22) C dX12_tow_7 (by decide) (fun _ => ?_) (fun c => absurd c (by decide))
    refine g_al0n (pc := 22) C dX12_tow_22 ?_
    refine g_ldc (pc := 23) C dX12_tow_23 kX12_57 ?_
    refine s_VI (pc := 25) (st := []) C h135 rfl (c_X12_finding (d := d - 1) (by omega) σ (i := 0) (by decide) (w := ((-1000001))) (by decide)) (by omega) lX12_62 dX12_tow_25 rfl (Nat.le_of_ble_eq_true rfl) rfl ?_
    refine r_P C hr dX12_tow_28 ⟨?_, ?_, ?_, ?_⟩
    · first | (simp only [sp_tow, FB, FF, FK, FN, FS, FM, FZ, fnd, becS, bitS, sN, mv, aN, aF, aK, aH, aT, aS, aW, aZ, aU, b_4, eq_self, ne_eq, not_true_eq_false, not_false_eq_true, Classical.not_not, decide_true, decide_false, and_true, true_and, and_false, false_and, and_self, or_true, true_or, or_false, false_or, or_self, if_true, if_false, ite_true, ite_false, Bool.eq_false_iff, Bool.not_eq_eq_eq_not, Bool.true_eq_false, Bool.false_eq_true, reduceCtorEq]; done) | (simp only [sp_tow, FB, FF, FK, FN, FS, FM, FZ, fnd, becS, bitS, sN, mv, aN, aF, aK, aH, aT, aS, aW, aZ, aU, b_4, eq_self, ne_eq, not_true_eq_false, not_false_eq_true, Classical.not_not, decide_true, decide_false, and_true, true_and, and_false, false_and, and_self, or_true, true_or, or_false, false_or, or_self, if_true, if_false, ite_true, ite_false, Bool.eq_false_iff, Bool.not_eq_eq_eq_not, Bool.true_eq_false, Bool.false_eq_true, reduceCtorEq]; rfl) | (simp [becS, bitS, sp_tow, FB, FF, FK, FN, FS, FM, FZ, fnd, mv, aN, b_4]; done)
    · try simp only [mv_now, mv_fnd, mv_tap, mv_kep]
      first | (simp only [up_at, sN, becS, bitS, sp_tow, FB, FF, FK, FN, FS, FM, FZ, fnd, mv, aN, aF, aK, aH, aT, aS, aW, aZ, aU, b_4, eq_self, ne_eq, not_true_eq_false, not_false_eq_true, Classical.not_not, decide_true, decide_false, and_true, true_and, and_false, false_and, and_self, or_true, true_or, or_false, false_or, or_self, if_true, if_false, ite_true, ite_false, Bool.eq_false_iff, Bool.not_eq_eq_eq_not, Bool.true_eq_false, Bool.false_eq_true, reduceCtorEq]; done) | (simp only [up_at, sN, becS, bitS, sp_tow, FB, FF, FK, FN, FS, FM, FZ, fnd, mv, aN, aF, aK, aH, aT, aS, aW, aZ, aU, b_4, eq_self, ne_eq, not_true_eq_false, not_false_eq_true, Classical.not_not, decide_true, decide_false, and_true, true_and, and_false, false_and, and_self, or_true, true_or, or_false, false_or, or_self, if_true, if_false, ite_true, ite_false, Bool.eq_false_iff, Bool.not_eq_eq_eq_not, Bool.true_eq_false, Bool.false_eq_true, reduceCtorEq]; rfl) | (simp [mv_now, mv_fnd, up_at, sN, becS, bitS, sp_tow, FB, FF, FK, FN, FS, FM, FZ, fnd, mv, aN, b_4]; done)
    · repeat first | exact (fun _ _ => rfl) | refine frU (by decide) ?_
    · repeat first | exact id | refine mtU (by decide) ?_

theorem m_lane {d : Nat} (hd : 3 ≤ d) (σ : Sg) (hI : INV (σ 136)) (w l : Int32) : CP d mX12_lane [.ref 135, .int w, .int l] σ (MPo σ (sp_lane (mv σ) w l)) := by
  refine con_of (by decide) (catL rfl) (Nat.le_of_ble_eq_true rfl) ?_
  intro μ ω C hr
  have C : Cx μ ω "TowFieldModel" cX12_lane 3 d := C
  have hr : (mH μ).sig.returnType = some .int := hr
  show G μ ω (RQ μ ω (pP (MPo σ (sp_lane (mv σ) w l)))) 0 [some (.ref 135), some (.int w), some (.int l)] [] (mk σ) 0 0
  refine g_il1n (pc := 0) C dX12_lane_0 ?_
  refine g_iconst (pc := 1) (v := 0) C dX12_lane_1 (by decide) ?_
  refine g_iconst (pc := 2) (v := 3) C dX12_lane_2 (by decide) ?_
  refine s_SB (pc := 3) (st := []) C (c_X12_within (d := d - 1) (by omega) σ w 0 3) (by omega) lX12_58 dX12_lane_3 rfl (Nat.le_of_ble_eq_true rfl) rfl (fun b_3 => ?_) (fun b_3 => ?_)
  · obtain ⟨j, hj, rfl⟩ := rgL b_3 (by decide) (B := 3) (by decide)
    have kj : (nI j).toNatClampNeg = j := nI_clamp (by omega)
    refine g_if_eq (pc := 6) (tgt := 28) C dX12_lane_6 (by decide) (fun c => absurd c (by decide)) (fun _ => ?_)
    refine g_il2n (pc := 9) C dX12_lane_9 ?_
    refine s_SB (pc := 10) (st := []) C (c_X12_isLane (d := d - 1) (by omega) σ l) (by omega) lX12_100 dX12_lane_10 rfl (Nat.le_of_ble_eq_true rfl) rfl (fun b_10 => ?_) (fun b_10 => ?_)
    · refine g_if_eq (pc := 13) (tgt := 28) C dX12_lane_13 (by decide) (fun c => absurd c (by decide)) (fun _ => ?_)
      refine g_al0n (pc := 16) C dX12_lane_16 ?_
      refine g_bipush (pc := 17) (v := 16) C dX12_lane_17 (by decide) ?_
      refine g_il1n (pc := 19) C dX12_lane_19 ?_
      refine g_iadd (pc := 20) C dX12_lane_20 ?_
      refine g_il2n (pc := 21) C dX12_lane_21 ?_
      refine s_VI (pc := 22) (st := []) C h135 rfl (c_X12_becomeE (d := d - 1) (by omega) σ (q := 16 + j) (by omega) (by first | (simp only [ixl, nI_add, pk_mul]; done) | rfl | decide) l) (by omega) lX12_103 dX12_lane_22 rfl (Nat.le_of_ble_eq_true rfl) rfl ?_
      refine g_goto (pc := 25) (tgt := 34) C dX12_lane_25 (by decide) ?_
      refine r_P C hr dX12_lane_34 ⟨?_, ?_, ?_, ?_⟩
      · first | (simp only [sp_lane, FB, FF, FK, FN, FS, FM, FZ, fnd, becS, bitS, sN, mv, aN, aF, aK, aH, aT, aS, aW, aZ, aU, b_3, b_10, kj, eq_self, ne_eq, not_true_eq_false, not_false_eq_true, Classical.not_not, decide_true, decide_false, and_true, true_and, and_false, false_and, and_self, or_true, true_or, or_false, false_or, or_self, if_true, if_false, ite_true, ite_false, Bool.eq_false_iff, Bool.not_eq_eq_eq_not, Bool.true_eq_false, Bool.false_eq_true, reduceCtorEq]; done) | (simp only [sp_lane, FB, FF, FK, FN, FS, FM, FZ, fnd, becS, bitS, sN, mv, aN, aF, aK, aH, aT, aS, aW, aZ, aU, b_3, b_10, kj, eq_self, ne_eq, not_true_eq_false, not_false_eq_true, Classical.not_not, decide_true, decide_false, and_true, true_and, and_false, false_and, and_self, or_true, true_or, or_false, false_or, or_self, if_true, if_false, ite_true, ite_false, Bool.eq_false_iff, Bool.not_eq_eq_eq_not, Bool.true_eq_false, Bool.false_eq_true, reduceCtorEq]; rfl) | (simp [becS, bitS, sp_lane, FB, FF, FK, FN, FS, FM, FZ, fnd, mv, aN, b_3, b_10, kj]; done)
      · try simp only [mv_now, mv_fnd, mv_tap, mv_kep]
        first | (simp only [up_at, sN, becS, bitS, sp_lane, FB, FF, FK, FN, FS, FM, FZ, fnd, mv, aN, aF, aK, aH, aT, aS, aW, aZ, aU, b_3, b_10, kj, eq_self, ne_eq, not_true_eq_false, not_false_eq_true, Classical.not_not, decide_true, decide_false, and_true, true_and, and_false, false_and, and_self, or_true, true_or, or_false, false_or, or_self, if_true, if_false, ite_true, ite_false, Bool.eq_false_iff, Bool.not_eq_eq_eq_not, Bool.true_eq_false, Bool.false_eq_true, reduceCtorEq]; done) | (simp only [up_at, sN, becS, bitS, sp_lane, FB, FF, FK, FN, FS, FM, FZ, fnd, mv, aN, aF, aK, aH, aT, aS, aW, aZ, aU, b_3, b_10, kj, eq_self, ne_eq, not_true_eq_false, not_false_eq_true, Classical.not_not, decide_true, decide_false, and_true, true_and, and_false, false_and, and_self, or_true, true_or, or_false, false_or, or_self, if_true, if_false, ite_true, ite_false, Bool.eq_false_iff, Bool.not_eq_eq_eq_not, Bool.true_eq_false, Bool.false_eq_true, reduceCtorEq]; rfl) | (simp [mv_now, mv_fnd, up_at, sN, becS, bitS, sp_lane, FB, FF, FK, FN, FS, FM, FZ, fnd, mv, aN, b_3, b_10, kj]; done)
      · repeat first | exact (fun _ _ => rfl) | refine frU (by decide) ?_
      · repeat first | exact id | refine mtU (by decide) ?_
    · refine g_if_eq (pc := 13) (tgt := 28) C dX12_lane_13 (by decide) (fun _ => ?_) (fun c => absurd c (by decide))
      refine g_al0n (pc := 28) C dX12_lane_28 ?_
      refine g_ldc (pc := 29) C dX12_lane_29 kX12_57 ?_
      refine s_VI (pc := 31) (st := []) C h135 rfl (c_X12_finding (d := d - 1) (by omega) σ (i := 0) (by decide) (w := ((-1000001))) (by decide)) (by omega) lX12_62 dX12_lane_31 rfl (Nat.le_of_ble_eq_true rfl) rfl ?_
      refine r_P C hr dX12_lane_34 ⟨?_, ?_, ?_, ?_⟩
      · first | (simp only [sp_lane, FB, FF, FK, FN, FS, FM, FZ, fnd, becS, bitS, sN, mv, aN, aF, aK, aH, aT, aS, aW, aZ, aU, b_3, b_10, kj, eq_self, ne_eq, not_true_eq_false, not_false_eq_true, Classical.not_not, decide_true, decide_false, and_true, true_and, and_false, false_and, and_self, or_true, true_or, or_false, false_or, or_self, if_true, if_false, ite_true, ite_false, Bool.eq_false_iff, Bool.not_eq_eq_eq_not, Bool.true_eq_false, Bool.false_eq_true, reduceCtorEq]; done) | (simp only [sp_lane, FB, FF, FK, FN, FS, FM, FZ, fnd, becS, bitS, sN, mv, aN, aF, aK, aH, aT, aS, aW, aZ, aU, b_3, b_10, kj, eq_self, ne_eq, not_true_eq_false, not_false_eq_true, Classical.not_not, decide_true, decide_false, and_true, true_and, and_false, false_and, and_self, or_true, true_or, or_false, false_or, or_self, if_true, if_false, ite_true, ite_false, Bool.eq_false_iff, Bool.not_eq_eq_eq_not, Bool.true_eq_false, Bool.false_eq_true, reduceCtorEq]; rfl) | (simp [becS, bitS, sp_lane, FB, FF, FK, FN, FS, FM, FZ, fnd, mv, aN, b_3, b_10, kj]; done)
      · try simp only [mv_now, mv_fnd, mv_tap, mv_kep]
        first | (simp only [up_at, sN, becS, bitS, sp_lane, FB, FF, FK, FN, FS, FM, FZ, fnd, mv, aN, aF, aK, aH, aT, aS, aW, aZ, aU, b_3, b_10, kj, eq_self, ne_eq, not_true_eq_false, not_false_eq_true, Classical.not_not, decide_true, decide_false, and_true, true_and, and_false, false_and, and_self, or_true, true_or, or_false, false_or, or_self, if_true, if_false, ite_true, ite_false, Bool.eq_false_iff, Bool.not_eq_eq_eq_not, Bool.true_eq_false, Bool.false_eq_true, reduceCtorEq]; done) | (simp only [up_at, sN, becS, bitS, sp_lane, FB, FF, FK, FN, FS, FM, FZ, fnd, mv, aN, aF, aK, aH, aT, aS, aW, aZ, aU, b_3, b_10, kj, eq_self, ne_eq, not_true_eq_false, not_false_eq_true, Classical.not_not, decide_true, decide_false, and_true, true_and, and_false, false_and, and_self, or_true, true_or, or_false, false_or, or_self, if_true, if_false, ite_true, ite_false, Bool.eq_false_iff, Bool.not_eq_eq_eq_not, Bool.true_eq_false, Bool.false_eq_true, reduceCtorEq]; rfl) | (simp [mv_now, mv_fnd, up_at, sN, becS, bitS, sp_lane, FB, FF, FK, FN, FS, FM, FZ, fnd, mv, aN, b_3, b_10, kj]; done)
      · repeat first | exact (fun _ _ => rfl) | refine frU (by decide) ?_
      · repeat first | exact id | refine mtU (by decide) ?_
  · refine g_if_eq (pc := 6) (tgt := 28) C dX12_lane_6 (by decide) (fun _ => ?_) (fun c => absurd c (by decide))
    refine g_al0n (pc := 28) C dX12_lane_28 ?_
    refine g_ldc (pc := 29) C dX12_lane_29 kX12_57 ?_
    refine s_VI (pc := 31) (st := []) C h135 rfl (c_X12_finding (d := d - 1) (by omega) σ (i := 0) (by decide) (w := ((-1000001))) (by decide)) (by omega) lX12_62 dX12_lane_31 rfl (Nat.le_of_ble_eq_true rfl) rfl ?_
    refine r_P C hr dX12_lane_34 ⟨?_, ?_, ?_, ?_⟩
    · first | (simp only [sp_lane, FB, FF, FK, FN, FS, FM, FZ, fnd, becS, bitS, sN, mv, aN, aF, aK, aH, aT, aS, aW, aZ, aU, b_3, eq_self, ne_eq, not_true_eq_false, not_false_eq_true, Classical.not_not, decide_true, decide_false, and_true, true_and, and_false, false_and, and_self, or_true, true_or, or_false, false_or, or_self, if_true, if_false, ite_true, ite_false, Bool.eq_false_iff, Bool.not_eq_eq_eq_not, Bool.true_eq_false, Bool.false_eq_true, reduceCtorEq]; done) | (simp only [sp_lane, FB, FF, FK, FN, FS, FM, FZ, fnd, becS, bitS, sN, mv, aN, aF, aK, aH, aT, aS, aW, aZ, aU, b_3, eq_self, ne_eq, not_true_eq_false, not_false_eq_true, Classical.not_not, decide_true, decide_false, and_true, true_and, and_false, false_and, and_self, or_true, true_or, or_false, false_or, or_self, if_true, if_false, ite_true, ite_false, Bool.eq_false_iff, Bool.not_eq_eq_eq_not, Bool.true_eq_false, Bool.false_eq_true, reduceCtorEq]; rfl) | (simp [becS, bitS, sp_lane, FB, FF, FK, FN, FS, FM, FZ, fnd, mv, aN, b_3]; done)
    · try simp only [mv_now, mv_fnd, mv_tap, mv_kep]
      first | (simp only [up_at, sN, becS, bitS, sp_lane, FB, FF, FK, FN, FS, FM, FZ, fnd, mv, aN, aF, aK, aH, aT, aS, aW, aZ, aU, b_3, eq_self, ne_eq, not_true_eq_false, not_false_eq_true, Classical.not_not, decide_true, decide_false, and_true, true_and, and_false, false_and, and_self, or_true, true_or, or_false, false_or, or_self, if_true, if_false, ite_true, ite_false, Bool.eq_false_iff, Bool.not_eq_eq_eq_not, Bool.true_eq_false, Bool.false_eq_true, reduceCtorEq]; done) | (simp only [up_at, sN, becS, bitS, sp_lane, FB, FF, FK, FN, FS, FM, FZ, fnd, mv, aN, aF, aK, aH, aT, aS, aW, aZ, aU, b_3, eq_self, ne_eq, not_true_eq_false, not_false_eq_true, Classical.not_not, decide_true, decide_false, and_true, true_and, and_false, false_and, and_self, or_true, true_or, or_false, false_or, or_self, if_true, if_false, ite_true, ite_false, Bool.eq_false_iff, Bool.not_eq_eq_eq_not, Bool.true_eq_false, Bool.false_eq_true, reduceCtorEq]; rfl) | (simp [mv_now, mv_fnd, up_at, sN, becS, bitS, sp_lane, FB, FF, FK, FN, FS, FM, FZ, fnd, mv, aN, b_3]; done)
    · repeat first | exact (fun _ _ => rfl) | refine frU (by decide) ?_
    · repeat first | exact id | refine mtU (by decide) ?_

theorem m_link {d : Nat} (hd : 3 ≤ d) (σ : Sg) (hI : INV (σ 136)) (l is : Int32) : CP d mX12_link [.ref 135, .int l, .int is] σ (MPo σ (sp_link (mv σ) l is)) := by
  refine con_of (by decide) (catL rfl) (Nat.le_of_ble_eq_true rfl) ?_
  intro μ ω C hr
  have C : Cx μ ω "TowFieldModel" cX12_link 3 d := C
  have hr : (mH μ).sig.returnType = some .int := hr
  show G μ ω (RQ μ ω (pP (MPo σ (sp_link (mv σ) l is)))) 0 [some (.ref 135), some (.int l), some (.int is)] [] (mk σ) 0 0
  refine g_il1n (pc := 0) C dX12_link_0 ?_
  refine g_iconst (pc := 1) (v := 0) C dX12_link_1 (by decide) ?_
  refine g_iconst (pc := 2) (v := 3) C dX12_link_2 (by decide) ?_
  refine s_SB (pc := 3) (st := []) C (c_X12_within (d := d - 1) (by omega) σ l 0 3) (by omega) lX12_58 dX12_link_3 rfl (Nat.le_of_ble_eq_true rfl) rfl (fun b_3 => ?_) (fun b_3 => ?_)
  · refine g_if_eq (pc := 6) (tgt := 19) C dX12_link_6 (by decide) (fun c => absurd c (by decide)) (fun _ => ?_)
    refine g_al0n (pc := 9) C dX12_link_9 ?_
    refine g_iconst (pc := 10) (v := 2) C dX12_link_10 (by decide) ?_
    refine g_il1n (pc := 11) C dX12_link_11 ?_
    refine g_il2n (pc := 12) C dX12_link_12 ?_
    refine s_VI (pc := 13) (st := []) C h135 rfl (c_X12_bitE (d := d - 1) (by omega) σ (q := 2) (by omega) (by first | (simp only [ixl, nI_add, pk_mul]; done) | rfl | decide) l is) (by omega) lX12_88 dX12_link_13 rfl (Nat.le_of_ble_eq_true rfl) rfl ?_
    refine g_goto (pc := 16) (tgt := 25) C dX12_link_16 (by decide) ?_
    refine r_P C hr dX12_link_25 ⟨?_, ?_, ?_, ?_⟩
    · first | (simp only [sp_link, FB, FF, FK, FN, FS, FM, FZ, fnd, becS, bitS, sN, mv, aN, aF, aK, aH, aT, aS, aW, aZ, aU, b_3, eq_self, ne_eq, not_true_eq_false, not_false_eq_true, Classical.not_not, decide_true, decide_false, and_true, true_and, and_false, false_and, and_self, or_true, true_or, or_false, false_or, or_self, if_true, if_false, ite_true, ite_false, Bool.eq_false_iff, Bool.not_eq_eq_eq_not, Bool.true_eq_false, Bool.false_eq_true, reduceCtorEq]; done) | (simp only [sp_link, FB, FF, FK, FN, FS, FM, FZ, fnd, becS, bitS, sN, mv, aN, aF, aK, aH, aT, aS, aW, aZ, aU, b_3, eq_self, ne_eq, not_true_eq_false, not_false_eq_true, Classical.not_not, decide_true, decide_false, and_true, true_and, and_false, false_and, and_self, or_true, true_or, or_false, false_or, or_self, if_true, if_false, ite_true, ite_false, Bool.eq_false_iff, Bool.not_eq_eq_eq_not, Bool.true_eq_false, Bool.false_eq_true, reduceCtorEq]; rfl) | (simp [becS, bitS, sp_link, FB, FF, FK, FN, FS, FM, FZ, fnd, mv, aN, b_3]; done)
    · try simp only [mv_now, mv_fnd, mv_tap, mv_kep]
      first | (simp only [up_at, sN, becS, bitS, sp_link, FB, FF, FK, FN, FS, FM, FZ, fnd, mv, aN, aF, aK, aH, aT, aS, aW, aZ, aU, b_3, eq_self, ne_eq, not_true_eq_false, not_false_eq_true, Classical.not_not, decide_true, decide_false, and_true, true_and, and_false, false_and, and_self, or_true, true_or, or_false, false_or, or_self, if_true, if_false, ite_true, ite_false, Bool.eq_false_iff, Bool.not_eq_eq_eq_not, Bool.true_eq_false, Bool.false_eq_true, reduceCtorEq]; done) | (simp only [up_at, sN, becS, bitS, sp_link, FB, FF, FK, FN, FS, FM, FZ, fnd, mv, aN, aF, aK, aH, aT, aS, aW, aZ, aU, b_3, eq_self, ne_eq, not_true_eq_false, not_false_eq_true, Classical.not_not, decide_true, decide_false, and_true, true_and, and_false, false_and, and_self, or_true, true_or, or_false, false_or, or_self, if_true, if_false, ite_true, ite_false, Bool.eq_false_iff, Bool.not_eq_eq_eq_not, Bool.true_eq_false, Bool.false_eq_true, reduceCtorEq]; rfl) | (simp [mv_now, mv_fnd, up_at, sN, becS, bitS, sp_link, FB, FF, FK, FN, FS, FM, FZ, fnd, mv, aN, b_3]; done)
    · repeat first | exact (fun _ _ => rfl) | refine frU (by decide) ?_
    · repeat first | exact id | refine mtU (by decide) ?_
  · refine g_if_eq (pc := 6) (tgt := 19) C dX12_link_6 (by decide) (fun _ => ?_) (fun c => absurd c (by decide))
    refine g_al0n (pc := 19) C dX12_link_19 ?_
    refine g_ldc (pc := 20) C dX12_link_20 kX12_57 ?_
    refine s_VI (pc := 22) (st := []) C h135 rfl (c_X12_finding (d := d - 1) (by omega) σ (i := 0) (by decide) (w := ((-1000001))) (by decide)) (by omega) lX12_62 dX12_link_22 rfl (Nat.le_of_ble_eq_true rfl) rfl ?_
    refine r_P C hr dX12_link_25 ⟨?_, ?_, ?_, ?_⟩
    · first | (simp only [sp_link, FB, FF, FK, FN, FS, FM, FZ, fnd, becS, bitS, sN, mv, aN, aF, aK, aH, aT, aS, aW, aZ, aU, b_3, eq_self, ne_eq, not_true_eq_false, not_false_eq_true, Classical.not_not, decide_true, decide_false, and_true, true_and, and_false, false_and, and_self, or_true, true_or, or_false, false_or, or_self, if_true, if_false, ite_true, ite_false, Bool.eq_false_iff, Bool.not_eq_eq_eq_not, Bool.true_eq_false, Bool.false_eq_true, reduceCtorEq]; done) | (simp only [sp_link, FB, FF, FK, FN, FS, FM, FZ, fnd, becS, bitS, sN, mv, aN, aF, aK, aH, aT, aS, aW, aZ, aU, b_3, eq_self, ne_eq, not_true_eq_false, not_false_eq_true, Classical.not_not, decide_true, decide_false, and_true, true_and, and_false, false_and, and_self, or_true, true_or, or_false, false_or, or_self, if_true, if_false, ite_true, ite_false, Bool.eq_false_iff, Bool.not_eq_eq_eq_not, Bool.true_eq_false, Bool.false_eq_true, reduceCtorEq]; rfl) | (simp [becS, bitS, sp_link, FB, FF, FK, FN, FS, FM, FZ, fnd, mv, aN, b_3]; done)
    · try simp only [mv_now, mv_fnd, mv_tap, mv_kep]
      first | (simp only [up_at, sN, becS, bitS, sp_link, FB, FF, FK, FN, FS, FM, FZ, fnd, mv, aN, aF, aK, aH, aT, aS, aW, aZ, aU, b_3, eq_self, ne_eq, not_true_eq_false, not_false_eq_true, Classical.not_not, decide_true, decide_false, and_true, true_and, and_false, false_and, and_self, or_true, true_or, or_false, false_or, or_self, if_true, if_false, ite_true, ite_false, Bool.eq_false_iff, Bool.not_eq_eq_eq_not, Bool.true_eq_false, Bool.false_eq_true, reduceCtorEq]; done) | (simp only [up_at, sN, becS, bitS, sp_link, FB, FF, FK, FN, FS, FM, FZ, fnd, mv, aN, aF, aK, aH, aT, aS, aW, aZ, aU, b_3, eq_self, ne_eq, not_true_eq_false, not_false_eq_true, Classical.not_not, decide_true, decide_false, and_true, true_and, and_false, false_and, and_self, or_true, true_or, or_false, false_or, or_self, if_true, if_false, ite_true, ite_false, Bool.eq_false_iff, Bool.not_eq_eq_eq_not, Bool.true_eq_false, Bool.false_eq_true, reduceCtorEq]; rfl) | (simp [mv_now, mv_fnd, up_at, sN, becS, bitS, sp_link, FB, FF, FK, FN, FS, FM, FZ, fnd, mv, aN, b_3]; done)
    · repeat first | exact (fun _ _ => rfl) | refine frU (by decide) ?_
    · repeat first | exact id | refine mtU (by decide) ?_

theorem m_bound {d : Nat} (hd : 4 ≤ d) (σ : Sg) (hI : INV (σ 136)) (k : Int32) : CP d mX12_bound [.ref 135, .int k] σ (MPo σ (sp_bound (mv σ) k)) := by
  refine con_of (by decide) (catL rfl) (Nat.le_of_ble_eq_true rfl) ?_
  intro μ ω C hr
  have C : Cx μ ω "TowFieldModel" cX12_bound 2 d := C
  have hr : (mH μ).sig.returnType = some .int := hr
  show G μ ω (RQ μ ω (pP (MPo σ (sp_bound (mv σ) k)))) 0 [some (.ref 135), some (.int k)] [] (mk σ) 0 0
  refine g_il1n (pc := 0) C dX12_bound_0 ?_
  refine s_SB (pc := 1) (st := []) C (c_X12_isKind (d := d - 1) (by omega) σ k) (by omega) lX12_117 dX12_bound_1 rfl (Nat.le_of_ble_eq_true rfl) rfl (fun b_1 => ?_) (fun b_1 => ?_)
  · refine g_if_eq (pc := 4) (tgt := 14) C dX12_bound_4 (by decide) (fun c => absurd c (by decide)) (fun _ => ?_)
    refine g_il1n (pc := 7) C dX12_bound_7 ?_
    refine s_SI (pc := 8) (st := []) C (c_X12_boundOf (d := d - 1) (by omega) σ k) (by omega) lX12_106 dX12_bound_8 rfl (Nat.le_of_ble_eq_true rfl) rfl ?_
    refine g_goto (pc := 11) (tgt := 20) C dX12_bound_11 (by decide) ?_
    refine r_P C hr dX12_bound_20 ⟨?_, ?_, ?_, ?_⟩
    · first | (simp only [sp_bound, FB, FF, FK, FN, FS, FM, FZ, fnd, becS, bitS, sN, mv, aN, aF, aK, aH, aT, aS, aW, aZ, aU, b_1, eq_self, ne_eq, not_true_eq_false, not_false_eq_true, Classical.not_not, decide_true, decide_false, and_true, true_and, and_false, false_and, and_self, or_true, true_or, or_false, false_or, or_self, if_true, if_false, ite_true, ite_false, Bool.eq_false_iff, Bool.not_eq_eq_eq_not, Bool.true_eq_false, Bool.false_eq_true, reduceCtorEq]; done) | (simp only [sp_bound, FB, FF, FK, FN, FS, FM, FZ, fnd, becS, bitS, sN, mv, aN, aF, aK, aH, aT, aS, aW, aZ, aU, b_1, eq_self, ne_eq, not_true_eq_false, not_false_eq_true, Classical.not_not, decide_true, decide_false, and_true, true_and, and_false, false_and, and_self, or_true, true_or, or_false, false_or, or_self, if_true, if_false, ite_true, ite_false, Bool.eq_false_iff, Bool.not_eq_eq_eq_not, Bool.true_eq_false, Bool.false_eq_true, reduceCtorEq]; rfl) | (simp [becS, bitS, sp_bound, FB, FF, FK, FN, FS, FM, FZ, fnd, mv, aN, b_1]; done)
    · try simp only [mv_now, mv_fnd, mv_tap, mv_kep]
      first | (simp only [up_at, sN, becS, bitS, sp_bound, FB, FF, FK, FN, FS, FM, FZ, fnd, mv, aN, aF, aK, aH, aT, aS, aW, aZ, aU, b_1, eq_self, ne_eq, not_true_eq_false, not_false_eq_true, Classical.not_not, decide_true, decide_false, and_true, true_and, and_false, false_and, and_self, or_true, true_or, or_false, false_or, or_self, if_true, if_false, ite_true, ite_false, Bool.eq_false_iff, Bool.not_eq_eq_eq_not, Bool.true_eq_false, Bool.false_eq_true, reduceCtorEq]; done) | (simp only [up_at, sN, becS, bitS, sp_bound, FB, FF, FK, FN, FS, FM, FZ, fnd, mv, aN, aF, aK, aH, aT, aS, aW, aZ, aU, b_1, eq_self, ne_eq, not_true_eq_false, not_false_eq_true, Classical.not_not, decide_true, decide_false, and_true, true_and, and_false, false_and, and_self, or_true, true_or, or_false, false_or, or_self, if_true, if_false, ite_true, ite_false, Bool.eq_false_iff, Bool.not_eq_eq_eq_not, Bool.true_eq_false, Bool.false_eq_true, reduceCtorEq]; rfl) | (simp [mv_now, mv_fnd, up_at, sN, becS, bitS, sp_bound, FB, FF, FK, FN, FS, FM, FZ, fnd, mv, aN, b_1]; done)
    · repeat first | exact (fun _ _ => rfl) | refine frU (by decide) ?_
    · repeat first | exact id | refine mtU (by decide) ?_
  · refine g_if_eq (pc := 4) (tgt := 14) C dX12_bound_4 (by decide) (fun _ => ?_) (fun c => absurd c (by decide))
    refine g_al0n (pc := 14) C dX12_bound_14 ?_
    refine g_ldc (pc := 15) C dX12_bound_15 kX12_57 ?_
    refine s_VI (pc := 17) (st := []) C h135 rfl (c_X12_finding (d := d - 1) (by omega) σ (i := 0) (by decide) (w := ((-1000001))) (by decide)) (by omega) lX12_62 dX12_bound_17 rfl (Nat.le_of_ble_eq_true rfl) rfl ?_
    refine r_P C hr dX12_bound_20 ⟨?_, ?_, ?_, ?_⟩
    · first | (simp only [sp_bound, FB, FF, FK, FN, FS, FM, FZ, fnd, becS, bitS, sN, mv, aN, aF, aK, aH, aT, aS, aW, aZ, aU, b_1, eq_self, ne_eq, not_true_eq_false, not_false_eq_true, Classical.not_not, decide_true, decide_false, and_true, true_and, and_false, false_and, and_self, or_true, true_or, or_false, false_or, or_self, if_true, if_false, ite_true, ite_false, Bool.eq_false_iff, Bool.not_eq_eq_eq_not, Bool.true_eq_false, Bool.false_eq_true, reduceCtorEq]; done) | (simp only [sp_bound, FB, FF, FK, FN, FS, FM, FZ, fnd, becS, bitS, sN, mv, aN, aF, aK, aH, aT, aS, aW, aZ, aU, b_1, eq_self, ne_eq, not_true_eq_false, not_false_eq_true, Classical.not_not, decide_true, decide_false, and_true, true_and, and_false, false_and, and_self, or_true, true_or, or_false, false_or, or_self, if_true, if_false, ite_true, ite_false, Bool.eq_false_iff, Bool.not_eq_eq_eq_not, Bool.true_eq_false, Bool.false_eq_true, reduceCtorEq]; rfl) | (simp [becS, bitS, sp_bound, FB, FF, FK, FN, FS, FM, FZ, fnd, mv, aN, b_1]; done)
    · try simp only [mv_now, mv_fnd, mv_tap, mv_kep]
      first | (simp only [up_at, sN, becS, bitS, sp_bound, FB, FF, FK, FN, FS, FM, FZ, fnd, mv, aN, aF, aK, aH, aT, aS, aW, aZ, aU, b_1, eq_self, ne_eq, not_true_eq_false, not_false_eq_true, Classical.not_not, decide_true, decide_false, and_true, true_and, and_false, false_and, and_self, or_true, true_or, or_false, false_or, or_self, if_true, if_false, ite_true, ite_false, Bool.eq_false_iff, Bool.not_eq_eq_eq_not, Bool.true_eq_false, Bool.false_eq_true, reduceCtorEq]; done) | (simp only [up_at, sN, becS, bitS, sp_bound, FB, FF, FK, FN, FS, FM, FZ, fnd, mv, aN, aF, aK, aH, aT, aS, aW, aZ, aU, b_1, eq_self, ne_eq, not_true_eq_false, not_false_eq_true, Classical.not_not, decide_true, decide_false, and_true, true_and, and_false, false_and, and_self, or_true, true_or, or_false, false_or, or_self, if_true, if_false, ite_true, ite_false, Bool.eq_false_iff, Bool.not_eq_eq_eq_not, Bool.true_eq_false, Bool.false_eq_true, reduceCtorEq]; rfl) | (simp [mv_now, mv_fnd, up_at, sN, becS, bitS, sp_bound, FB, FF, FK, FN, FS, FM, FZ, fnd, mv, aN, b_1]; done)
    · repeat first | exact (fun _ _ => rfl) | refine frU (by decide) ?_
    · repeat first | exact id | refine mtU (by decide) ?_

theorem m_span {d : Nat} (hd : 4 ≤ d) (σ : Sg) (hI : INV (σ 136)) (k h : Int32) : CP d mX12_span [.ref 135, .int k, .int h] σ (MPo σ (sp_span (mv σ) k h)) := by
  refine con_of (by decide) (catL rfl) (Nat.le_of_ble_eq_true rfl) ?_
  intro μ ω C hr
  have C : Cx μ ω "TowFieldModel" cX12_span 3 d := C
  have hr : (mH μ).sig.returnType = some .int := hr
  show G μ ω (RQ μ ω (pP (MPo σ (sp_span (mv σ) k h)))) 0 [some (.ref 135), some (.int k), some (.int h)] [] (mk σ) 0 0
  refine g_il1n (pc := 0) C dX12_span_0 ?_
  refine s_SB (pc := 1) (st := []) C (c_X12_isKind (d := d - 1) (by omega) σ k) (by omega) lX12_117 dX12_span_1 rfl (Nat.le_of_ble_eq_true rfl) rfl (fun b_1 => ?_) (fun b_1 => ?_)
  · refine g_if_eq (pc := 4) (tgt := 25) C dX12_span_4 (by decide) (fun c => absurd c (by decide)) (fun _ => ?_)
    refine g_il2n (pc := 7) C dX12_span_7 ?_
    refine g_iconst (pc := 8) (v := 1) C dX12_span_8 (by decide) ?_
    refine g_bipush (pc := 9) (v := 30) C dX12_span_9 (by decide) ?_
    refine s_SB (pc := 11) (st := []) C (c_X12_within (d := d - 1) (by omega) σ h 1 30) (by omega) lX12_58 dX12_span_11 rfl (Nat.le_of_ble_eq_true rfl) rfl (fun b_11 => ?_) (fun b_11 => ?_)
    · refine g_if_eq (pc := 14) (tgt := 25) C dX12_span_14 (by decide) (fun c => absurd c (by decide)) (fun _ => ?_)
      refine g_il1n (pc := 17) C dX12_span_17 ?_
      refine g_il2n (pc := 18) C dX12_span_18 ?_
      refine s_SI (pc := 19) (st := []) C (c_X12_spanOf (d := d - 1) (by omega) σ k h) (by omega) lX12_109 dX12_span_19 rfl (Nat.le_of_ble_eq_true rfl) rfl ?_
      refine g_goto (pc := 22) (tgt := 31) C dX12_span_22 (by decide) ?_
      refine r_P C hr dX12_span_31 ⟨?_, ?_, ?_, ?_⟩
      · first | (simp only [sp_span, FB, FF, FK, FN, FS, FM, FZ, fnd, becS, bitS, sN, mv, aN, aF, aK, aH, aT, aS, aW, aZ, aU, b_1, b_11, eq_self, ne_eq, not_true_eq_false, not_false_eq_true, Classical.not_not, decide_true, decide_false, and_true, true_and, and_false, false_and, and_self, or_true, true_or, or_false, false_or, or_self, if_true, if_false, ite_true, ite_false, Bool.eq_false_iff, Bool.not_eq_eq_eq_not, Bool.true_eq_false, Bool.false_eq_true, reduceCtorEq]; done) | (simp only [sp_span, FB, FF, FK, FN, FS, FM, FZ, fnd, becS, bitS, sN, mv, aN, aF, aK, aH, aT, aS, aW, aZ, aU, b_1, b_11, eq_self, ne_eq, not_true_eq_false, not_false_eq_true, Classical.not_not, decide_true, decide_false, and_true, true_and, and_false, false_and, and_self, or_true, true_or, or_false, false_or, or_self, if_true, if_false, ite_true, ite_false, Bool.eq_false_iff, Bool.not_eq_eq_eq_not, Bool.true_eq_false, Bool.false_eq_true, reduceCtorEq]; rfl) | (simp [becS, bitS, sp_span, FB, FF, FK, FN, FS, FM, FZ, fnd, mv, aN, b_1, b_11]; done)
      · try simp only [mv_now, mv_fnd, mv_tap, mv_kep]
        first | (simp only [up_at, sN, becS, bitS, sp_span, FB, FF, FK, FN, FS, FM, FZ, fnd, mv, aN, aF, aK, aH, aT, aS, aW, aZ, aU, b_1, b_11, eq_self, ne_eq, not_true_eq_false, not_false_eq_true, Classical.not_not, decide_true, decide_false, and_true, true_and, and_false, false_and, and_self, or_true, true_or, or_false, false_or, or_self, if_true, if_false, ite_true, ite_false, Bool.eq_false_iff, Bool.not_eq_eq_eq_not, Bool.true_eq_false, Bool.false_eq_true, reduceCtorEq]; done) | (simp only [up_at, sN, becS, bitS, sp_span, FB, FF, FK, FN, FS, FM, FZ, fnd, mv, aN, aF, aK, aH, aT, aS, aW, aZ, aU, b_1, b_11, eq_self, ne_eq, not_true_eq_false, not_false_eq_true, Classical.not_not, decide_true, decide_false, and_true, true_and, and_false, false_and, and_self, or_true, true_or, or_false, false_or, or_self, if_true, if_false, ite_true, ite_false, Bool.eq_false_iff, Bool.not_eq_eq_eq_not, Bool.true_eq_false, Bool.false_eq_true, reduceCtorEq]; rfl) | (simp [mv_now, mv_fnd, up_at, sN, becS, bitS, sp_span, FB, FF, FK, FN, FS, FM, FZ, fnd, mv, aN, b_1, b_11]; done)
      · repeat first | exact (fun _ _ => rfl) | refine frU (by decide) ?_
      · repeat first | exact id | refine mtU (by decide) ?_
    · refine g_if_eq (pc := 14) (tgt := 25) C dX12_span_14 (by decide) (fun _ => ?_) (fun c => absurd c (by decide))
      refine g_al0n (pc := 25) C dX12_span_25 ?_
      refine g_ldc (pc := 26) C dX12_span_26 kX12_57 ?_
      refine s_VI (pc := 28) (st := []) C h135 rfl (c_X12_finding (d := d - 1) (by omega) σ (i := 0) (by decide) (w := ((-1000001))) (by decide)) (by omega) lX12_62 dX12_span_28 rfl (Nat.le_of_ble_eq_true rfl) rfl ?_
      refine r_P C hr dX12_span_31 ⟨?_, ?_, ?_, ?_⟩
      · first | (simp only [sp_span, FB, FF, FK, FN, FS, FM, FZ, fnd, becS, bitS, sN, mv, aN, aF, aK, aH, aT, aS, aW, aZ, aU, b_1, b_11, eq_self, ne_eq, not_true_eq_false, not_false_eq_true, Classical.not_not, decide_true, decide_false, and_true, true_and, and_false, false_and, and_self, or_true, true_or, or_false, false_or, or_self, if_true, if_false, ite_true, ite_false, Bool.eq_false_iff, Bool.not_eq_eq_eq_not, Bool.true_eq_false, Bool.false_eq_true, reduceCtorEq]; done) | (simp only [sp_span, FB, FF, FK, FN, FS, FM, FZ, fnd, becS, bitS, sN, mv, aN, aF, aK, aH, aT, aS, aW, aZ, aU, b_1, b_11, eq_self, ne_eq, not_true_eq_false, not_false_eq_true, Classical.not_not, decide_true, decide_false, and_true, true_and, and_false, false_and, and_self, or_true, true_or, or_false, false_or, or_self, if_true, if_false, ite_true, ite_false, Bool.eq_false_iff, Bool.not_eq_eq_eq_not, Bool.true_eq_false, Bool.false_eq_true, reduceCtorEq]; rfl) | (simp [becS, bitS, sp_span, FB, FF, FK, FN, FS, FM, FZ, fnd, mv, aN, b_1, b_11]; done)
      · try simp only [mv_now, mv_fnd, mv_tap, mv_kep]
        first | (simp only [up_at, sN, becS, bitS, sp_span, FB, FF, FK, FN, FS, FM, FZ, fnd, mv, aN, aF, aK, aH, aT, aS, aW, aZ, aU, b_1, b_11, eq_self, ne_eq, not_true_eq_false, not_false_eq_true, Classical.not_not, decide_true, decide_false, and_true, true_and, and_false, false_and, and_self, or_true, true_or, or_false, false_or, or_self, if_true, if_false, ite_true, ite_false, Bool.eq_false_iff, Bool.not_eq_eq_eq_not, Bool.true_eq_false, Bool.false_eq_true, reduceCtorEq]; done) | (simp only [up_at, sN, becS, bitS, sp_span, FB, FF, FK, FN, FS, FM, FZ, fnd, mv, aN, aF, aK, aH, aT, aS, aW, aZ, aU, b_1, b_11, eq_self, ne_eq, not_true_eq_false, not_false_eq_true, Classical.not_not, decide_true, decide_false, and_true, true_and, and_false, false_and, and_self, or_true, true_or, or_false, false_or, or_self, if_true, if_false, ite_true, ite_false, Bool.eq_false_iff, Bool.not_eq_eq_eq_not, Bool.true_eq_false, Bool.false_eq_true, reduceCtorEq]; rfl) | (simp [mv_now, mv_fnd, up_at, sN, becS, bitS, sp_span, FB, FF, FK, FN, FS, FM, FZ, fnd, mv, aN, b_1, b_11]; done)
      · repeat first | exact (fun _ _ => rfl) | refine frU (by decide) ?_
      · repeat first | exact id | refine mtU (by decide) ?_
  · refine g_if_eq (pc := 4) (tgt := 25) C dX12_span_4 (by decide) (fun _ => ?_) (fun c => absurd c (by decide))
    refine g_al0n (pc := 25) C dX12_span_25 ?_
    refine g_ldc (pc := 26) C dX12_span_26 kX12_57 ?_
    refine s_VI (pc := 28) (st := []) C h135 rfl (c_X12_finding (d := d - 1) (by omega) σ (i := 0) (by decide) (w := ((-1000001))) (by decide)) (by omega) lX12_62 dX12_span_28 rfl (Nat.le_of_ble_eq_true rfl) rfl ?_
    refine r_P C hr dX12_span_31 ⟨?_, ?_, ?_, ?_⟩
    · first | (simp only [sp_span, FB, FF, FK, FN, FS, FM, FZ, fnd, becS, bitS, sN, mv, aN, aF, aK, aH, aT, aS, aW, aZ, aU, b_1, eq_self, ne_eq, not_true_eq_false, not_false_eq_true, Classical.not_not, decide_true, decide_false, and_true, true_and, and_false, false_and, and_self, or_true, true_or, or_false, false_or, or_self, if_true, if_false, ite_true, ite_false, Bool.eq_false_iff, Bool.not_eq_eq_eq_not, Bool.true_eq_false, Bool.false_eq_true, reduceCtorEq]; done) | (simp only [sp_span, FB, FF, FK, FN, FS, FM, FZ, fnd, becS, bitS, sN, mv, aN, aF, aK, aH, aT, aS, aW, aZ, aU, b_1, eq_self, ne_eq, not_true_eq_false, not_false_eq_true, Classical.not_not, decide_true, decide_false, and_true, true_and, and_false, false_and, and_self, or_true, true_or, or_false, false_or, or_self, if_true, if_false, ite_true, ite_false, Bool.eq_false_iff, Bool.not_eq_eq_eq_not, Bool.true_eq_false, Bool.false_eq_true, reduceCtorEq]; rfl) | (simp [becS, bitS, sp_span, FB, FF, FK, FN, FS, FM, FZ, fnd, mv, aN, b_1]; done)
    · try simp only [mv_now, mv_fnd, mv_tap, mv_kep]
      first | (simp only [up_at, sN, becS, bitS, sp_span, FB, FF, FK, FN, FS, FM, FZ, fnd, mv, aN, aF, aK, aH, aT, aS, aW, aZ, aU, b_1, eq_self, ne_eq, not_true_eq_false, not_false_eq_true, Classical.not_not, decide_true, decide_false, and_true, true_and, and_false, false_and, and_self, or_true, true_or, or_false, false_or, or_self, if_true, if_false, ite_true, ite_false, Bool.eq_false_iff, Bool.not_eq_eq_eq_not, Bool.true_eq_false, Bool.false_eq_true, reduceCtorEq]; done) | (simp only [up_at, sN, becS, bitS, sp_span, FB, FF, FK, FN, FS, FM, FZ, fnd, mv, aN, aF, aK, aH, aT, aS, aW, aZ, aU, b_1, eq_self, ne_eq, not_true_eq_false, not_false_eq_true, Classical.not_not, decide_true, decide_false, and_true, true_and, and_false, false_and, and_self, or_true, true_or, or_false, false_or, or_self, if_true, if_false, ite_true, ite_false, Bool.eq_false_iff, Bool.not_eq_eq_eq_not, Bool.true_eq_false, Bool.false_eq_true, reduceCtorEq]; rfl) | (simp [mv_now, mv_fnd, up_at, sN, becS, bitS, sp_span, FB, FF, FK, FN, FS, FM, FZ, fnd, mv, aN, b_1]; done)
    · repeat first | exact (fun _ _ => rfl) | refine frU (by decide) ?_
    · repeat first | exact id | refine mtU (by decide) ?_

theorem m_gliderIs {d : Nat} (hd : 4 ≤ d) (σ : Sg) (hI : INV (σ 136)) (g w : Int32) : CP d mX12_gliderIs [.ref 135, .int g, .int w] σ (MPo σ (sp_gliderIs (mv σ) g w)) := by
  refine con_of (by decide) (catL rfl) (Nat.le_of_ble_eq_true rfl) ?_
  intro μ ω C hr
  have C : Cx μ ω "TowFieldModel" cX12_gliderIs 3 d := C
  have hr : (mH μ).sig.returnType = some .int := hr
  show G μ ω (RQ μ ω (pP (MPo σ (sp_gliderIs (mv σ) g w)))) 0 [some (.ref 135), some (.int g), some (.int w)] [] (mk σ) 0 0
  refine g_al0n (pc := 0) C dX12_gliderIs_0 ?_
  refine g_il1n (pc := 1) C dX12_gliderIs_1 ?_
  refine g_iconst (pc := 2) (v := 3) C dX12_gliderIs_2 (by decide) ?_
  refine s_VB (pc := 3) (st := []) C h135 rfl (c_X12_isE (d := d - 1) (by omega) σ g (c := 3) (by decide) rfl) (by omega) lX12_71 dX12_gliderIs_3 rfl (Nat.le_of_ble_eq_true rfl) rfl (fun b_3 => ?_) (fun b_3 => ?_)
  · have hn3 := hI.n3.2
    obtain ⟨j, hj, rfl⟩ := (is_iff hI.n3.1 (by have := hI.n3.2; omega)).mp b_3
    have kj : (nI j).toNatClampNeg = j := nI_clamp (by omega)
    refine g_if_eq (pc := 6) (tgt := 18) C dX12_gliderIs_6 (by decide) (fun c => absurd c (by decide)) (fun _ => ?_)
    refine g_il2n (pc := 9) C dX12_gliderIs_9 ?_
    refine g_iconst (pc := 10) (v := 0) C dX12_gliderIs_10 (by decide) ?_
    refine g_iconst (pc := 11) (v := 4) C dX12_gliderIs_11 (by decide) ?_
    refine s_SB (pc := 12) (st := []) C (c_X12_within (d := d - 1) (by omega) σ w 0 4) (by omega) lX12_58 dX12_gliderIs_12 rfl (Nat.le_of_ble_eq_true rfl) rfl (fun b_12 => ?_) (fun b_12 => ?_)
    · obtain ⟨f, hf, rfl⟩ := rgL b_12 (by decide) (B := 4) (by decide)
      have kf : (nI f).toNatClampNeg = f := nI_clamp (by omega)
      refine g_if_ne (pc := 15) (tgt := 25) C dX12_gliderIs_15 (by decide) (fun _ => ?_) (fun c => absurd c (by decide))
      refine g_il2n (pc := 25) C dX12_gliderIs_25 ?_
      refine g_iconst (pc := 26) (v := 4) C dX12_gliderIs_26 (by decide) ?_
      refine g_icmp_geL (pc := 27) (tgt := 39) C dX12_gliderIs_27 (by decide) (fun c_27 => ?_) (fun c_27 => ?_)
      · refine g_al0n (pc := 39) C dX12_gliderIs_39 ?_
        refine g_il1n (pc := 40) C dX12_gliderIs_40 ?_
        refine s_VB (pc := 41) (st := []) C h135 rfl (c_X12_isInRow (d := d - 1) (by omega) σ hI.n7.1 hI.n7.2 (nI j)) (by omega) lX12_78 dX12_gliderIs_41 rfl (Nat.le_of_ble_eq_true rfl) rfl (fun b_41 => ?_) (fun b_41 => ?_)
        · refine g_if_eq (pc := 44) (tgt := 51) C dX12_gliderIs_44 (by decide) (fun c => absurd c (by decide)) (fun _ => ?_)
          refine g_iconst (pc := 47) (v := 1) C dX12_gliderIs_47 (by decide) ?_
          refine g_goto (pc := 48) (tgt := 52) C dX12_gliderIs_48 (by decide) ?_
          refine r_P C hr dX12_gliderIs_52 ⟨?_, ?_, ?_, ?_⟩
          · first | (simp only [sp_gliderIs, FB, FF, FK, FN, FS, FM, FZ, fnd, becS, bitS, sN, mv, aN, aF, aK, aH, aT, aS, aW, aZ, aU, b_3, b_12, c_27, b_41, kj, kf, eq_self, ne_eq, not_true_eq_false, not_false_eq_true, Classical.not_not, decide_true, decide_false, and_true, true_and, and_false, false_and, and_self, or_true, true_or, or_false, false_or, or_self, if_true, if_false, ite_true, ite_false, Bool.eq_false_iff, Bool.not_eq_eq_eq_not, Bool.true_eq_false, Bool.false_eq_true, reduceCtorEq]; done) | (simp only [sp_gliderIs, FB, FF, FK, FN, FS, FM, FZ, fnd, becS, bitS, sN, mv, aN, aF, aK, aH, aT, aS, aW, aZ, aU, b_3, b_12, c_27, b_41, kj, kf, eq_self, ne_eq, not_true_eq_false, not_false_eq_true, Classical.not_not, decide_true, decide_false, and_true, true_and, and_false, false_and, and_self, or_true, true_or, or_false, false_or, or_self, if_true, if_false, ite_true, ite_false, Bool.eq_false_iff, Bool.not_eq_eq_eq_not, Bool.true_eq_false, Bool.false_eq_true, reduceCtorEq]; rfl) | (simp [becS, bitS, sp_gliderIs, FB, FF, FK, FN, FS, FM, FZ, fnd, mv, aN, b_3, b_12, c_27, b_41, kj, kf]; done)
          · try simp only [mv_now, mv_fnd, mv_tap, mv_kep]
            first | (simp only [up_at, sN, becS, bitS, sp_gliderIs, FB, FF, FK, FN, FS, FM, FZ, fnd, mv, aN, aF, aK, aH, aT, aS, aW, aZ, aU, b_3, b_12, c_27, b_41, kj, kf, eq_self, ne_eq, not_true_eq_false, not_false_eq_true, Classical.not_not, decide_true, decide_false, and_true, true_and, and_false, false_and, and_self, or_true, true_or, or_false, false_or, or_self, if_true, if_false, ite_true, ite_false, Bool.eq_false_iff, Bool.not_eq_eq_eq_not, Bool.true_eq_false, Bool.false_eq_true, reduceCtorEq]; done) | (simp only [up_at, sN, becS, bitS, sp_gliderIs, FB, FF, FK, FN, FS, FM, FZ, fnd, mv, aN, aF, aK, aH, aT, aS, aW, aZ, aU, b_3, b_12, c_27, b_41, kj, kf, eq_self, ne_eq, not_true_eq_false, not_false_eq_true, Classical.not_not, decide_true, decide_false, and_true, true_and, and_false, false_and, and_self, or_true, true_or, or_false, false_or, or_self, if_true, if_false, ite_true, ite_false, Bool.eq_false_iff, Bool.not_eq_eq_eq_not, Bool.true_eq_false, Bool.false_eq_true, reduceCtorEq]; rfl) | (simp [mv_now, mv_fnd, up_at, sN, becS, bitS, sp_gliderIs, FB, FF, FK, FN, FS, FM, FZ, fnd, mv, aN, b_3, b_12, c_27, b_41, kj, kf]; done)
          · repeat first | exact (fun _ _ => rfl) | refine frU (by decide) ?_
          · repeat first | exact id | refine mtU (by decide) ?_
        · refine g_if_eq (pc := 44) (tgt := 51) C dX12_gliderIs_44 (by decide) (fun _ => ?_) (fun c => absurd c (by decide))
          refine g_iconst (pc := 51) (v := 0) C dX12_gliderIs_51 (by decide) ?_
          refine r_P C hr dX12_gliderIs_52 ⟨?_, ?_, ?_, ?_⟩
          · first | (simp only [sp_gliderIs, FB, FF, FK, FN, FS, FM, FZ, fnd, becS, bitS, sN, mv, aN, aF, aK, aH, aT, aS, aW, aZ, aU, b_3, b_12, c_27, b_41, kj, kf, eq_self, ne_eq, not_true_eq_false, not_false_eq_true, Classical.not_not, decide_true, decide_false, and_true, true_and, and_false, false_and, and_self, or_true, true_or, or_false, false_or, or_self, if_true, if_false, ite_true, ite_false, Bool.eq_false_iff, Bool.not_eq_eq_eq_not, Bool.true_eq_false, Bool.false_eq_true, reduceCtorEq]; done) | (simp only [sp_gliderIs, FB, FF, FK, FN, FS, FM, FZ, fnd, becS, bitS, sN, mv, aN, aF, aK, aH, aT, aS, aW, aZ, aU, b_3, b_12, c_27, b_41, kj, kf, eq_self, ne_eq, not_true_eq_false, not_false_eq_true, Classical.not_not, decide_true, decide_false, and_true, true_and, and_false, false_and, and_self, or_true, true_or, or_false, false_or, or_self, if_true, if_false, ite_true, ite_false, Bool.eq_false_iff, Bool.not_eq_eq_eq_not, Bool.true_eq_false, Bool.false_eq_true, reduceCtorEq]; rfl) | (simp [becS, bitS, sp_gliderIs, FB, FF, FK, FN, FS, FM, FZ, fnd, mv, aN, b_3, b_12, c_27, b_41, kj, kf]; done)
          · try simp only [mv_now, mv_fnd, mv_tap, mv_kep]
            first | (simp only [up_at, sN, becS, bitS, sp_gliderIs, FB, FF, FK, FN, FS, FM, FZ, fnd, mv, aN, aF, aK, aH, aT, aS, aW, aZ, aU, b_3, b_12, c_27, b_41, kj, kf, eq_self, ne_eq, not_true_eq_false, not_false_eq_true, Classical.not_not, decide_true, decide_false, and_true, true_and, and_false, false_and, and_self, or_true, true_or, or_false, false_or, or_self, if_true, if_false, ite_true, ite_false, Bool.eq_false_iff, Bool.not_eq_eq_eq_not, Bool.true_eq_false, Bool.false_eq_true, reduceCtorEq]; done) | (simp only [up_at, sN, becS, bitS, sp_gliderIs, FB, FF, FK, FN, FS, FM, FZ, fnd, mv, aN, aF, aK, aH, aT, aS, aW, aZ, aU, b_3, b_12, c_27, b_41, kj, kf, eq_self, ne_eq, not_true_eq_false, not_false_eq_true, Classical.not_not, decide_true, decide_false, and_true, true_and, and_false, false_and, and_self, or_true, true_or, or_false, false_or, or_self, if_true, if_false, ite_true, ite_false, Bool.eq_false_iff, Bool.not_eq_eq_eq_not, Bool.true_eq_false, Bool.false_eq_true, reduceCtorEq]; rfl) | (simp [mv_now, mv_fnd, up_at, sN, becS, bitS, sp_gliderIs, FB, FF, FK, FN, FS, FM, FZ, fnd, mv, aN, b_3, b_12, c_27, b_41, kj, kf]; done)
          · repeat first | exact (fun _ _ => rfl) | refine frU (by decide) ?_
          · repeat first | exact id | refine mtU (by decide) ?_
      · have hf4 : f < 4 := ltN c_27 (by omega) (by decide)
        refine g_al0n (pc := 30) C dX12_gliderIs_30 ?_
        refine g_il1n (pc := 31) C dX12_gliderIs_31 ?_
        refine g_il2n (pc := 32) C dX12_gliderIs_32 ?_
        refine s_VI (pc := 33) (st := []) C h135 rfl (c_X12_gliderOf (d := d - 1) (by omega) σ (a := j) (f := f) (by omega) (by omega) rfl rfl) (by omega) lX12_75 dX12_gliderIs_33 rfl (Nat.le_of_ble_eq_true rfl) rfl ?_
        refine g_goto (pc := 36) (tgt := 52) C dX12_gliderIs_36 (by decide) ?_
        refine r_P C hr dX12_gliderIs_52 ⟨?_, ?_, ?_, ?_⟩
        · first | (simp only [sp_gliderIs, FB, FF, FK, FN, FS, FM, FZ, fnd, becS, bitS, sN, mv, aN, aF, aK, aH, aT, aS, aW, aZ, aU, b_3, b_12, c_27, kj, kf, eq_self, ne_eq, not_true_eq_false, not_false_eq_true, Classical.not_not, decide_true, decide_false, and_true, true_and, and_false, false_and, and_self, or_true, true_or, or_false, false_or, or_self, if_true, if_false, ite_true, ite_false, Bool.eq_false_iff, Bool.not_eq_eq_eq_not, Bool.true_eq_false, Bool.false_eq_true, reduceCtorEq]; done) | (simp only [sp_gliderIs, FB, FF, FK, FN, FS, FM, FZ, fnd, becS, bitS, sN, mv, aN, aF, aK, aH, aT, aS, aW, aZ, aU, b_3, b_12, c_27, kj, kf, eq_self, ne_eq, not_true_eq_false, not_false_eq_true, Classical.not_not, decide_true, decide_false, and_true, true_and, and_false, false_and, and_self, or_true, true_or, or_false, false_or, or_self, if_true, if_false, ite_true, ite_false, Bool.eq_false_iff, Bool.not_eq_eq_eq_not, Bool.true_eq_false, Bool.false_eq_true, reduceCtorEq]; rfl) | (simp [becS, bitS, sp_gliderIs, FB, FF, FK, FN, FS, FM, FZ, fnd, mv, aN, b_3, b_12, c_27, kj, kf]; done)
        · try simp only [mv_now, mv_fnd, mv_tap, mv_kep]
          first | (simp only [up_at, sN, becS, bitS, sp_gliderIs, FB, FF, FK, FN, FS, FM, FZ, fnd, mv, aN, aF, aK, aH, aT, aS, aW, aZ, aU, b_3, b_12, c_27, kj, kf, eq_self, ne_eq, not_true_eq_false, not_false_eq_true, Classical.not_not, decide_true, decide_false, and_true, true_and, and_false, false_and, and_self, or_true, true_or, or_false, false_or, or_self, if_true, if_false, ite_true, ite_false, Bool.eq_false_iff, Bool.not_eq_eq_eq_not, Bool.true_eq_false, Bool.false_eq_true, reduceCtorEq]; done) | (simp only [up_at, sN, becS, bitS, sp_gliderIs, FB, FF, FK, FN, FS, FM, FZ, fnd, mv, aN, aF, aK, aH, aT, aS, aW, aZ, aU, b_3, b_12, c_27, kj, kf, eq_self, ne_eq, not_true_eq_false, not_false_eq_true, Classical.not_not, decide_true, decide_false, and_true, true_and, and_false, false_and, and_self, or_true, true_or, or_false, false_or, or_self, if_true, if_false, ite_true, ite_false, Bool.eq_false_iff, Bool.not_eq_eq_eq_not, Bool.true_eq_false, Bool.false_eq_true, reduceCtorEq]; rfl) | (simp [mv_now, mv_fnd, up_at, sN, becS, bitS, sp_gliderIs, FB, FF, FK, FN, FS, FM, FZ, fnd, mv, aN, b_3, b_12, c_27, kj, kf]; done)
        · repeat first | exact (fun _ _ => rfl) | refine frU (by decide) ?_
        · repeat first | exact id | refine mtU (by decide) ?_
    · refine g_if_ne (pc := 15) (tgt := 25) C dX12_gliderIs_15 (by decide) (fun c => absurd c (by decide)) (fun _ => ?_)
      refine g_al0n (pc := 18) C dX12_gliderIs_18 ?_
      refine g_ldc (pc := 19) C dX12_gliderIs_19 kX12_57 ?_
      refine s_VI (pc := 21) (st := []) C h135 rfl (c_X12_finding (d := d - 1) (by omega) σ (i := 0) (by decide) (w := ((-1000001))) (by decide)) (by omega) lX12_62 dX12_gliderIs_21 rfl (Nat.le_of_ble_eq_true rfl) rfl ?_
      refine r_P C hr dX12_gliderIs_24 ⟨?_, ?_, ?_, ?_⟩
      · first | (simp only [sp_gliderIs, FB, FF, FK, FN, FS, FM, FZ, fnd, becS, bitS, sN, mv, aN, aF, aK, aH, aT, aS, aW, aZ, aU, b_3, b_12, kj, eq_self, ne_eq, not_true_eq_false, not_false_eq_true, Classical.not_not, decide_true, decide_false, and_true, true_and, and_false, false_and, and_self, or_true, true_or, or_false, false_or, or_self, if_true, if_false, ite_true, ite_false, Bool.eq_false_iff, Bool.not_eq_eq_eq_not, Bool.true_eq_false, Bool.false_eq_true, reduceCtorEq]; done) | (simp only [sp_gliderIs, FB, FF, FK, FN, FS, FM, FZ, fnd, becS, bitS, sN, mv, aN, aF, aK, aH, aT, aS, aW, aZ, aU, b_3, b_12, kj, eq_self, ne_eq, not_true_eq_false, not_false_eq_true, Classical.not_not, decide_true, decide_false, and_true, true_and, and_false, false_and, and_self, or_true, true_or, or_false, false_or, or_self, if_true, if_false, ite_true, ite_false, Bool.eq_false_iff, Bool.not_eq_eq_eq_not, Bool.true_eq_false, Bool.false_eq_true, reduceCtorEq]; rfl) | (simp [becS, bitS, sp_gliderIs, FB, FF, FK, FN, FS, FM, FZ, fnd, mv, aN, b_3, b_12, kj]; done)
      · try simp only [mv_now, mv_fnd, mv_tap, mv_kep]
        first | (simp only [up_at, sN, becS, bitS, sp_gliderIs, FB, FF, FK, FN, FS, FM, FZ, fnd, mv, aN, aF, aK, aH, aT, aS, aW, aZ, aU, b_3, b_12, kj, eq_self, ne_eq, not_true_eq_false, not_false_eq_true, Classical.not_not, decide_true, decide_false, and_true, true_and, and_false, false_and, and_self, or_true, true_or, or_false, false_or, or_self, if_true, if_false, ite_true, ite_false, Bool.eq_false_iff, Bool.not_eq_eq_eq_not, Bool.true_eq_false, Bool.false_eq_true, reduceCtorEq]; done) | (simp only [up_at, sN, becS, bitS, sp_gliderIs, FB, FF, FK, FN, FS, FM, FZ, fnd, mv, aN, aF, aK, aH, aT, aS, aW, aZ, aU, b_3, b_12, kj, eq_self, ne_eq, not_true_eq_false, not_false_eq_true, Classical.not_not, decide_true, decide_false, and_true, true_and, and_false, false_and, and_self, or_true, true_or, or_false, false_or, or_self, if_true, if_false, ite_true, ite_false, Bool.eq_false_iff, Bool.not_eq_eq_eq_not, Bool.true_eq_false, Bool.false_eq_true, reduceCtorEq]; rfl) | (simp [mv_now, mv_fnd, up_at, sN, becS, bitS, sp_gliderIs, FB, FF, FK, FN, FS, FM, FZ, fnd, mv, aN, b_3, b_12, kj]; done)
      · repeat first | exact (fun _ _ => rfl) | refine frU (by decide) ?_
      · repeat first | exact id | refine mtU (by decide) ?_
  · refine g_if_eq (pc := 6) (tgt := 18) C dX12_gliderIs_6 (by decide) (fun _ => ?_) (fun c => absurd c (by decide))
    refine g_al0n (pc := 18) C dX12_gliderIs_18 ?_
    refine g_ldc (pc := 19) C dX12_gliderIs_19 kX12_57 ?_
    refine s_VI (pc := 21) (st := []) C h135 rfl (c_X12_finding (d := d - 1) (by omega) σ (i := 0) (by decide) (w := ((-1000001))) (by decide)) (by omega) lX12_62 dX12_gliderIs_21 rfl (Nat.le_of_ble_eq_true rfl) rfl ?_
    refine r_P C hr dX12_gliderIs_24 ⟨?_, ?_, ?_, ?_⟩
    · first | (simp only [sp_gliderIs, FB, FF, FK, FN, FS, FM, FZ, fnd, becS, bitS, sN, mv, aN, aF, aK, aH, aT, aS, aW, aZ, aU, b_3, eq_self, ne_eq, not_true_eq_false, not_false_eq_true, Classical.not_not, decide_true, decide_false, and_true, true_and, and_false, false_and, and_self, or_true, true_or, or_false, false_or, or_self, if_true, if_false, ite_true, ite_false, Bool.eq_false_iff, Bool.not_eq_eq_eq_not, Bool.true_eq_false, Bool.false_eq_true, reduceCtorEq]; done) | (simp only [sp_gliderIs, FB, FF, FK, FN, FS, FM, FZ, fnd, becS, bitS, sN, mv, aN, aF, aK, aH, aT, aS, aW, aZ, aU, b_3, eq_self, ne_eq, not_true_eq_false, not_false_eq_true, Classical.not_not, decide_true, decide_false, and_true, true_and, and_false, false_and, and_self, or_true, true_or, or_false, false_or, or_self, if_true, if_false, ite_true, ite_false, Bool.eq_false_iff, Bool.not_eq_eq_eq_not, Bool.true_eq_false, Bool.false_eq_true, reduceCtorEq]; rfl) | (simp [becS, bitS, sp_gliderIs, FB, FF, FK, FN, FS, FM, FZ, fnd, mv, aN, b_3]; done)
    · try simp only [mv_now, mv_fnd, mv_tap, mv_kep]
      first | (simp only [up_at, sN, becS, bitS, sp_gliderIs, FB, FF, FK, FN, FS, FM, FZ, fnd, mv, aN, aF, aK, aH, aT, aS, aW, aZ, aU, b_3, eq_self, ne_eq, not_true_eq_false, not_false_eq_true, Classical.not_not, decide_true, decide_false, and_true, true_and, and_false, false_and, and_self, or_true, true_or, or_false, false_or, or_self, if_true, if_false, ite_true, ite_false, Bool.eq_false_iff, Bool.not_eq_eq_eq_not, Bool.true_eq_false, Bool.false_eq_true, reduceCtorEq]; done) | (simp only [up_at, sN, becS, bitS, sp_gliderIs, FB, FF, FK, FN, FS, FM, FZ, fnd, mv, aN, aF, aK, aH, aT, aS, aW, aZ, aU, b_3, eq_self, ne_eq, not_true_eq_false, not_false_eq_true, Classical.not_not, decide_true, decide_false, and_true, true_and, and_false, false_and, and_self, or_true, true_or, or_false, false_or, or_self, if_true, if_false, ite_true, ite_false, Bool.eq_false_iff, Bool.not_eq_eq_eq_not, Bool.true_eq_false, Bool.false_eq_true, reduceCtorEq]; rfl) | (simp [mv_now, mv_fnd, up_at, sN, becS, bitS, sp_gliderIs, FB, FF, FK, FN, FS, FM, FZ, fnd, mv, aN, b_3]; done)
    · repeat first | exact (fun _ _ => rfl) | refine frU (by decide) ?_
    · repeat first | exact id | refine mtU (by decide) ?_

theorem m_personIs {d : Nat} (hd : 4 ≤ d) (σ : Sg) (hI : INV (σ 136)) (g w : Int32) : CP d mX12_personIs [.ref 135, .int g, .int w] σ (MPo σ (sp_personIs (mv σ) g w)) := by
  refine con_of (by decide) (catL rfl) (Nat.le_of_ble_eq_true rfl) ?_
  intro μ ω C hr
  have C : Cx μ ω "TowFieldModel" cX12_personIs 3 d := C
  have hr : (mH μ).sig.returnType = some .int := hr
  show G μ ω (RQ μ ω (pP (MPo σ (sp_personIs (mv σ) g w)))) 0 [some (.ref 135), some (.int g), some (.int w)] [] (mk σ) 0 0
  refine g_al0n (pc := 0) C dX12_personIs_0 ?_
  refine g_il1n (pc := 1) C dX12_personIs_1 ?_
  refine g_iconst (pc := 2) (v := 4) C dX12_personIs_2 (by decide) ?_
  refine s_VB (pc := 3) (st := []) C h135 rfl (c_X12_isE (d := d - 1) (by omega) σ g (c := 4) (by decide) rfl) (by omega) lX12_71 dX12_personIs_3 rfl (Nat.le_of_ble_eq_true rfl) rfl (fun b_3 => ?_) (fun b_3 => ?_)
  · have hn4 := hI.n4.2
    obtain ⟨j, hj, rfl⟩ := (is_iff hI.n4.1 (by have := hI.n4.2; omega)).mp b_3
    have kj : (nI j).toNatClampNeg = j := nI_clamp (by omega)
    refine g_if_eq (pc := 6) (tgt := 18) C dX12_personIs_6 (by decide) (fun c => absurd c (by decide)) (fun _ => ?_)
    refine g_il2n (pc := 9) C dX12_personIs_9 ?_
    refine g_iconst (pc := 10) (v := 0) C dX12_personIs_10 (by decide) ?_
    refine g_iconst (pc := 11) (v := 4) C dX12_personIs_11 (by decide) ?_
    refine s_SB (pc := 12) (st := []) C (c_X12_within (d := d - 1) (by omega) σ w 0 4) (by omega) lX12_58 dX12_personIs_12 rfl (Nat.le_of_ble_eq_true rfl) rfl (fun b_12 => ?_) (fun b_12 => ?_)
    · obtain ⟨f, hf, rfl⟩ := rgL b_12 (by decide) (B := 4) (by decide)
      have kf : (nI f).toNatClampNeg = f := nI_clamp (by omega)
      refine g_if_ne (pc := 15) (tgt := 25) C dX12_personIs_15 (by decide) (fun _ => ?_) (fun c => absurd c (by decide))
      refine g_il2n (pc := 25) C dX12_personIs_25 ?_
      refine g_iconst (pc := 26) (v := 4) C dX12_personIs_26 (by decide) ?_
      refine g_icmp_geL (pc := 27) (tgt := 39) C dX12_personIs_27 (by decide) (fun c_27 => ?_) (fun c_27 => ?_)
      · refine g_al0n (pc := 39) C dX12_personIs_39 ?_
        refine g_il1n (pc := 40) C dX12_personIs_40 ?_
        refine s_VB (pc := 41) (st := []) C h135 rfl (c_X12_isInAir (d := d - 1) (by omega) σ hI.n7.1 hI.n7.2 (nI j)) (by omega) lX12_85 dX12_personIs_41 rfl (Nat.le_of_ble_eq_true rfl) rfl (fun b_41 => ?_) (fun b_41 => ?_)
        · refine g_if_eq (pc := 44) (tgt := 51) C dX12_personIs_44 (by decide) (fun c => absurd c (by decide)) (fun _ => ?_)
          refine g_iconst (pc := 47) (v := 1) C dX12_personIs_47 (by decide) ?_
          refine g_goto (pc := 48) (tgt := 52) C dX12_personIs_48 (by decide) ?_
          refine r_P C hr dX12_personIs_52 ⟨?_, ?_, ?_, ?_⟩
          · first | (simp only [sp_personIs, FB, FF, FK, FN, FS, FM, FZ, fnd, becS, bitS, sN, mv, aN, aF, aK, aH, aT, aS, aW, aZ, aU, b_3, b_12, c_27, b_41, kj, kf, eq_self, ne_eq, not_true_eq_false, not_false_eq_true, Classical.not_not, decide_true, decide_false, and_true, true_and, and_false, false_and, and_self, or_true, true_or, or_false, false_or, or_self, if_true, if_false, ite_true, ite_false, Bool.eq_false_iff, Bool.not_eq_eq_eq_not, Bool.true_eq_false, Bool.false_eq_true, reduceCtorEq]; done) | (simp only [sp_personIs, FB, FF, FK, FN, FS, FM, FZ, fnd, becS, bitS, sN, mv, aN, aF, aK, aH, aT, aS, aW, aZ, aU, b_3, b_12, c_27, b_41, kj, kf, eq_self, ne_eq, not_true_eq_false, not_false_eq_true, Classical.not_not, decide_true, decide_false, and_true, true_and, and_false, false_and, and_self, or_true, true_or, or_false, false_or, or_self, if_true, if_false, ite_true, ite_false, Bool.eq_false_iff, Bool.not_eq_eq_eq_not, Bool.true_eq_false, Bool.false_eq_true, reduceCtorEq]; rfl) | (simp [becS, bitS, sp_personIs, FB, FF, FK, FN, FS, FM, FZ, fnd, mv, aN, b_3, b_12, c_27, b_41, kj, kf]; done)
          · try simp only [mv_now, mv_fnd, mv_tap, mv_kep]
            first | (simp only [up_at, sN, becS, bitS, sp_personIs, FB, FF, FK, FN, FS, FM, FZ, fnd, mv, aN, aF, aK, aH, aT, aS, aW, aZ, aU, b_3, b_12, c_27, b_41, kj, kf, eq_self, ne_eq, not_true_eq_false, not_false_eq_true, Classical.not_not, decide_true, decide_false, and_true, true_and, and_false, false_and, and_self, or_true, true_or, or_false, false_or, or_self, if_true, if_false, ite_true, ite_false, Bool.eq_false_iff, Bool.not_eq_eq_eq_not, Bool.true_eq_false, Bool.false_eq_true, reduceCtorEq]; done) | (simp only [up_at, sN, becS, bitS, sp_personIs, FB, FF, FK, FN, FS, FM, FZ, fnd, mv, aN, aF, aK, aH, aT, aS, aW, aZ, aU, b_3, b_12, c_27, b_41, kj, kf, eq_self, ne_eq, not_true_eq_false, not_false_eq_true, Classical.not_not, decide_true, decide_false, and_true, true_and, and_false, false_and, and_self, or_true, true_or, or_false, false_or, or_self, if_true, if_false, ite_true, ite_false, Bool.eq_false_iff, Bool.not_eq_eq_eq_not, Bool.true_eq_false, Bool.false_eq_true, reduceCtorEq]; rfl) | (simp [mv_now, mv_fnd, up_at, sN, becS, bitS, sp_personIs, FB, FF, FK, FN, FS, FM, FZ, fnd, mv, aN, b_3, b_12, c_27, b_41, kj, kf]; done)
          · repeat first | exact (fun _ _ => rfl) | refine frU (by decide) ?_
          · repeat first | exact id | refine mtU (by decide) ?_
        · refine g_if_eq (pc := 44) (tgt := 51) C dX12_personIs_44 (by decide) (fun _ => ?_) (fun c => absurd c (by decide))
          refine g_iconst (pc := 51) (v := 0) C dX12_personIs_51 (by decide) ?_
          refine r_P C hr dX12_personIs_52 ⟨?_, ?_, ?_, ?_⟩
          · first | (simp only [sp_personIs, FB, FF, FK, FN, FS, FM, FZ, fnd, becS, bitS, sN, mv, aN, aF, aK, aH, aT, aS, aW, aZ, aU, b_3, b_12, c_27, b_41, kj, kf, eq_self, ne_eq, not_true_eq_false, not_false_eq_true, Classical.not_not, decide_true, decide_false, and_true, true_and, and_false, false_and, and_self, or_true, true_or, or_false, false_or, or_self, if_true, if_false, ite_true, ite_false, Bool.eq_false_iff, Bool.not_eq_eq_eq_not, Bool.true_eq_false, Bool.false_eq_true, reduceCtorEq]; done) | (simp only [sp_personIs, FB, FF, FK, FN, FS, FM, FZ, fnd, becS, bitS, sN, mv, aN, aF, aK, aH, aT, aS, aW, aZ, aU, b_3, b_12, c_27, b_41, kj, kf, eq_self, ne_eq, not_true_eq_false, not_false_eq_true, Classical.not_not, decide_true, decide_false, and_true, true_and, and_false, false_and, and_self, or_true, true_or, or_false, false_or, or_self, if_true, if_false, ite_true, ite_false, Bool.eq_false_iff, Bool.not_eq_eq_eq_not, Bool.true_eq_false, Bool.false_eq_true, reduceCtorEq]; rfl) | (simp [becS, bitS, sp_personIs, FB, FF, FK, FN, FS, FM, FZ, fnd, mv, aN, b_3, b_12, c_27, b_41, kj, kf]; done)
          · try simp only [mv_now, mv_fnd, mv_tap, mv_kep]
            first | (simp only [up_at, sN, becS, bitS, sp_personIs, FB, FF, FK, FN, FS, FM, FZ, fnd, mv, aN, aF, aK, aH, aT, aS, aW, aZ, aU, b_3, b_12, c_27, b_41, kj, kf, eq_self, ne_eq, not_true_eq_false, not_false_eq_true, Classical.not_not, decide_true, decide_false, and_true, true_and, and_false, false_and, and_self, or_true, true_or, or_false, false_or, or_self, if_true, if_false, ite_true, ite_false, Bool.eq_false_iff, Bool.not_eq_eq_eq_not, Bool.true_eq_false, Bool.false_eq_true, reduceCtorEq]; done) | (simp only [up_at, sN, becS, bitS, sp_personIs, FB, FF, FK, FN, FS, FM, FZ, fnd, mv, aN, aF, aK, aH, aT, aS, aW, aZ, aU, b_3, b_12, c_27, b_41, kj, kf, eq_self, ne_eq, not_true_eq_false, not_false_eq_true, Classical.not_not, decide_true, decide_false, and_true, true_and, and_false, false_and, and_self, or_true, true_or, or_false, false_or, or_self, if_true, if_false, ite_true, ite_false, Bool.eq_false_iff, Bool.not_eq_eq_eq_not, Bool.true_eq_false, Bool.false_eq_true, reduceCtorEq]; rfl) | (simp [mv_now, mv_fnd, up_at, sN, becS, bitS, sp_personIs, FB, FF, FK, FN, FS, FM, FZ, fnd, mv, aN, b_3, b_12, c_27, b_41, kj, kf]; done)
          · repeat first | exact (fun _ _ => rfl) | refine frU (by decide) ?_
          · repeat first | exact id | refine mtU (by decide) ?_
      · have hf4 : f < 4 := ltN c_27 (by omega) (by decide)
        refine g_al0n (pc := 30) C dX12_personIs_30 ?_
        refine g_il1n (pc := 31) C dX12_personIs_31 ?_
        refine g_il2n (pc := 32) C dX12_personIs_32 ?_
        refine s_VI (pc := 33) (st := []) C h135 rfl (c_X12_personOf (d := d - 1) (by omega) σ (a := j) (f := f) (by omega) (by omega) rfl rfl) (by omega) lX12_82 dX12_personIs_33 rfl (Nat.le_of_ble_eq_true rfl) rfl ?_
        refine g_goto (pc := 36) (tgt := 52) C dX12_personIs_36 (by decide) ?_
        refine r_P C hr dX12_personIs_52 ⟨?_, ?_, ?_, ?_⟩
        · first | (simp only [sp_personIs, FB, FF, FK, FN, FS, FM, FZ, fnd, becS, bitS, sN, mv, aN, aF, aK, aH, aT, aS, aW, aZ, aU, b_3, b_12, c_27, kj, kf, eq_self, ne_eq, not_true_eq_false, not_false_eq_true, Classical.not_not, decide_true, decide_false, and_true, true_and, and_false, false_and, and_self, or_true, true_or, or_false, false_or, or_self, if_true, if_false, ite_true, ite_false, Bool.eq_false_iff, Bool.not_eq_eq_eq_not, Bool.true_eq_false, Bool.false_eq_true, reduceCtorEq]; done) | (simp only [sp_personIs, FB, FF, FK, FN, FS, FM, FZ, fnd, becS, bitS, sN, mv, aN, aF, aK, aH, aT, aS, aW, aZ, aU, b_3, b_12, c_27, kj, kf, eq_self, ne_eq, not_true_eq_false, not_false_eq_true, Classical.not_not, decide_true, decide_false, and_true, true_and, and_false, false_and, and_self, or_true, true_or, or_false, false_or, or_self, if_true, if_false, ite_true, ite_false, Bool.eq_false_iff, Bool.not_eq_eq_eq_not, Bool.true_eq_false, Bool.false_eq_true, reduceCtorEq]; rfl) | (simp [becS, bitS, sp_personIs, FB, FF, FK, FN, FS, FM, FZ, fnd, mv, aN, b_3, b_12, c_27, kj, kf]; done)
        · try simp only [mv_now, mv_fnd, mv_tap, mv_kep]
          first | (simp only [up_at, sN, becS, bitS, sp_personIs, FB, FF, FK, FN, FS, FM, FZ, fnd, mv, aN, aF, aK, aH, aT, aS, aW, aZ, aU, b_3, b_12, c_27, kj, kf, eq_self, ne_eq, not_true_eq_false, not_false_eq_true, Classical.not_not, decide_true, decide_false, and_true, true_and, and_false, false_and, and_self, or_true, true_or, or_false, false_or, or_self, if_true, if_false, ite_true, ite_false, Bool.eq_false_iff, Bool.not_eq_eq_eq_not, Bool.true_eq_false, Bool.false_eq_true, reduceCtorEq]; done) | (simp only [up_at, sN, becS, bitS, sp_personIs, FB, FF, FK, FN, FS, FM, FZ, fnd, mv, aN, aF, aK, aH, aT, aS, aW, aZ, aU, b_3, b_12, c_27, kj, kf, eq_self, ne_eq, not_true_eq_false, not_false_eq_true, Classical.not_not, decide_true, decide_false, and_true, true_and, and_false, false_and, and_self, or_true, true_or, or_false, false_or, or_self, if_true, if_false, ite_true, ite_false, Bool.eq_false_iff, Bool.not_eq_eq_eq_not, Bool.true_eq_false, Bool.false_eq_true, reduceCtorEq]; rfl) | (simp [mv_now, mv_fnd, up_at, sN, becS, bitS, sp_personIs, FB, FF, FK, FN, FS, FM, FZ, fnd, mv, aN, b_3, b_12, c_27, kj, kf]; done)
        · repeat first | exact (fun _ _ => rfl) | refine frU (by decide) ?_
        · repeat first | exact id | refine mtU (by decide) ?_
    · refine g_if_ne (pc := 15) (tgt := 25) C dX12_personIs_15 (by decide) (fun c => absurd c (by decide)) (fun _ => ?_)
      refine g_al0n (pc := 18) C dX12_personIs_18 ?_
      refine g_ldc (pc := 19) C dX12_personIs_19 kX12_57 ?_
      refine s_VI (pc := 21) (st := []) C h135 rfl (c_X12_finding (d := d - 1) (by omega) σ (i := 0) (by decide) (w := ((-1000001))) (by decide)) (by omega) lX12_62 dX12_personIs_21 rfl (Nat.le_of_ble_eq_true rfl) rfl ?_
      refine r_P C hr dX12_personIs_24 ⟨?_, ?_, ?_, ?_⟩
      · first | (simp only [sp_personIs, FB, FF, FK, FN, FS, FM, FZ, fnd, becS, bitS, sN, mv, aN, aF, aK, aH, aT, aS, aW, aZ, aU, b_3, b_12, kj, eq_self, ne_eq, not_true_eq_false, not_false_eq_true, Classical.not_not, decide_true, decide_false, and_true, true_and, and_false, false_and, and_self, or_true, true_or, or_false, false_or, or_self, if_true, if_false, ite_true, ite_false, Bool.eq_false_iff, Bool.not_eq_eq_eq_not, Bool.true_eq_false, Bool.false_eq_true, reduceCtorEq]; done) | (simp only [sp_personIs, FB, FF, FK, FN, FS, FM, FZ, fnd, becS, bitS, sN, mv, aN, aF, aK, aH, aT, aS, aW, aZ, aU, b_3, b_12, kj, eq_self, ne_eq, not_true_eq_false, not_false_eq_true, Classical.not_not, decide_true, decide_false, and_true, true_and, and_false, false_and, and_self, or_true, true_or, or_false, false_or, or_self, if_true, if_false, ite_true, ite_false, Bool.eq_false_iff, Bool.not_eq_eq_eq_not, Bool.true_eq_false, Bool.false_eq_true, reduceCtorEq]; rfl) | (simp [becS, bitS, sp_personIs, FB, FF, FK, FN, FS, FM, FZ, fnd, mv, aN, b_3, b_12, kj]; done)
      · try simp only [mv_now, mv_fnd, mv_tap, mv_kep]
        first | (simp only [up_at, sN, becS, bitS, sp_personIs, FB, FF, FK, FN, FS, FM, FZ, fnd, mv, aN, aF, aK, aH, aT, aS, aW, aZ, aU, b_3, b_12, kj, eq_self, ne_eq, not_true_eq_false, not_false_eq_true, Classical.not_not, decide_true, decide_false, and_true, true_and, and_false, false_and, and_self, or_true, true_or, or_false, false_or, or_self, if_true, if_false, ite_true, ite_false, Bool.eq_false_iff, Bool.not_eq_eq_eq_not, Bool.true_eq_false, Bool.false_eq_true, reduceCtorEq]; done) | (simp only [up_at, sN, becS, bitS, sp_personIs, FB, FF, FK, FN, FS, FM, FZ, fnd, mv, aN, aF, aK, aH, aT, aS, aW, aZ, aU, b_3, b_12, kj, eq_self, ne_eq, not_true_eq_false, not_false_eq_true, Classical.not_not, decide_true, decide_false, and_true, true_and, and_false, false_and, and_self, or_true, true_or, or_false, false_or, or_self, if_true, if_false, ite_true, ite_false, Bool.eq_false_iff, Bool.not_eq_eq_eq_not, Bool.true_eq_false, Bool.false_eq_true, reduceCtorEq]; rfl) | (simp [mv_now, mv_fnd, up_at, sN, becS, bitS, sp_personIs, FB, FF, FK, FN, FS, FM, FZ, fnd, mv, aN, b_3, b_12, kj]; done)
      · repeat first | exact (fun _ _ => rfl) | refine frU (by decide) ?_
      · repeat first | exact id | refine mtU (by decide) ?_
  · refine g_if_eq (pc := 6) (tgt := 18) C dX12_personIs_6 (by decide) (fun _ => ?_) (fun c => absurd c (by decide))
    refine g_al0n (pc := 18) C dX12_personIs_18 ?_
    refine g_ldc (pc := 19) C dX12_personIs_19 kX12_57 ?_
    refine s_VI (pc := 21) (st := []) C h135 rfl (c_X12_finding (d := d - 1) (by omega) σ (i := 0) (by decide) (w := ((-1000001))) (by decide)) (by omega) lX12_62 dX12_personIs_21 rfl (Nat.le_of_ble_eq_true rfl) rfl ?_
    refine r_P C hr dX12_personIs_24 ⟨?_, ?_, ?_, ?_⟩
    · first | (simp only [sp_personIs, FB, FF, FK, FN, FS, FM, FZ, fnd, becS, bitS, sN, mv, aN, aF, aK, aH, aT, aS, aW, aZ, aU, b_3, eq_self, ne_eq, not_true_eq_false, not_false_eq_true, Classical.not_not, decide_true, decide_false, and_true, true_and, and_false, false_and, and_self, or_true, true_or, or_false, false_or, or_self, if_true, if_false, ite_true, ite_false, Bool.eq_false_iff, Bool.not_eq_eq_eq_not, Bool.true_eq_false, Bool.false_eq_true, reduceCtorEq]; done) | (simp only [sp_personIs, FB, FF, FK, FN, FS, FM, FZ, fnd, becS, bitS, sN, mv, aN, aF, aK, aH, aT, aS, aW, aZ, aU, b_3, eq_self, ne_eq, not_true_eq_false, not_false_eq_true, Classical.not_not, decide_true, decide_false, and_true, true_and, and_false, false_and, and_self, or_true, true_or, or_false, false_or, or_self, if_true, if_false, ite_true, ite_false, Bool.eq_false_iff, Bool.not_eq_eq_eq_not, Bool.true_eq_false, Bool.false_eq_true, reduceCtorEq]; rfl) | (simp [becS, bitS, sp_personIs, FB, FF, FK, FN, FS, FM, FZ, fnd, mv, aN, b_3]; done)
    · try simp only [mv_now, mv_fnd, mv_tap, mv_kep]
      first | (simp only [up_at, sN, becS, bitS, sp_personIs, FB, FF, FK, FN, FS, FM, FZ, fnd, mv, aN, aF, aK, aH, aT, aS, aW, aZ, aU, b_3, eq_self, ne_eq, not_true_eq_false, not_false_eq_true, Classical.not_not, decide_true, decide_false, and_true, true_and, and_false, false_and, and_self, or_true, true_or, or_false, false_or, or_self, if_true, if_false, ite_true, ite_false, Bool.eq_false_iff, Bool.not_eq_eq_eq_not, Bool.true_eq_false, Bool.false_eq_true, reduceCtorEq]; done) | (simp only [up_at, sN, becS, bitS, sp_personIs, FB, FF, FK, FN, FS, FM, FZ, fnd, mv, aN, aF, aK, aH, aT, aS, aW, aZ, aU, b_3, eq_self, ne_eq, not_true_eq_false, not_false_eq_true, Classical.not_not, decide_true, decide_false, and_true, true_and, and_false, false_and, and_self, or_true, true_or, or_false, false_or, or_self, if_true, if_false, ite_true, ite_false, Bool.eq_false_iff, Bool.not_eq_eq_eq_not, Bool.true_eq_false, Bool.false_eq_true, reduceCtorEq]; rfl) | (simp [mv_now, mv_fnd, up_at, sN, becS, bitS, sp_personIs, FB, FF, FK, FN, FS, FM, FZ, fnd, mv, aN, b_3]; done)
    · repeat first | exact (fun _ _ => rfl) | refine frU (by decide) ?_
    · repeat first | exact id | refine mtU (by decide) ?_

theorem m_paper {d : Nat} (hd : 3 ≤ d) (σ : Sg) (hI : INV (σ 136)) (p k h : Int32) : CP d mX12_paper [.ref 135, .int p, .int k, .int h] σ (MPo σ (sp_paper (mv σ) p k h)) := by
  refine con_of (by decide) (catL rfl) (Nat.le_of_ble_eq_true rfl) ?_
  intro μ ω C hr
  have C : Cx μ ω "TowFieldModel" cX12_paper 4 d := C
  have hr : (mH μ).sig.returnType = some .int := hr
  show G μ ω (RQ μ ω (pP (MPo σ (sp_paper (mv σ) p k h)))) 0 [some (.ref 135), some (.int p), some (.int k), some (.int h)] [] (mk σ) 0 0
  refine g_al0n (pc := 0) C dX12_paper_0 ?_
  refine g_il1n (pc := 1) C dX12_paper_1 ?_
  refine g_iconst (pc := 2) (v := 4) C dX12_paper_2 (by decide) ?_
  refine s_VB (pc := 3) (st := []) C h135 rfl (c_X12_isE (d := d - 1) (by omega) σ p (c := 4) (by decide) rfl) (by omega) lX12_71 dX12_paper_3 rfl (Nat.le_of_ble_eq_true rfl) rfl (fun b_3 => ?_) (fun b_3 => ?_)
  · have hn4 := hI.n4.2
    obtain ⟨j, hj, rfl⟩ := (is_iff hI.n4.1 (by have := hI.n4.2; omega)).mp b_3
    have kj : (nI j).toNatClampNeg = j := nI_clamp (by omega)
    refine g_if_eq (pc := 6) (tgt := 36) C dX12_paper_6 (by decide) (fun c => absurd c (by decide)) (fun _ => ?_)
    refine g_il2n (pc := 9) C dX12_paper_9 ?_
    refine g_iconst (pc := 10) (v := 1) C dX12_paper_10 (by decide) ?_
    refine g_bipush (pc := 11) (v := 6) C dX12_paper_11 (by decide) ?_
    refine s_SB (pc := 13) (st := []) C (c_X12_within (d := d - 1) (by omega) σ k 1 6) (by omega) lX12_58 dX12_paper_13 rfl (Nat.le_of_ble_eq_true rfl) rfl (fun b_13 => ?_) (fun b_13 => ?_)
    · refine g_if_eq (pc := 16) (tgt := 36) C dX12_paper_16 (by decide) (fun c => absurd c (by decide)) (fun _ => ?_)
      refine g_al0n (pc := 19) C dX12_paper_19 ?_
      refine g_bipush (pc := 20) (v := 90) C dX12_paper_20 (by decide) ?_
      refine g_iconst (pc := 22) (v := 4) C dX12_paper_22 (by decide) ?_
      refine g_il1n (pc := 23) C dX12_paper_23 ?_
      refine g_imul (pc := 24) C dX12_paper_24 ?_
      refine g_iadd (pc := 25) C dX12_paper_25 ?_
      refine g_iconst (pc := 26) (v := 1) C dX12_paper_26 (by decide) ?_
      refine g_iadd (pc := 27) C dX12_paper_27 ?_
      refine g_il2n (pc := 28) C dX12_paper_28 ?_
      refine g_il3n (pc := 29) C dX12_paper_29 ?_
      refine s_VI (pc := 30) (st := []) C h135 rfl (c_X12_bitE (d := d - 1) (by omega) σ (q := (90 + (4 * j)) + 1) (by omega) (by first | (simp only [ixl, nI_add, pk_mul]; done) | rfl | decide) k h) (by omega) lX12_88 dX12_paper_30 rfl (Nat.le_of_ble_eq_true rfl) rfl ?_
      refine g_goto (pc := 33) (tgt := 42) C dX12_paper_33 (by decide) ?_
      refine r_P C hr dX12_paper_42 ⟨?_, ?_, ?_, ?_⟩
      · first | (simp only [sp_paper, FB, FF, FK, FN, FS, FM, FZ, fnd, becS, bitS, sN, mv, aN, aF, aK, aH, aT, aS, aW, aZ, aU, b_3, b_13, kj, eq_self, ne_eq, not_true_eq_false, not_false_eq_true, Classical.not_not, decide_true, decide_false, and_true, true_and, and_false, false_and, and_self, or_true, true_or, or_false, false_or, or_self, if_true, if_false, ite_true, ite_false, Bool.eq_false_iff, Bool.not_eq_eq_eq_not, Bool.true_eq_false, Bool.false_eq_true, reduceCtorEq]; done) | (simp only [sp_paper, FB, FF, FK, FN, FS, FM, FZ, fnd, becS, bitS, sN, mv, aN, aF, aK, aH, aT, aS, aW, aZ, aU, b_3, b_13, kj, eq_self, ne_eq, not_true_eq_false, not_false_eq_true, Classical.not_not, decide_true, decide_false, and_true, true_and, and_false, false_and, and_self, or_true, true_or, or_false, false_or, or_self, if_true, if_false, ite_true, ite_false, Bool.eq_false_iff, Bool.not_eq_eq_eq_not, Bool.true_eq_false, Bool.false_eq_true, reduceCtorEq]; rfl) | (simp [becS, bitS, sp_paper, FB, FF, FK, FN, FS, FM, FZ, fnd, mv, aN, b_3, b_13, kj]; done)
      · try simp only [mv_now, mv_fnd, mv_tap, mv_kep]
        first | (simp only [up_at, sN, becS, bitS, sp_paper, FB, FF, FK, FN, FS, FM, FZ, fnd, mv, aN, aF, aK, aH, aT, aS, aW, aZ, aU, b_3, b_13, kj, eq_self, ne_eq, not_true_eq_false, not_false_eq_true, Classical.not_not, decide_true, decide_false, and_true, true_and, and_false, false_and, and_self, or_true, true_or, or_false, false_or, or_self, if_true, if_false, ite_true, ite_false, Bool.eq_false_iff, Bool.not_eq_eq_eq_not, Bool.true_eq_false, Bool.false_eq_true, reduceCtorEq]; done) | (simp only [up_at, sN, becS, bitS, sp_paper, FB, FF, FK, FN, FS, FM, FZ, fnd, mv, aN, aF, aK, aH, aT, aS, aW, aZ, aU, b_3, b_13, kj, eq_self, ne_eq, not_true_eq_false, not_false_eq_true, Classical.not_not, decide_true, decide_false, and_true, true_and, and_false, false_and, and_self, or_true, true_or, or_false, false_or, or_self, if_true, if_false, ite_true, ite_false, Bool.eq_false_iff, Bool.not_eq_eq_eq_not, Bool.true_eq_false, Bool.false_eq_true, reduceCtorEq]; rfl) | (simp [mv_now, mv_fnd, up_at, sN, becS, bitS, sp_paper, FB, FF, FK, FN, FS, FM, FZ, fnd, mv, aN, b_3, b_13, kj]; done)
      · repeat first | exact (fun _ _ => rfl) | refine frU (by decide) ?_
      · repeat first | exact id | refine mtU (by decide) ?_
    · refine g_if_eq (pc := 16) (tgt := 36) C dX12_paper_16 (by decide) (fun _ => ?_) (fun c => absurd c (by decide))
      refine g_al0n (pc := 36) C dX12_paper_36 ?_
      refine g_ldc (pc := 37) C dX12_paper_37 kX12_57 ?_
      refine s_VI (pc := 39) (st := []) C h135 rfl (c_X12_finding (d := d - 1) (by omega) σ (i := 0) (by decide) (w := ((-1000001))) (by decide)) (by omega) lX12_62 dX12_paper_39 rfl (Nat.le_of_ble_eq_true rfl) rfl ?_
      refine r_P C hr dX12_paper_42 ⟨?_, ?_, ?_, ?_⟩
      · first | (simp only [sp_paper, FB, FF, FK, FN, FS, FM, FZ, fnd, becS, bitS, sN, mv, aN, aF, aK, aH, aT, aS, aW, aZ, aU, b_3, b_13, kj, eq_self, ne_eq, not_true_eq_false, not_false_eq_true, Classical.not_not, decide_true, decide_false, and_true, true_and, and_false, false_and, and_self, or_true, true_or, or_false, false_or, or_self, if_true, if_false, ite_true, ite_false, Bool.eq_false_iff, Bool.not_eq_eq_eq_not, Bool.true_eq_false, Bool.false_eq_true, reduceCtorEq]; done) | (simp only [sp_paper, FB, FF, FK, FN, FS, FM, FZ, fnd, becS, bitS, sN, mv, aN, aF, aK, aH, aT, aS, aW, aZ, aU, b_3, b_13, kj, eq_self, ne_eq, not_true_eq_false, not_false_eq_true, Classical.not_not, decide_true, decide_false, and_true, true_and, and_false, false_and, and_self, or_true, true_or, or_false, false_or, or_self, if_true, if_false, ite_true, ite_false, Bool.eq_false_iff, Bool.not_eq_eq_eq_not, Bool.true_eq_false, Bool.false_eq_true, reduceCtorEq]; rfl) | (simp [becS, bitS, sp_paper, FB, FF, FK, FN, FS, FM, FZ, fnd, mv, aN, b_3, b_13, kj]; done)
      · try simp only [mv_now, mv_fnd, mv_tap, mv_kep]
        first | (simp only [up_at, sN, becS, bitS, sp_paper, FB, FF, FK, FN, FS, FM, FZ, fnd, mv, aN, aF, aK, aH, aT, aS, aW, aZ, aU, b_3, b_13, kj, eq_self, ne_eq, not_true_eq_false, not_false_eq_true, Classical.not_not, decide_true, decide_false, and_true, true_and, and_false, false_and, and_self, or_true, true_or, or_false, false_or, or_self, if_true, if_false, ite_true, ite_false, Bool.eq_false_iff, Bool.not_eq_eq_eq_not, Bool.true_eq_false, Bool.false_eq_true, reduceCtorEq]; done) | (simp only [up_at, sN, becS, bitS, sp_paper, FB, FF, FK, FN, FS, FM, FZ, fnd, mv, aN, aF, aK, aH, aT, aS, aW, aZ, aU, b_3, b_13, kj, eq_self, ne_eq, not_true_eq_false, not_false_eq_true, Classical.not_not, decide_true, decide_false, and_true, true_and, and_false, false_and, and_self, or_true, true_or, or_false, false_or, or_self, if_true, if_false, ite_true, ite_false, Bool.eq_false_iff, Bool.not_eq_eq_eq_not, Bool.true_eq_false, Bool.false_eq_true, reduceCtorEq]; rfl) | (simp [mv_now, mv_fnd, up_at, sN, becS, bitS, sp_paper, FB, FF, FK, FN, FS, FM, FZ, fnd, mv, aN, b_3, b_13, kj]; done)
      · repeat first | exact (fun _ _ => rfl) | refine frU (by decide) ?_
      · repeat first | exact id | refine mtU (by decide) ?_
  · refine g_if_eq (pc := 6) (tgt := 36) C dX12_paper_6 (by decide) (fun _ => ?_) (fun c => absurd c (by decide))
    refine g_al0n (pc := 36) C dX12_paper_36 ?_
    refine g_ldc (pc := 37) C dX12_paper_37 kX12_57 ?_
    refine s_VI (pc := 39) (st := []) C h135 rfl (c_X12_finding (d := d - 1) (by omega) σ (i := 0) (by decide) (w := ((-1000001))) (by decide)) (by omega) lX12_62 dX12_paper_39 rfl (Nat.le_of_ble_eq_true rfl) rfl ?_
    refine r_P C hr dX12_paper_42 ⟨?_, ?_, ?_, ?_⟩
    · first | (simp only [sp_paper, FB, FF, FK, FN, FS, FM, FZ, fnd, becS, bitS, sN, mv, aN, aF, aK, aH, aT, aS, aW, aZ, aU, b_3, eq_self, ne_eq, not_true_eq_false, not_false_eq_true, Classical.not_not, decide_true, decide_false, and_true, true_and, and_false, false_and, and_self, or_true, true_or, or_false, false_or, or_self, if_true, if_false, ite_true, ite_false, Bool.eq_false_iff, Bool.not_eq_eq_eq_not, Bool.true_eq_false, Bool.false_eq_true, reduceCtorEq]; done) | (simp only [sp_paper, FB, FF, FK, FN, FS, FM, FZ, fnd, becS, bitS, sN, mv, aN, aF, aK, aH, aT, aS, aW, aZ, aU, b_3, eq_self, ne_eq, not_true_eq_false, not_false_eq_true, Classical.not_not, decide_true, decide_false, and_true, true_and, and_false, false_and, and_self, or_true, true_or, or_false, false_or, or_self, if_true, if_false, ite_true, ite_false, Bool.eq_false_iff, Bool.not_eq_eq_eq_not, Bool.true_eq_false, Bool.false_eq_true, reduceCtorEq]; rfl) | (simp [becS, bitS, sp_paper, FB, FF, FK, FN, FS, FM, FZ, fnd, mv, aN, b_3]; done)
    · try simp only [mv_now, mv_fnd, mv_tap, mv_kep]
      first | (simp only [up_at, sN, becS, bitS, sp_paper, FB, FF, FK, FN, FS, FM, FZ, fnd, mv, aN, aF, aK, aH, aT, aS, aW, aZ, aU, b_3, eq_self, ne_eq, not_true_eq_false, not_false_eq_true, Classical.not_not, decide_true, decide_false, and_true, true_and, and_false, false_and, and_self, or_true, true_or, or_false, false_or, or_self, if_true, if_false, ite_true, ite_false, Bool.eq_false_iff, Bool.not_eq_eq_eq_not, Bool.true_eq_false, Bool.false_eq_true, reduceCtorEq]; done) | (simp only [up_at, sN, becS, bitS, sp_paper, FB, FF, FK, FN, FS, FM, FZ, fnd, mv, aN, aF, aK, aH, aT, aS, aW, aZ, aU, b_3, eq_self, ne_eq, not_true_eq_false, not_false_eq_true, Classical.not_not, decide_true, decide_false, and_true, true_and, and_false, false_and, and_self, or_true, true_or, or_false, false_or, or_self, if_true, if_false, ite_true, ite_false, Bool.eq_false_iff, Bool.not_eq_eq_eq_not, Bool.true_eq_false, Bool.false_eq_true, reduceCtorEq]; rfl) | (simp [mv_now, mv_fnd, up_at, sN, becS, bitS, sp_paper, FB, FF, FK, FN, FS, FM, FZ, fnd, mv, aN, b_3]; done)
    · repeat first | exact (fun _ _ => rfl) | refine frU (by decide) ?_
    · repeat first | exact id | refine mtU (by decide) ?_

theorem m_rope {d : Nat} (hd : 3 ≤ d) (σ : Sg) (hI : INV (σ 136)) (w r f : Int32) : CP d mX12_rope [.ref 135, .int w, .int r, .int f] σ (MPo σ (sp_rope (mv σ) w r f)) := by
  refine con_of (by decide) (catL rfl) (Nat.le_of_ble_eq_true rfl) ?_
  intro μ ω C hr
  have C : Cx μ ω "TowFieldModel" cX12_rope 4 d := C
  have hr : (mH μ).sig.returnType = some .int := hr
  show G μ ω (RQ μ ω (pP (MPo σ (sp_rope (mv σ) w r f)))) 0 [some (.ref 135), some (.int w), some (.int r), some (.int f)] [] (mk σ) 0 0
  refine g_al0n (pc := 0) C dX12_rope_0 ?_
  refine g_il1n (pc := 1) C dX12_rope_1 ?_
  refine g_iconst (pc := 2) (v := 5) C dX12_rope_2 (by decide) ?_
  refine s_VB (pc := 3) (st := []) C h135 rfl (c_X12_isE (d := d - 1) (by omega) σ w (c := 5) (by decide) rfl) (by omega) lX12_71 dX12_rope_3 rfl (Nat.le_of_ble_eq_true rfl) rfl (fun b_3 => ?_) (fun b_3 => ?_)
  · have hn5 := hI.n5.2
    obtain ⟨j, hj, rfl⟩ := (is_iff hI.n5.1 (by have := hI.n5.2; omega)).mp b_3
    have kj : (nI j).toNatClampNeg = j := nI_clamp (by omega)
    refine g_if_eq (pc := 6) (tgt := 27) C dX12_rope_6 (by decide) (fun c => absurd c (by decide)) (fun _ => ?_)
    refine g_il2n (pc := 9) C dX12_rope_9 ?_
    refine g_iconst (pc := 10) (v := 0) C dX12_rope_10 (by decide) ?_
    refine g_iconst (pc := 11) (v := 1) C dX12_rope_11 (by decide) ?_
    refine s_SB (pc := 12) (st := []) C (c_X12_within (d := d - 1) (by omega) σ r 0 1) (by omega) lX12_58 dX12_rope_12 rfl (Nat.le_of_ble_eq_true rfl) rfl (fun b_12 => ?_) (fun b_12 => ?_)
    · obtain ⟨i, hi, rfl⟩ := rgL b_12 (by decide) (B := 1) (by decide)
      have ki : (nI i).toNatClampNeg = i := nI_clamp (by omega)
      refine g_if_eq (pc := 15) (tgt := 27) C dX12_rope_15 (by decide) (fun c => absurd c (by decide)) (fun _ => ?_)
      refine g_il3n (pc := 18) C dX12_rope_18 ?_
      refine g_iconst (pc := 19) (v := 0) C dX12_rope_19 (by decide) ?_
      refine g_iconst (pc := 20) (v := 1) C dX12_rope_20 (by decide) ?_
      refine s_SB (pc := 21) (st := []) C (c_X12_within (d := d - 1) (by omega) σ f 0 1) (by omega) lX12_58 dX12_rope_21 rfl (Nat.le_of_ble_eq_true rfl) rfl (fun b_21 => ?_) (fun b_21 => ?_)
      · obtain ⟨q, hq, rfl⟩ := rgL b_21 (by decide) (B := 1) (by decide)
        have kq : (nI q).toNatClampNeg = q := nI_clamp (by omega)
        refine g_if_ne (pc := 24) (tgt := 34) C dX12_rope_24 (by decide) (fun _ => ?_) (fun c => absurd c (by decide))
        refine g_al0n (pc := 34) C dX12_rope_34 ?_
        refine s_getR (pc := 35) C fX12_9 h135 rfl dX12_rope_35 ?_
        refine g_il1n (pc := 38) C dX12_rope_38 ?_
        refine g_il2n (pc := 39) C dX12_rope_39 ?_
        refine s_SI (pc := 40) (st := [(.ref 136)]) C (c_X12_ropeAt (d := d - 1) (by omega) σ j i) (by omega) lX12_92 dX12_rope_40 rfl (Nat.le_of_ble_eq_true rfl) rfl ?_
        refine g_il3n (pc := 43) C dX12_rope_43 ?_
        refine g_iadd (pc := 44) C dX12_rope_44 ?_
        refine s_iald (pc := 45) (q := 33 + 4 * j + 2 * i + q) C h136 (by first | (simp only [ixl, nI_add, pk_mul]; done) | rfl | decide) (by omega) (Nat.le_of_ble_eq_true rfl) dX12_rope_45 ?_
        refine r_P C hr dX12_rope_46 ⟨?_, ?_, ?_, ?_⟩
        · first | (simp only [sp_rope, FB, FF, FK, FN, FS, FM, FZ, fnd, becS, bitS, sN, mv, aN, aF, aK, aH, aT, aS, aW, aZ, aU, b_3, b_12, b_21, kj, ki, kq, eq_self, ne_eq, not_true_eq_false, not_false_eq_true, Classical.not_not, decide_true, decide_false, and_true, true_and, and_false, false_and, and_self, or_true, true_or, or_false, false_or, or_self, if_true, if_false, ite_true, ite_false, Bool.eq_false_iff, Bool.not_eq_eq_eq_not, Bool.true_eq_false, Bool.false_eq_true, reduceCtorEq]; done) | (simp only [sp_rope, FB, FF, FK, FN, FS, FM, FZ, fnd, becS, bitS, sN, mv, aN, aF, aK, aH, aT, aS, aW, aZ, aU, b_3, b_12, b_21, kj, ki, kq, eq_self, ne_eq, not_true_eq_false, not_false_eq_true, Classical.not_not, decide_true, decide_false, and_true, true_and, and_false, false_and, and_self, or_true, true_or, or_false, false_or, or_self, if_true, if_false, ite_true, ite_false, Bool.eq_false_iff, Bool.not_eq_eq_eq_not, Bool.true_eq_false, Bool.false_eq_true, reduceCtorEq]; rfl) | (simp [becS, bitS, sp_rope, FB, FF, FK, FN, FS, FM, FZ, fnd, mv, aN, b_3, b_12, b_21, kj, ki, kq]; done)
        · try simp only [mv_now, mv_fnd, mv_tap, mv_kep]
          first | (simp only [up_at, sN, becS, bitS, sp_rope, FB, FF, FK, FN, FS, FM, FZ, fnd, mv, aN, aF, aK, aH, aT, aS, aW, aZ, aU, b_3, b_12, b_21, kj, ki, kq, eq_self, ne_eq, not_true_eq_false, not_false_eq_true, Classical.not_not, decide_true, decide_false, and_true, true_and, and_false, false_and, and_self, or_true, true_or, or_false, false_or, or_self, if_true, if_false, ite_true, ite_false, Bool.eq_false_iff, Bool.not_eq_eq_eq_not, Bool.true_eq_false, Bool.false_eq_true, reduceCtorEq]; done) | (simp only [up_at, sN, becS, bitS, sp_rope, FB, FF, FK, FN, FS, FM, FZ, fnd, mv, aN, aF, aK, aH, aT, aS, aW, aZ, aU, b_3, b_12, b_21, kj, ki, kq, eq_self, ne_eq, not_true_eq_false, not_false_eq_true, Classical.not_not, decide_true, decide_false, and_true, true_and, and_false, false_and, and_self, or_true, true_or, or_false, false_or, or_self, if_true, if_false, ite_true, ite_false, Bool.eq_false_iff, Bool.not_eq_eq_eq_not, Bool.true_eq_false, Bool.false_eq_true, reduceCtorEq]; rfl) | (simp [mv_now, mv_fnd, up_at, sN, becS, bitS, sp_rope, FB, FF, FK, FN, FS, FM, FZ, fnd, mv, aN, b_3, b_12, b_21, kj, ki, kq]; done)
        · repeat first | exact (fun _ _ => rfl) | refine frU (by decide) ?_
        · repeat first | exact id | refine mtU (by decide) ?_
      · refine g_if_ne (pc := 24) (tgt := 34) C dX12_rope_24 (by decide) (fun c => absurd c (by decide)) (fun _ => ?_)
        refine g_al0n (pc := 27) C dX12_rope_27 ?_
        refine g_ldc (pc := 28) C dX12_rope_28 kX12_57 ?_
        refine s_VI (pc := 30) (st := []) C h135 rfl (c_X12_finding (d := d - 1) (by omega) σ (i := 0) (by decide) (w := ((-1000001))) (by decide)) (by omega) lX12_62 dX12_rope_30 rfl (Nat.le_of_ble_eq_true rfl) rfl ?_
        refine r_P C hr dX12_rope_33 ⟨?_, ?_, ?_, ?_⟩
        · first | (simp only [sp_rope, FB, FF, FK, FN, FS, FM, FZ, fnd, becS, bitS, sN, mv, aN, aF, aK, aH, aT, aS, aW, aZ, aU, b_3, b_12, b_21, kj, ki, eq_self, ne_eq, not_true_eq_false, not_false_eq_true, Classical.not_not, decide_true, decide_false, and_true, true_and, and_false, false_and, and_self, or_true, true_or, or_false, false_or, or_self, if_true, if_false, ite_true, ite_false, Bool.eq_false_iff, Bool.not_eq_eq_eq_not, Bool.true_eq_false, Bool.false_eq_true, reduceCtorEq]; done) | (simp only [sp_rope, FB, FF, FK, FN, FS, FM, FZ, fnd, becS, bitS, sN, mv, aN, aF, aK, aH, aT, aS, aW, aZ, aU, b_3, b_12, b_21, kj, ki, eq_self, ne_eq, not_true_eq_false, not_false_eq_true, Classical.not_not, decide_true, decide_false, and_true, true_and, and_false, false_and, and_self, or_true, true_or, or_false, false_or, or_self, if_true, if_false, ite_true, ite_false, Bool.eq_false_iff, Bool.not_eq_eq_eq_not, Bool.true_eq_false, Bool.false_eq_true, reduceCtorEq]; rfl) | (simp [becS, bitS, sp_rope, FB, FF, FK, FN, FS, FM, FZ, fnd, mv, aN, b_3, b_12, b_21, kj, ki]; done)
        · try simp only [mv_now, mv_fnd, mv_tap, mv_kep]
          first | (simp only [up_at, sN, becS, bitS, sp_rope, FB, FF, FK, FN, FS, FM, FZ, fnd, mv, aN, aF, aK, aH, aT, aS, aW, aZ, aU, b_3, b_12, b_21, kj, ki, eq_self, ne_eq, not_true_eq_false, not_false_eq_true, Classical.not_not, decide_true, decide_false, and_true, true_and, and_false, false_and, and_self, or_true, true_or, or_false, false_or, or_self, if_true, if_false, ite_true, ite_false, Bool.eq_false_iff, Bool.not_eq_eq_eq_not, Bool.true_eq_false, Bool.false_eq_true, reduceCtorEq]; done) | (simp only [up_at, sN, becS, bitS, sp_rope, FB, FF, FK, FN, FS, FM, FZ, fnd, mv, aN, aF, aK, aH, aT, aS, aW, aZ, aU, b_3, b_12, b_21, kj, ki, eq_self, ne_eq, not_true_eq_false, not_false_eq_true, Classical.not_not, decide_true, decide_false, and_true, true_and, and_false, false_and, and_self, or_true, true_or, or_false, false_or, or_self, if_true, if_false, ite_true, ite_false, Bool.eq_false_iff, Bool.not_eq_eq_eq_not, Bool.true_eq_false, Bool.false_eq_true, reduceCtorEq]; rfl) | (simp [mv_now, mv_fnd, up_at, sN, becS, bitS, sp_rope, FB, FF, FK, FN, FS, FM, FZ, fnd, mv, aN, b_3, b_12, b_21, kj, ki]; done)
        · repeat first | exact (fun _ _ => rfl) | refine frU (by decide) ?_
        · repeat first | exact id | refine mtU (by decide) ?_
    · refine g_if_eq (pc := 15) (tgt := 27) C dX12_rope_15 (by decide) (fun _ => ?_) (fun c => absurd c (by decide))
      refine g_al0n (pc := 27) C dX12_rope_27 ?_
      refine g_ldc (pc := 28) C dX12_rope_28 kX12_57 ?_
      refine s_VI (pc := 30) (st := []) C h135 rfl (c_X12_finding (d := d - 1) (by omega) σ (i := 0) (by decide) (w := ((-1000001))) (by decide)) (by omega) lX12_62 dX12_rope_30 rfl (Nat.le_of_ble_eq_true rfl) rfl ?_
      refine r_P C hr dX12_rope_33 ⟨?_, ?_, ?_, ?_⟩
      · first | (simp only [sp_rope, FB, FF, FK, FN, FS, FM, FZ, fnd, becS, bitS, sN, mv, aN, aF, aK, aH, aT, aS, aW, aZ, aU, b_3, b_12, kj, eq_self, ne_eq, not_true_eq_false, not_false_eq_true, Classical.not_not, decide_true, decide_false, and_true, true_and, and_false, false_and, and_self, or_true, true_or, or_false, false_or, or_self, if_true, if_false, ite_true, ite_false, Bool.eq_false_iff, Bool.not_eq_eq_eq_not, Bool.true_eq_false, Bool.false_eq_true, reduceCtorEq]; done) | (simp only [sp_rope, FB, FF, FK, FN, FS, FM, FZ, fnd, becS, bitS, sN, mv, aN, aF, aK, aH, aT, aS, aW, aZ, aU, b_3, b_12, kj, eq_self, ne_eq, not_true_eq_false, not_false_eq_true, Classical.not_not, decide_true, decide_false, and_true, true_and, and_false, false_and, and_self, or_true, true_or, or_false, false_or, or_self, if_true, if_false, ite_true, ite_false, Bool.eq_false_iff, Bool.not_eq_eq_eq_not, Bool.true_eq_false, Bool.false_eq_true, reduceCtorEq]; rfl) | (simp [becS, bitS, sp_rope, FB, FF, FK, FN, FS, FM, FZ, fnd, mv, aN, b_3, b_12, kj]; done)
      · try simp only [mv_now, mv_fnd, mv_tap, mv_kep]
        first | (simp only [up_at, sN, becS, bitS, sp_rope, FB, FF, FK, FN, FS, FM, FZ, fnd, mv, aN, aF, aK, aH, aT, aS, aW, aZ, aU, b_3, b_12, kj, eq_self, ne_eq, not_true_eq_false, not_false_eq_true, Classical.not_not, decide_true, decide_false, and_true, true_and, and_false, false_and, and_self, or_true, true_or, or_false, false_or, or_self, if_true, if_false, ite_true, ite_false, Bool.eq_false_iff, Bool.not_eq_eq_eq_not, Bool.true_eq_false, Bool.false_eq_true, reduceCtorEq]; done) | (simp only [up_at, sN, becS, bitS, sp_rope, FB, FF, FK, FN, FS, FM, FZ, fnd, mv, aN, aF, aK, aH, aT, aS, aW, aZ, aU, b_3, b_12, kj, eq_self, ne_eq, not_true_eq_false, not_false_eq_true, Classical.not_not, decide_true, decide_false, and_true, true_and, and_false, false_and, and_self, or_true, true_or, or_false, false_or, or_self, if_true, if_false, ite_true, ite_false, Bool.eq_false_iff, Bool.not_eq_eq_eq_not, Bool.true_eq_false, Bool.false_eq_true, reduceCtorEq]; rfl) | (simp [mv_now, mv_fnd, up_at, sN, becS, bitS, sp_rope, FB, FF, FK, FN, FS, FM, FZ, fnd, mv, aN, b_3, b_12, kj]; done)
      · repeat first | exact (fun _ _ => rfl) | refine frU (by decide) ?_
      · repeat first | exact id | refine mtU (by decide) ?_
  · refine g_if_eq (pc := 6) (tgt := 27) C dX12_rope_6 (by decide) (fun _ => ?_) (fun c => absurd c (by decide))
    refine g_al0n (pc := 27) C dX12_rope_27 ?_
    refine g_ldc (pc := 28) C dX12_rope_28 kX12_57 ?_
    refine s_VI (pc := 30) (st := []) C h135 rfl (c_X12_finding (d := d - 1) (by omega) σ (i := 0) (by decide) (w := ((-1000001))) (by decide)) (by omega) lX12_62 dX12_rope_30 rfl (Nat.le_of_ble_eq_true rfl) rfl ?_
    refine r_P C hr dX12_rope_33 ⟨?_, ?_, ?_, ?_⟩
    · first | (simp only [sp_rope, FB, FF, FK, FN, FS, FM, FZ, fnd, becS, bitS, sN, mv, aN, aF, aK, aH, aT, aS, aW, aZ, aU, b_3, eq_self, ne_eq, not_true_eq_false, not_false_eq_true, Classical.not_not, decide_true, decide_false, and_true, true_and, and_false, false_and, and_self, or_true, true_or, or_false, false_or, or_self, if_true, if_false, ite_true, ite_false, Bool.eq_false_iff, Bool.not_eq_eq_eq_not, Bool.true_eq_false, Bool.false_eq_true, reduceCtorEq]; done) | (simp only [sp_rope, FB, FF, FK, FN, FS, FM, FZ, fnd, becS, bitS, sN, mv, aN, aF, aK, aH, aT, aS, aW, aZ, aU, b_3, eq_self, ne_eq, not_true_eq_false, not_false_eq_true, Classical.not_not, decide_true, decide_false, and_true, true_and, and_false, false_and, and_self, or_true, true_or, or_false, false_or, or_self, if_true, if_false, ite_true, ite_false, Bool.eq_false_iff, Bool.not_eq_eq_eq_not, Bool.true_eq_false, Bool.false_eq_true, reduceCtorEq]; rfl) | (simp [becS, bitS, sp_rope, FB, FF, FK, FN, FS, FM, FZ, fnd, mv, aN, b_3]; done)
    · try simp only [mv_now, mv_fnd, mv_tap, mv_kep]
      first | (simp only [up_at, sN, becS, bitS, sp_rope, FB, FF, FK, FN, FS, FM, FZ, fnd, mv, aN, aF, aK, aH, aT, aS, aW, aZ, aU, b_3, eq_self, ne_eq, not_true_eq_false, not_false_eq_true, Classical.not_not, decide_true, decide_false, and_true, true_and, and_false, false_and, and_self, or_true, true_or, or_false, false_or, or_self, if_true, if_false, ite_true, ite_false, Bool.eq_false_iff, Bool.not_eq_eq_eq_not, Bool.true_eq_false, Bool.false_eq_true, reduceCtorEq]; done) | (simp only [up_at, sN, becS, bitS, sp_rope, FB, FF, FK, FN, FS, FM, FZ, fnd, mv, aN, aF, aK, aH, aT, aS, aW, aZ, aU, b_3, eq_self, ne_eq, not_true_eq_false, not_false_eq_true, Classical.not_not, decide_true, decide_false, and_true, true_and, and_false, false_and, and_self, or_true, true_or, or_false, false_or, or_self, if_true, if_false, ite_true, ite_false, Bool.eq_false_iff, Bool.not_eq_eq_eq_not, Bool.true_eq_false, Bool.false_eq_true, reduceCtorEq]; rfl) | (simp [mv_now, mv_fnd, up_at, sN, becS, bitS, sp_rope, FB, FF, FK, FN, FS, FM, FZ, fnd, mv, aN, b_3]; done)
    · repeat first | exact (fun _ _ => rfl) | refine frU (by decide) ?_
    · repeat first | exact id | refine mtU (by decide) ?_

theorem m_broken {d : Nat} (hd : 3 ≤ d) (σ : Sg) (hI : INV (σ 136)) (w r : Int32) : CP d mX12_broken [.ref 135, .int w, .int r] σ (MPo σ (sp_broken (mv σ) w r)) := by
  refine con_of (by decide) (catL rfl) (Nat.le_of_ble_eq_true rfl) ?_
  intro μ ω C hr
  have C : Cx μ ω "TowFieldModel" cX12_broken 3 d := C
  have hr : (mH μ).sig.returnType = some .int := hr
  show G μ ω (RQ μ ω (pP (MPo σ (sp_broken (mv σ) w r)))) 0 [some (.ref 135), some (.int w), some (.int r)] [] (mk σ) 0 0
  refine g_al0n (pc := 0) C dX12_broken_0 ?_
  refine g_il1n (pc := 1) C dX12_broken_1 ?_
  refine g_iconst (pc := 2) (v := 5) C dX12_broken_2 (by decide) ?_
  refine s_VB (pc := 3) (st := []) C h135 rfl (c_X12_isE (d := d - 1) (by omega) σ w (c := 5) (by decide) rfl) (by omega) lX12_71 dX12_broken_3 rfl (Nat.le_of_ble_eq_true rfl) rfl (fun b_3 => ?_) (fun b_3 => ?_)
  · have hn5 := hI.n5.2
    obtain ⟨j, hj, rfl⟩ := (is_iff hI.n5.1 (by have := hI.n5.2; omega)).mp b_3
    have kj : (nI j).toNatClampNeg = j := nI_clamp (by omega)
    refine g_if_eq (pc := 6) (tgt := 18) C dX12_broken_6 (by decide) (fun c => absurd c (by decide)) (fun _ => ?_)
    refine g_il2n (pc := 9) C dX12_broken_9 ?_
    refine g_iconst (pc := 10) (v := 0) C dX12_broken_10 (by decide) ?_
    refine g_iconst (pc := 11) (v := 1) C dX12_broken_11 (by decide) ?_
    refine s_SB (pc := 12) (st := []) C (c_X12_within (d := d - 1) (by omega) σ r 0 1) (by omega) lX12_58 dX12_broken_12 rfl (Nat.le_of_ble_eq_true rfl) rfl (fun b_12 => ?_) (fun b_12 => ?_)
    · obtain ⟨i, hi, rfl⟩ := rgL b_12 (by decide) (B := 1) (by decide)
      have ki : (nI i).toNatClampNeg = i := nI_clamp (by omega)
      refine g_if_ne (pc := 15) (tgt := 25) C dX12_broken_15 (by decide) (fun _ => ?_) (fun c => absurd c (by decide))
      refine g_al0n (pc := 25) C dX12_broken_25 ?_
      refine s_getR (pc := 26) C fX12_9 h135 rfl dX12_broken_26 ?_
      refine g_il1n (pc := 29) C dX12_broken_29 ?_
      refine g_il2n (pc := 30) C dX12_broken_30 ?_
      refine s_SI (pc := 31) (st := [(.ref 136)]) C (c_X12_ropeAt (d := d - 1) (by omega) σ j i) (by omega) lX12_92 dX12_broken_31 rfl (Nat.le_of_ble_eq_true rfl) rfl ?_
      refine s_iald (pc := 34) (q := 33 + 4 * j + 2 * i) C h136 rfl (by omega) (Nat.le_of_ble_eq_true rfl) dX12_broken_34 ?_
      refine g_iconst (pc := 35) (v := 3) C dX12_broken_35 (by decide) ?_
      refine g_icmp_ne (pc := 36) (tgt := 46) C dX12_broken_36 (by decide) (fun c_36 => ?_) (fun c_36 => ?_)
      · refine g_al0n (pc := 46) C dX12_broken_46 ?_
        refine g_il1n (pc := 47) C dX12_broken_47 ?_
        refine g_il2n (pc := 48) C dX12_broken_48 ?_
        refine g_iconst (pc := 49) (v := 3) C dX12_broken_49 (by decide) ?_
        refine g_al0n (pc := 50) C dX12_broken_50 ?_
        refine s_getR (pc := 51) C fX12_9 h135 rfl dX12_broken_51 ?_
        refine g_iconst (pc := 54) (v := 0) C dX12_broken_54 (by decide) ?_
        refine s_iald (pc := 55) (q := 0) C h136 rfl (by omega) (Nat.le_of_ble_eq_true rfl) dX12_broken_55 ?_
        refine g_al0n (pc := 56) C dX12_broken_56 ?_
        refine s_getR (pc := 57) C fX12_9 h135 rfl dX12_broken_57 ?_
        refine g_bipush (pc := 60) (v := 28) C dX12_broken_60 (by decide) ?_
        refine s_iald (pc := 62) (q := 28) C h136 rfl (by omega) (Nat.le_of_ble_eq_true rfl) dX12_broken_62 ?_
        refine g_iadd (pc := 63) C dX12_broken_63 ?_
        refine s_VU (pc := 64) (st := []) C h135 rfl (c_X12_ropeIs (d := d - 1) (by omega) σ (w := j) (r := i) (by omega) (by omega) 3 ((σ 136 0) + (σ 136 28))) (by omega) lX12_96 dX12_broken_64 rfl (Nat.le_of_ble_eq_true rfl) rfl ?_
        refine g_al0n (pc := 67) C dX12_broken_67 ?_
        refine s_getR (pc := 68) C fX12_9 h135 rfl dX12_broken_68 ?_
        refine g_il1n (pc := 71) C dX12_broken_71 ?_
        refine g_il2n (pc := 72) C dX12_broken_72 ?_
        refine s_SI (pc := 73) (st := [(.ref 136)]) C (c_X12_ropeAt (d := d - 1) (by omega) ((up (up σ 136 (33 + 4 * j + 2 * i) 3) 136 (33 + 4 * j + 2 * i + 1) ((σ 136 0) + (σ 136 28)))) j i) (by omega) lX12_92 dX12_broken_73 rfl (Nat.le_of_ble_eq_true rfl) rfl ?_
        refine g_iconst (pc := 76) (v := 1) C dX12_broken_76 (by decide) ?_
        refine g_iadd (pc := 77) C dX12_broken_77 ?_
        refine s_iald (pc := 78) (q := 33 + 4 * j + 2 * i + 1) C h136 (by first | (simp only [ixl, nI_add, pk_mul]; done) | rfl | decide) (by omega) (Nat.le_of_ble_eq_true rfl) dX12_broken_78 ?_
        refine r_P C hr dX12_broken_79 ⟨?_, ?_, ?_, ?_⟩
        · first | (simp only [sp_broken, FB, FF, FK, FN, FS, FM, FZ, fnd, becS, bitS, sN, mv, aN, aF, aK, aH, aT, aS, aW, aZ, aU, b_3, b_12, c_36, kj, ki, up_at, upd_at, ropeS, eq_self, ne_eq, not_true_eq_false, not_false_eq_true, Classical.not_not, decide_true, decide_false, and_true, true_and, and_false, false_and, and_self, or_true, true_or, or_false, false_or, or_self, if_true, if_false, ite_true, ite_false, Bool.eq_false_iff, Bool.not_eq_eq_eq_not, Bool.true_eq_false, Bool.false_eq_true, reduceCtorEq]; done) | (simp only [sp_broken, FB, FF, FK, FN, FS, FM, FZ, fnd, becS, bitS, sN, mv, aN, aF, aK, aH, aT, aS, aW, aZ, aU, b_3, b_12, c_36, kj, ki, up_at, upd_at, ropeS, eq_self, ne_eq, not_true_eq_false, not_false_eq_true, Classical.not_not, decide_true, decide_false, and_true, true_and, and_false, false_and, and_self, or_true, true_or, or_false, false_or, or_self, if_true, if_false, ite_true, ite_false, Bool.eq_false_iff, Bool.not_eq_eq_eq_not, Bool.true_eq_false, Bool.false_eq_true, reduceCtorEq]; rfl) | (simp [becS, bitS, sp_broken, FB, FF, FK, FN, FS, FM, FZ, fnd, mv, aN, b_3, b_12, c_36, kj, ki, up_at, upd_at, ropeS]; done)
        · try simp only [mv_now, mv_fnd, mv_tap, mv_kep]
          first | (simp only [up_at, sN, becS, bitS, sp_broken, FB, FF, FK, FN, FS, FM, FZ, fnd, mv, aN, aF, aK, aH, aT, aS, aW, aZ, aU, b_3, b_12, c_36, kj, ki, up_at, upd_at, ropeS, eq_self, ne_eq, not_true_eq_false, not_false_eq_true, Classical.not_not, decide_true, decide_false, and_true, true_and, and_false, false_and, and_self, or_true, true_or, or_false, false_or, or_self, if_true, if_false, ite_true, ite_false, Bool.eq_false_iff, Bool.not_eq_eq_eq_not, Bool.true_eq_false, Bool.false_eq_true, reduceCtorEq]; done) | (simp only [up_at, sN, becS, bitS, sp_broken, FB, FF, FK, FN, FS, FM, FZ, fnd, mv, aN, aF, aK, aH, aT, aS, aW, aZ, aU, b_3, b_12, c_36, kj, ki, up_at, upd_at, ropeS, eq_self, ne_eq, not_true_eq_false, not_false_eq_true, Classical.not_not, decide_true, decide_false, and_true, true_and, and_false, false_and, and_self, or_true, true_or, or_false, false_or, or_self, if_true, if_false, ite_true, ite_false, Bool.eq_false_iff, Bool.not_eq_eq_eq_not, Bool.true_eq_false, Bool.false_eq_true, reduceCtorEq]; rfl) | (simp [mv_now, mv_fnd, up_at, sN, becS, bitS, sp_broken, FB, FF, FK, FN, FS, FM, FZ, fnd, mv, aN, b_3, b_12, c_36, kj, ki, up_at, upd_at, ropeS]; done)
        · repeat first | exact (fun _ _ => rfl) | refine frU (by decide) ?_
        · repeat first | exact id | refine mtU (by decide) ?_
      · refine g_al0n (pc := 39) C dX12_broken_39 ?_
        refine g_ldc (pc := 40) C dX12_broken_40 kX12_95 ?_
        refine s_VI (pc := 42) (st := []) C h135 rfl (c_X12_finding (d := d - 1) (by omega) σ (i := 4) (by decide) (w := ((-1000005))) (by decide)) (by omega) lX12_62 dX12_broken_42 rfl (Nat.le_of_ble_eq_true rfl) rfl ?_
        refine r_P C hr dX12_broken_45 ⟨?_, ?_, ?_, ?_⟩
        · first | (simp only [sp_broken, FB, FF, FK, FN, FS, FM, FZ, fnd, becS, bitS, sN, mv, aN, aF, aK, aH, aT, aS, aW, aZ, aU, b_3, b_12, c_36, kj, ki, up_at, upd_at, ropeS, eq_self, ne_eq, not_true_eq_false, not_false_eq_true, Classical.not_not, decide_true, decide_false, and_true, true_and, and_false, false_and, and_self, or_true, true_or, or_false, false_or, or_self, if_true, if_false, ite_true, ite_false, Bool.eq_false_iff, Bool.not_eq_eq_eq_not, Bool.true_eq_false, Bool.false_eq_true, reduceCtorEq]; done) | (simp only [sp_broken, FB, FF, FK, FN, FS, FM, FZ, fnd, becS, bitS, sN, mv, aN, aF, aK, aH, aT, aS, aW, aZ, aU, b_3, b_12, c_36, kj, ki, up_at, upd_at, ropeS, eq_self, ne_eq, not_true_eq_false, not_false_eq_true, Classical.not_not, decide_true, decide_false, and_true, true_and, and_false, false_and, and_self, or_true, true_or, or_false, false_or, or_self, if_true, if_false, ite_true, ite_false, Bool.eq_false_iff, Bool.not_eq_eq_eq_not, Bool.true_eq_false, Bool.false_eq_true, reduceCtorEq]; rfl) | (simp [becS, bitS, sp_broken, FB, FF, FK, FN, FS, FM, FZ, fnd, mv, aN, b_3, b_12, c_36, kj, ki, up_at, upd_at, ropeS]; done)
        · try simp only [mv_now, mv_fnd, mv_tap, mv_kep]
          first | (simp only [up_at, sN, becS, bitS, sp_broken, FB, FF, FK, FN, FS, FM, FZ, fnd, mv, aN, aF, aK, aH, aT, aS, aW, aZ, aU, b_3, b_12, c_36, kj, ki, up_at, upd_at, ropeS, eq_self, ne_eq, not_true_eq_false, not_false_eq_true, Classical.not_not, decide_true, decide_false, and_true, true_and, and_false, false_and, and_self, or_true, true_or, or_false, false_or, or_self, if_true, if_false, ite_true, ite_false, Bool.eq_false_iff, Bool.not_eq_eq_eq_not, Bool.true_eq_false, Bool.false_eq_true, reduceCtorEq]; done) | (simp only [up_at, sN, becS, bitS, sp_broken, FB, FF, FK, FN, FS, FM, FZ, fnd, mv, aN, aF, aK, aH, aT, aS, aW, aZ, aU, b_3, b_12, c_36, kj, ki, up_at, upd_at, ropeS, eq_self, ne_eq, not_true_eq_false, not_false_eq_true, Classical.not_not, decide_true, decide_false, and_true, true_and, and_false, false_and, and_self, or_true, true_or, or_false, false_or, or_self, if_true, if_false, ite_true, ite_false, Bool.eq_false_iff, Bool.not_eq_eq_eq_not, Bool.true_eq_false, Bool.false_eq_true, reduceCtorEq]; rfl) | (simp [mv_now, mv_fnd, up_at, sN, becS, bitS, sp_broken, FB, FF, FK, FN, FS, FM, FZ, fnd, mv, aN, b_3, b_12, c_36, kj, ki, up_at, upd_at, ropeS]; done)
        · repeat first | exact (fun _ _ => rfl) | refine frU (by decide) ?_
        · repeat first | exact id | refine mtU (by decide) ?_
    · refine g_if_ne (pc := 15) (tgt := 25) C dX12_broken_15 (by decide) (fun c => absurd c (by decide)) (fun _ => ?_)
      refine g_al0n (pc := 18) C dX12_broken_18 ?_
      refine g_ldc (pc := 19) C dX12_broken_19 kX12_57 ?_
      refine s_VI (pc := 21) (st := []) C h135 rfl (c_X12_finding (d := d - 1) (by omega) σ (i := 0) (by decide) (w := ((-1000001))) (by decide)) (by omega) lX12_62 dX12_broken_21 rfl (Nat.le_of_ble_eq_true rfl) rfl ?_
      refine r_P C hr dX12_broken_24 ⟨?_, ?_, ?_, ?_⟩
      · first | (simp only [sp_broken, FB, FF, FK, FN, FS, FM, FZ, fnd, becS, bitS, sN, mv, aN, aF, aK, aH, aT, aS, aW, aZ, aU, b_3, b_12, kj, up_at, upd_at, ropeS, eq_self, ne_eq, not_true_eq_false, not_false_eq_true, Classical.not_not, decide_true, decide_false, and_true, true_and, and_false, false_and, and_self, or_true, true_or, or_false, false_or, or_self, if_true, if_false, ite_true, ite_false, Bool.eq_false_iff, Bool.not_eq_eq_eq_not, Bool.true_eq_false, Bool.false_eq_true, reduceCtorEq]; done) | (simp only [sp_broken, FB, FF, FK, FN, FS, FM, FZ, fnd, becS, bitS, sN, mv, aN, aF, aK, aH, aT, aS, aW, aZ, aU, b_3, b_12, kj, up_at, upd_at, ropeS, eq_self, ne_eq, not_true_eq_false, not_false_eq_true, Classical.not_not, decide_true, decide_false, and_true, true_and, and_false, false_and, and_self, or_true, true_or, or_false, false_or, or_self, if_true, if_false, ite_true, ite_false, Bool.eq_false_iff, Bool.not_eq_eq_eq_not, Bool.true_eq_false, Bool.false_eq_true, reduceCtorEq]; rfl) | (simp [becS, bitS, sp_broken, FB, FF, FK, FN, FS, FM, FZ, fnd, mv, aN, b_3, b_12, kj, up_at, upd_at, ropeS]; done)
      · try simp only [mv_now, mv_fnd, mv_tap, mv_kep]
        first | (simp only [up_at, sN, becS, bitS, sp_broken, FB, FF, FK, FN, FS, FM, FZ, fnd, mv, aN, aF, aK, aH, aT, aS, aW, aZ, aU, b_3, b_12, kj, up_at, upd_at, ropeS, eq_self, ne_eq, not_true_eq_false, not_false_eq_true, Classical.not_not, decide_true, decide_false, and_true, true_and, and_false, false_and, and_self, or_true, true_or, or_false, false_or, or_self, if_true, if_false, ite_true, ite_false, Bool.eq_false_iff, Bool.not_eq_eq_eq_not, Bool.true_eq_false, Bool.false_eq_true, reduceCtorEq]; done) | (simp only [up_at, sN, becS, bitS, sp_broken, FB, FF, FK, FN, FS, FM, FZ, fnd, mv, aN, aF, aK, aH, aT, aS, aW, aZ, aU, b_3, b_12, kj, up_at, upd_at, ropeS, eq_self, ne_eq, not_true_eq_false, not_false_eq_true, Classical.not_not, decide_true, decide_false, and_true, true_and, and_false, false_and, and_self, or_true, true_or, or_false, false_or, or_self, if_true, if_false, ite_true, ite_false, Bool.eq_false_iff, Bool.not_eq_eq_eq_not, Bool.true_eq_false, Bool.false_eq_true, reduceCtorEq]; rfl) | (simp [mv_now, mv_fnd, up_at, sN, becS, bitS, sp_broken, FB, FF, FK, FN, FS, FM, FZ, fnd, mv, aN, b_3, b_12, kj, up_at, upd_at, ropeS]; done)
      · repeat first | exact (fun _ _ => rfl) | refine frU (by decide) ?_
      · repeat first | exact id | refine mtU (by decide) ?_
  · refine g_if_eq (pc := 6) (tgt := 18) C dX12_broken_6 (by decide) (fun _ => ?_) (fun c => absurd c (by decide))
    refine g_al0n (pc := 18) C dX12_broken_18 ?_
    refine g_ldc (pc := 19) C dX12_broken_19 kX12_57 ?_
    refine s_VI (pc := 21) (st := []) C h135 rfl (c_X12_finding (d := d - 1) (by omega) σ (i := 0) (by decide) (w := ((-1000001))) (by decide)) (by omega) lX12_62 dX12_broken_21 rfl (Nat.le_of_ble_eq_true rfl) rfl ?_
    refine r_P C hr dX12_broken_24 ⟨?_, ?_, ?_, ?_⟩
    · first | (simp only [sp_broken, FB, FF, FK, FN, FS, FM, FZ, fnd, becS, bitS, sN, mv, aN, aF, aK, aH, aT, aS, aW, aZ, aU, b_3, up_at, upd_at, ropeS, eq_self, ne_eq, not_true_eq_false, not_false_eq_true, Classical.not_not, decide_true, decide_false, and_true, true_and, and_false, false_and, and_self, or_true, true_or, or_false, false_or, or_self, if_true, if_false, ite_true, ite_false, Bool.eq_false_iff, Bool.not_eq_eq_eq_not, Bool.true_eq_false, Bool.false_eq_true, reduceCtorEq]; done) | (simp only [sp_broken, FB, FF, FK, FN, FS, FM, FZ, fnd, becS, bitS, sN, mv, aN, aF, aK, aH, aT, aS, aW, aZ, aU, b_3, up_at, upd_at, ropeS, eq_self, ne_eq, not_true_eq_false, not_false_eq_true, Classical.not_not, decide_true, decide_false, and_true, true_and, and_false, false_and, and_self, or_true, true_or, or_false, false_or, or_self, if_true, if_false, ite_true, ite_false, Bool.eq_false_iff, Bool.not_eq_eq_eq_not, Bool.true_eq_false, Bool.false_eq_true, reduceCtorEq]; rfl) | (simp [becS, bitS, sp_broken, FB, FF, FK, FN, FS, FM, FZ, fnd, mv, aN, b_3, up_at, upd_at, ropeS]; done)
    · try simp only [mv_now, mv_fnd, mv_tap, mv_kep]
      first | (simp only [up_at, sN, becS, bitS, sp_broken, FB, FF, FK, FN, FS, FM, FZ, fnd, mv, aN, aF, aK, aH, aT, aS, aW, aZ, aU, b_3, up_at, upd_at, ropeS, eq_self, ne_eq, not_true_eq_false, not_false_eq_true, Classical.not_not, decide_true, decide_false, and_true, true_and, and_false, false_and, and_self, or_true, true_or, or_false, false_or, or_self, if_true, if_false, ite_true, ite_false, Bool.eq_false_iff, Bool.not_eq_eq_eq_not, Bool.true_eq_false, Bool.false_eq_true, reduceCtorEq]; done) | (simp only [up_at, sN, becS, bitS, sp_broken, FB, FF, FK, FN, FS, FM, FZ, fnd, mv, aN, aF, aK, aH, aT, aS, aW, aZ, aU, b_3, up_at, upd_at, ropeS, eq_self, ne_eq, not_true_eq_false, not_false_eq_true, Classical.not_not, decide_true, decide_false, and_true, true_and, and_false, false_and, and_self, or_true, true_or, or_false, false_or, or_self, if_true, if_false, ite_true, ite_false, Bool.eq_false_iff, Bool.not_eq_eq_eq_not, Bool.true_eq_false, Bool.false_eq_true, reduceCtorEq]; rfl) | (simp [mv_now, mv_fnd, up_at, sN, becS, bitS, sp_broken, FB, FF, FK, FN, FS, FM, FZ, fnd, mv, aN, b_3, up_at, upd_at, ropeS]; done)
    · repeat first | exact (fun _ _ => rfl) | refine frU (by decide) ?_
    · repeat first | exact id | refine mtU (by decide) ?_

theorem m_cross {d : Nat} (hd : 3 ≤ d) (σ : Sg) (hI : INV (σ 136)) (l o is : Int32) : CP d mX12_cross [.ref 135, .int l, .int o, .int is] σ (MPo σ (sp_cross (mv σ) l o is)) := by
  refine con_of (by decide) (catL rfl) (Nat.le_of_ble_eq_true rfl) ?_
  intro μ ω C hr
  have C : Cx μ ω "TowFieldModel" cX12_cross 5 d := C
  have hr : (mH μ).sig.returnType = some .int := hr
  show G μ ω (RQ μ ω (pP (MPo σ (sp_cross (mv σ) l o is)))) 0 [some (.ref 135), some (.int l), some (.int o), some (.int is), none] [] (mk σ) 0 0
  refine g_il1n (pc := 0) C dX12_cross_0 ?_
  refine s_SB (pc := 1) (st := []) C (c_X12_isLane (d := d - 1) (by omega) σ l) (by omega) lX12_100 dX12_cross_1 rfl (Nat.le_of_ble_eq_true rfl) rfl (fun b_1 => ?_) (fun b_1 => ?_)
  · obtain ⟨j, hj, rfl⟩ := rg b_1 (B := 5) (by decide)
    have kj : (nI j).toNatClampNeg = j := nI_clamp (by omega)
    refine g_if_eq (pc := 4) (tgt := 19) C dX12_cross_4 (by decide) (fun c => absurd c (by decide)) (fun _ => ?_)
    refine g_il2n (pc := 7) C dX12_cross_7 ?_
    refine s_SB (pc := 8) (st := []) C (c_X12_isLane (d := d - 1) (by omega) σ o) (by omega) lX12_100 dX12_cross_8 rfl (Nat.le_of_ble_eq_true rfl) rfl (fun b_8 => ?_) (fun b_8 => ?_)
    · obtain ⟨q, hq, rfl⟩ := rg b_8 (B := 5) (by decide)
      have kq : (nI q).toNatClampNeg = q := nI_clamp (by omega)
      refine g_if_eq (pc := 11) (tgt := 19) C dX12_cross_11 (by decide) (fun c => absurd c (by decide)) (fun _ => ?_)
      refine g_il1n (pc := 14) C dX12_cross_14 ?_
      refine g_il2n (pc := 15) C dX12_cross_15 ?_
      refine g_icmp_ne (pc := 16) (tgt := 26) C dX12_cross_16 (by decide) (fun c_16 => ?_) (fun c_16 => ?_)
      · refine g_al0n (pc := 26) C dX12_cross_26 ?_
        refine g_bipush (pc := 27) (v := 10) C dX12_cross_27 (by decide) ?_
        refine g_il2n (pc := 29) C dX12_cross_29 ?_
        refine g_iadd (pc := 30) C dX12_cross_30 ?_
        refine g_il1n (pc := 31) C dX12_cross_31 ?_
        refine g_il3n (pc := 32) C dX12_cross_32 ?_
        refine s_VI (pc := 33) (st := []) C h135 rfl (c_X12_bitE (d := d - 1) (by omega) σ (q := 10 + q) (by omega) (by first | (simp only [ixl, nI_add, pk_mul]; done) | rfl | decide) (nI j) is) (by omega) lX12_88 dX12_cross_33 rfl (Nat.le_of_ble_eq_true rfl) rfl ?_
        refine g_is4 (pc := 36) C dX12_cross_36 ?_
        refine g_al0n (pc := 38) C dX12_cross_38 ?_
        refine g_bipush (pc := 39) (v := 10) C dX12_cross_39 (by decide) ?_
        refine g_il1n (pc := 41) C dX12_cross_41 ?_
        refine g_iadd (pc := 42) C dX12_cross_42 ?_
        refine g_il2n (pc := 43) C dX12_cross_43 ?_
        refine g_il3n (pc := 44) C dX12_cross_44 ?_
        refine s_VI (pc := 45) (st := []) C h135 rfl (c_X12_bitE (d := d - 1) (by omega) ((up σ 136 (10 + q) (wb (σ 136 (10 + q)) (nI j) is))) (q := 10 + j) (by omega) (by first | (simp only [ixl, nI_add, pk_mul]; done) | rfl | decide) (nI q) is) (by omega) lX12_88 dX12_cross_45 rfl (Nat.le_of_ble_eq_true rfl) rfl ?_
        refine r_P C hr dX12_cross_48 ⟨?_, ?_, ?_, ?_⟩
        · first | (simp only [sp_cross, FB, FF, FK, FN, FS, FM, FZ, fnd, becS, bitS, sN, mv, aN, aF, aK, aH, aT, aS, aW, aZ, aU, b_1, b_8, c_16, kj, kq, up_at, eq_self, ne_eq, not_true_eq_false, not_false_eq_true, Classical.not_not, decide_true, decide_false, and_true, true_and, and_false, false_and, and_self, or_true, true_or, or_false, false_or, or_self, if_true, if_false, ite_true, ite_false, Bool.eq_false_iff, Bool.not_eq_eq_eq_not, Bool.true_eq_false, Bool.false_eq_true, reduceCtorEq]; done) | (simp only [sp_cross, FB, FF, FK, FN, FS, FM, FZ, fnd, becS, bitS, sN, mv, aN, aF, aK, aH, aT, aS, aW, aZ, aU, b_1, b_8, c_16, kj, kq, up_at, eq_self, ne_eq, not_true_eq_false, not_false_eq_true, Classical.not_not, decide_true, decide_false, and_true, true_and, and_false, false_and, and_self, or_true, true_or, or_false, false_or, or_self, if_true, if_false, ite_true, ite_false, Bool.eq_false_iff, Bool.not_eq_eq_eq_not, Bool.true_eq_false, Bool.false_eq_true, reduceCtorEq]; rfl) | (simp [becS, bitS, sp_cross, FB, FF, FK, FN, FS, FM, FZ, fnd, mv, aN, b_1, b_8, c_16, kj, kq, up_at]; done)
        · try simp only [mv_now, mv_fnd, mv_tap, mv_kep]
          first | (simp only [up_at, sN, becS, bitS, sp_cross, FB, FF, FK, FN, FS, FM, FZ, fnd, mv, aN, aF, aK, aH, aT, aS, aW, aZ, aU, b_1, b_8, c_16, kj, kq, up_at, eq_self, ne_eq, not_true_eq_false, not_false_eq_true, Classical.not_not, decide_true, decide_false, and_true, true_and, and_false, false_and, and_self, or_true, true_or, or_false, false_or, or_self, if_true, if_false, ite_true, ite_false, Bool.eq_false_iff, Bool.not_eq_eq_eq_not, Bool.true_eq_false, Bool.false_eq_true, reduceCtorEq]; done) | (simp only [up_at, sN, becS, bitS, sp_cross, FB, FF, FK, FN, FS, FM, FZ, fnd, mv, aN, aF, aK, aH, aT, aS, aW, aZ, aU, b_1, b_8, c_16, kj, kq, up_at, eq_self, ne_eq, not_true_eq_false, not_false_eq_true, Classical.not_not, decide_true, decide_false, and_true, true_and, and_false, false_and, and_self, or_true, true_or, or_false, false_or, or_self, if_true, if_false, ite_true, ite_false, Bool.eq_false_iff, Bool.not_eq_eq_eq_not, Bool.true_eq_false, Bool.false_eq_true, reduceCtorEq]; rfl) | (simp [mv_now, mv_fnd, up_at, sN, becS, bitS, sp_cross, FB, FF, FK, FN, FS, FM, FZ, fnd, mv, aN, b_1, b_8, c_16, kj, kq, up_at]; done)
        · repeat first | exact (fun _ _ => rfl) | refine frU (by decide) ?_
        · repeat first | exact id | refine mtU (by decide) ?_
      · refine g_al0n (pc := 19) C dX12_cross_19 ?_
        refine g_ldc (pc := 20) C dX12_cross_20 kX12_57 ?_
        refine s_VI (pc := 22) (st := []) C h135 rfl (c_X12_finding (d := d - 1) (by omega) σ (i := 0) (by decide) (w := ((-1000001))) (by decide)) (by omega) lX12_62 dX12_cross_22 rfl (Nat.le_of_ble_eq_true rfl) rfl ?_
        refine r_P C hr dX12_cross_25 ⟨?_, ?_, ?_, ?_⟩
        · first | (simp only [sp_cross, FB, FF, FK, FN, FS, FM, FZ, fnd, becS, bitS, sN, mv, aN, aF, aK, aH, aT, aS, aW, aZ, aU, b_1, b_8, c_16, kj, kq, up_at, eq_self, ne_eq, not_true_eq_false, not_false_eq_true, Classical.not_not, decide_true, decide_false, and_true, true_and, and_false, false_and, and_self, or_true, true_or, or_false, false_or, or_self, if_true, if_false, ite_true, ite_false, Bool.eq_false_iff, Bool.not_eq_eq_eq_not, Bool.true_eq_false, Bool.false_eq_true, reduceCtorEq]; done) | (simp only [sp_cross, FB, FF, FK, FN, FS, FM, FZ, fnd, becS, bitS, sN, mv, aN, aF, aK, aH, aT, aS, aW, aZ, aU, b_1, b_8, c_16, kj, kq, up_at, eq_self, ne_eq, not_true_eq_false, not_false_eq_true, Classical.not_not, decide_true, decide_false, and_true, true_and, and_false, false_and, and_self, or_true, true_or, or_false, false_or, or_self, if_true, if_false, ite_true, ite_false, Bool.eq_false_iff, Bool.not_eq_eq_eq_not, Bool.true_eq_false, Bool.false_eq_true, reduceCtorEq]; rfl) | (simp [becS, bitS, sp_cross, FB, FF, FK, FN, FS, FM, FZ, fnd, mv, aN, b_1, b_8, c_16, kj, kq, up_at]; done)
        · try simp only [mv_now, mv_fnd, mv_tap, mv_kep]
          first | (simp only [up_at, sN, becS, bitS, sp_cross, FB, FF, FK, FN, FS, FM, FZ, fnd, mv, aN, aF, aK, aH, aT, aS, aW, aZ, aU, b_1, b_8, c_16, kj, kq, up_at, eq_self, ne_eq, not_true_eq_false, not_false_eq_true, Classical.not_not, decide_true, decide_false, and_true, true_and, and_false, false_and, and_self, or_true, true_or, or_false, false_or, or_self, if_true, if_false, ite_true, ite_false, Bool.eq_false_iff, Bool.not_eq_eq_eq_not, Bool.true_eq_false, Bool.false_eq_true, reduceCtorEq]; done) | (simp only [up_at, sN, becS, bitS, sp_cross, FB, FF, FK, FN, FS, FM, FZ, fnd, mv, aN, aF, aK, aH, aT, aS, aW, aZ, aU, b_1, b_8, c_16, kj, kq, up_at, eq_self, ne_eq, not_true_eq_false, not_false_eq_true, Classical.not_not, decide_true, decide_false, and_true, true_and, and_false, false_and, and_self, or_true, true_or, or_false, false_or, or_self, if_true, if_false, ite_true, ite_false, Bool.eq_false_iff, Bool.not_eq_eq_eq_not, Bool.true_eq_false, Bool.false_eq_true, reduceCtorEq]; rfl) | (simp [mv_now, mv_fnd, up_at, sN, becS, bitS, sp_cross, FB, FF, FK, FN, FS, FM, FZ, fnd, mv, aN, b_1, b_8, c_16, kj, kq, up_at]; done)
        · repeat first | exact (fun _ _ => rfl) | refine frU (by decide) ?_
        · repeat first | exact id | refine mtU (by decide) ?_
    · refine g_if_eq (pc := 11) (tgt := 19) C dX12_cross_11 (by decide) (fun _ => ?_) (fun c => absurd c (by decide))
      refine g_al0n (pc := 19) C dX12_cross_19 ?_
      refine g_ldc (pc := 20) C dX12_cross_20 kX12_57 ?_
      refine s_VI (pc := 22) (st := []) C h135 rfl (c_X12_finding (d := d - 1) (by omega) σ (i := 0) (by decide) (w := ((-1000001))) (by decide)) (by omega) lX12_62 dX12_cross_22 rfl (Nat.le_of_ble_eq_true rfl) rfl ?_
      refine r_P C hr dX12_cross_25 ⟨?_, ?_, ?_, ?_⟩
      · first | (simp only [sp_cross, FB, FF, FK, FN, FS, FM, FZ, fnd, becS, bitS, sN, mv, aN, aF, aK, aH, aT, aS, aW, aZ, aU, b_1, b_8, kj, up_at, eq_self, ne_eq, not_true_eq_false, not_false_eq_true, Classical.not_not, decide_true, decide_false, and_true, true_and, and_false, false_and, and_self, or_true, true_or, or_false, false_or, or_self, if_true, if_false, ite_true, ite_false, Bool.eq_false_iff, Bool.not_eq_eq_eq_not, Bool.true_eq_false, Bool.false_eq_true, reduceCtorEq]; done) | (simp only [sp_cross, FB, FF, FK, FN, FS, FM, FZ, fnd, becS, bitS, sN, mv, aN, aF, aK, aH, aT, aS, aW, aZ, aU, b_1, b_8, kj, up_at, eq_self, ne_eq, not_true_eq_false, not_false_eq_true, Classical.not_not, decide_true, decide_false, and_true, true_and, and_false, false_and, and_self, or_true, true_or, or_false, false_or, or_self, if_true, if_false, ite_true, ite_false, Bool.eq_false_iff, Bool.not_eq_eq_eq_not, Bool.true_eq_false, Bool.false_eq_true, reduceCtorEq]; rfl) | (simp [becS, bitS, sp_cross, FB, FF, FK, FN, FS, FM, FZ, fnd, mv, aN, b_1, b_8, kj, up_at]; done)
      · try simp only [mv_now, mv_fnd, mv_tap, mv_kep]
        first | (simp only [up_at, sN, becS, bitS, sp_cross, FB, FF, FK, FN, FS, FM, FZ, fnd, mv, aN, aF, aK, aH, aT, aS, aW, aZ, aU, b_1, b_8, kj, up_at, eq_self, ne_eq, not_true_eq_false, not_false_eq_true, Classical.not_not, decide_true, decide_false, and_true, true_and, and_false, false_and, and_self, or_true, true_or, or_false, false_or, or_self, if_true, if_false, ite_true, ite_false, Bool.eq_false_iff, Bool.not_eq_eq_eq_not, Bool.true_eq_false, Bool.false_eq_true, reduceCtorEq]; done) | (simp only [up_at, sN, becS, bitS, sp_cross, FB, FF, FK, FN, FS, FM, FZ, fnd, mv, aN, aF, aK, aH, aT, aS, aW, aZ, aU, b_1, b_8, kj, up_at, eq_self, ne_eq, not_true_eq_false, not_false_eq_true, Classical.not_not, decide_true, decide_false, and_true, true_and, and_false, false_and, and_self, or_true, true_or, or_false, false_or, or_self, if_true, if_false, ite_true, ite_false, Bool.eq_false_iff, Bool.not_eq_eq_eq_not, Bool.true_eq_false, Bool.false_eq_true, reduceCtorEq]; rfl) | (simp [mv_now, mv_fnd, up_at, sN, becS, bitS, sp_cross, FB, FF, FK, FN, FS, FM, FZ, fnd, mv, aN, b_1, b_8, kj, up_at]; done)
      · repeat first | exact (fun _ _ => rfl) | refine frU (by decide) ?_
      · repeat first | exact id | refine mtU (by decide) ?_
  · refine g_if_eq (pc := 4) (tgt := 19) C dX12_cross_4 (by decide) (fun _ => ?_) (fun c => absurd c (by decide))
    refine g_al0n (pc := 19) C dX12_cross_19 ?_
    refine g_ldc (pc := 20) C dX12_cross_20 kX12_57 ?_
    refine s_VI (pc := 22) (st := []) C h135 rfl (c_X12_finding (d := d - 1) (by omega) σ (i := 0) (by decide) (w := ((-1000001))) (by decide)) (by omega) lX12_62 dX12_cross_22 rfl (Nat.le_of_ble_eq_true rfl) rfl ?_
    refine r_P C hr dX12_cross_25 ⟨?_, ?_, ?_, ?_⟩
    · first | (simp only [sp_cross, FB, FF, FK, FN, FS, FM, FZ, fnd, becS, bitS, sN, mv, aN, aF, aK, aH, aT, aS, aW, aZ, aU, b_1, up_at, eq_self, ne_eq, not_true_eq_false, not_false_eq_true, Classical.not_not, decide_true, decide_false, and_true, true_and, and_false, false_and, and_self, or_true, true_or, or_false, false_or, or_self, if_true, if_false, ite_true, ite_false, Bool.eq_false_iff, Bool.not_eq_eq_eq_not, Bool.true_eq_false, Bool.false_eq_true, reduceCtorEq]; done) | (simp only [sp_cross, FB, FF, FK, FN, FS, FM, FZ, fnd, becS, bitS, sN, mv, aN, aF, aK, aH, aT, aS, aW, aZ, aU, b_1, up_at, eq_self, ne_eq, not_true_eq_false, not_false_eq_true, Classical.not_not, decide_true, decide_false, and_true, true_and, and_false, false_and, and_self, or_true, true_or, or_false, false_or, or_self, if_true, if_false, ite_true, ite_false, Bool.eq_false_iff, Bool.not_eq_eq_eq_not, Bool.true_eq_false, Bool.false_eq_true, reduceCtorEq]; rfl) | (simp [becS, bitS, sp_cross, FB, FF, FK, FN, FS, FM, FZ, fnd, mv, aN, b_1, up_at]; done)
    · try simp only [mv_now, mv_fnd, mv_tap, mv_kep]
      first | (simp only [up_at, sN, becS, bitS, sp_cross, FB, FF, FK, FN, FS, FM, FZ, fnd, mv, aN, aF, aK, aH, aT, aS, aW, aZ, aU, b_1, up_at, eq_self, ne_eq, not_true_eq_false, not_false_eq_true, Classical.not_not, decide_true, decide_false, and_true, true_and, and_false, false_and, and_self, or_true, true_or, or_false, false_or, or_self, if_true, if_false, ite_true, ite_false, Bool.eq_false_iff, Bool.not_eq_eq_eq_not, Bool.true_eq_false, Bool.false_eq_true, reduceCtorEq]; done) | (simp only [up_at, sN, becS, bitS, sp_cross, FB, FF, FK, FN, FS, FM, FZ, fnd, mv, aN, aF, aK, aH, aT, aS, aW, aZ, aU, b_1, up_at, eq_self, ne_eq, not_true_eq_false, not_false_eq_true, Classical.not_not, decide_true, decide_false, and_true, true_and, and_false, false_and, and_self, or_true, true_or, or_false, false_or, or_self, if_true, if_false, ite_true, ite_false, Bool.eq_false_iff, Bool.not_eq_eq_eq_not, Bool.true_eq_false, Bool.false_eq_true, reduceCtorEq]; rfl) | (simp [mv_now, mv_fnd, up_at, sN, becS, bitS, sp_cross, FB, FF, FK, FN, FS, FM, FZ, fnd, mv, aN, b_1, up_at]; done)
    · repeat first | exact (fun _ _ => rfl) | refine frU (by decide) ?_
    · repeat first | exact id | refine mtU (by decide) ?_

theorem m_askIs {d : Nat} (hd : 3 ≤ d) (σ : Sg) (hI : INV (σ 136)) (a w : Int32) : CP d mX12_askIs [.ref 135, .int a, .int w] σ (MPo σ (sp_askIs (mv σ) a w)) := by
  refine con_of (by decide) (catL rfl) (Nat.le_of_ble_eq_true rfl) ?_
  intro μ ω C hr
  have C : Cx μ ω "TowFieldModel" cX12_askIs 3 d := C
  have hr : (mH μ).sig.returnType = some .int := hr
  show G μ ω (RQ μ ω (pP (MPo σ (sp_askIs (mv σ) a w)))) 0 [some (.ref 135), some (.int a), some (.int w)] [] (mk σ) 0 0
  refine g_al0n (pc := 0) C dX12_askIs_0 ?_
  refine g_il1n (pc := 1) C dX12_askIs_1 ?_
  refine g_bipush (pc := 2) (v := 7) C dX12_askIs_2 (by decide) ?_
  refine s_VB (pc := 4) (st := []) C h135 rfl (c_X12_isE (d := d - 1) (by omega) σ a (c := 7) (by decide) rfl) (by omega) lX12_71 dX12_askIs_4 rfl (Nat.le_of_ble_eq_true rfl) rfl (fun b_4 => ?_) (fun b_4 => ?_)
  · have hn7 := hI.n7.2
    obtain ⟨j, hj, rfl⟩ := (is_iff hI.n7.1 (by have := hI.n7.2; omega)).mp b_4
    have kj : (nI j).toNatClampNeg = j := nI_clamp (by omega)
    refine g_if_eq (pc := 7) (tgt := 29) C dX12_askIs_7 (by decide) (fun c => absurd c (by decide)) (fun _ => ?_)
    refine g_il2n (pc := 10) C dX12_askIs_10 ?_
    refine g_iconst (pc := 11) (v := 0) C dX12_askIs_11 (by decide) ?_
    refine g_bipush (pc := 12) (v := 9) C dX12_askIs_12 (by decide) ?_
    refine s_SB (pc := 14) (st := []) C (c_X12_within (d := d - 1) (by omega) σ w 0 9) (by omega) lX12_58 dX12_askIs_14 rfl (Nat.le_of_ble_eq_true rfl) rfl (fun b_14 => ?_) (fun b_14 => ?_)
    · obtain ⟨f, hf, rfl⟩ := rgL b_14 (by decide) (B := 9) (by decide)
      have kf : (nI f).toNatClampNeg = f := nI_clamp (by omega)
      refine g_if_eq (pc := 17) (tgt := 29) C dX12_askIs_17 (by decide) (fun c => absurd c (by decide)) (fun _ => ?_)
      refine g_al0n (pc := 20) C dX12_askIs_20 ?_
      refine g_il1n (pc := 21) C dX12_askIs_21 ?_
      refine g_il2n (pc := 22) C dX12_askIs_22 ?_
      refine s_VI (pc := 23) (st := []) C h135 rfl (c_X12_askOf (d := d - 1) (by omega) σ (a := j) (f := f) (by omega) (by omega) rfl rfl) (by omega) lX12_67 dX12_askIs_23 rfl (Nat.le_of_ble_eq_true rfl) rfl ?_
      refine g_goto (pc := 26) (tgt := 35) C dX12_askIs_26 (by decide) ?_
      refine r_P C hr dX12_askIs_35 ⟨?_, ?_, ?_, ?_⟩
      · first | (simp only [sp_askIs, FB, FF, FK, FN, FS, FM, FZ, fnd, becS, bitS, sN, mv, aN, aF, aK, aH, aT, aS, aW, aZ, aU, b_4, b_14, kj, kf, eq_self, ne_eq, not_true_eq_false, not_false_eq_true, Classical.not_not, decide_true, decide_false, and_true, true_and, and_false, false_and, and_self, or_true, true_or, or_false, false_or, or_self, if_true, if_false, ite_true, ite_false, Bool.eq_false_iff, Bool.not_eq_eq_eq_not, Bool.true_eq_false, Bool.false_eq_true, reduceCtorEq]; done) | (simp only [sp_askIs, FB, FF, FK, FN, FS, FM, FZ, fnd, becS, bitS, sN, mv, aN, aF, aK, aH, aT, aS, aW, aZ, aU, b_4, b_14, kj, kf, eq_self, ne_eq, not_true_eq_false, not_false_eq_true, Classical.not_not, decide_true, decide_false, and_true, true_and, and_false, false_and, and_self, or_true, true_or, or_false, false_or, or_self, if_true, if_false, ite_true, ite_false, Bool.eq_false_iff, Bool.not_eq_eq_eq_not, Bool.true_eq_false, Bool.false_eq_true, reduceCtorEq]; rfl) | (simp [becS, bitS, sp_askIs, FB, FF, FK, FN, FS, FM, FZ, fnd, mv, aN, b_4, b_14, kj, kf]; done)
      · try simp only [mv_now, mv_fnd, mv_tap, mv_kep]
        first | (simp only [up_at, sN, becS, bitS, sp_askIs, FB, FF, FK, FN, FS, FM, FZ, fnd, mv, aN, aF, aK, aH, aT, aS, aW, aZ, aU, b_4, b_14, kj, kf, eq_self, ne_eq, not_true_eq_false, not_false_eq_true, Classical.not_not, decide_true, decide_false, and_true, true_and, and_false, false_and, and_self, or_true, true_or, or_false, false_or, or_self, if_true, if_false, ite_true, ite_false, Bool.eq_false_iff, Bool.not_eq_eq_eq_not, Bool.true_eq_false, Bool.false_eq_true, reduceCtorEq]; done) | (simp only [up_at, sN, becS, bitS, sp_askIs, FB, FF, FK, FN, FS, FM, FZ, fnd, mv, aN, aF, aK, aH, aT, aS, aW, aZ, aU, b_4, b_14, kj, kf, eq_self, ne_eq, not_true_eq_false, not_false_eq_true, Classical.not_not, decide_true, decide_false, and_true, true_and, and_false, false_and, and_self, or_true, true_or, or_false, false_or, or_self, if_true, if_false, ite_true, ite_false, Bool.eq_false_iff, Bool.not_eq_eq_eq_not, Bool.true_eq_false, Bool.false_eq_true, reduceCtorEq]; rfl) | (simp [mv_now, mv_fnd, up_at, sN, becS, bitS, sp_askIs, FB, FF, FK, FN, FS, FM, FZ, fnd, mv, aN, b_4, b_14, kj, kf]; done)
      · repeat first | exact (fun _ _ => rfl) | refine frU (by decide) ?_
      · repeat first | exact id | refine mtU (by decide) ?_
    · refine g_if_eq (pc := 17) (tgt := 29) C dX12_askIs_17 (by decide) (fun _ => ?_) (fun c => absurd c (by decide))
      refine g_al0n (pc := 29) C dX12_askIs_29 ?_
      refine g_ldc (pc := 30) C dX12_askIs_30 kX12_57 ?_
      refine s_VI (pc := 32) (st := []) C h135 rfl (c_X12_finding (d := d - 1) (by omega) σ (i := 0) (by decide) (w := ((-1000001))) (by decide)) (by omega) lX12_62 dX12_askIs_32 rfl (Nat.le_of_ble_eq_true rfl) rfl ?_
      refine r_P C hr dX12_askIs_35 ⟨?_, ?_, ?_, ?_⟩
      · first | (simp only [sp_askIs, FB, FF, FK, FN, FS, FM, FZ, fnd, becS, bitS, sN, mv, aN, aF, aK, aH, aT, aS, aW, aZ, aU, b_4, b_14, kj, eq_self, ne_eq, not_true_eq_false, not_false_eq_true, Classical.not_not, decide_true, decide_false, and_true, true_and, and_false, false_and, and_self, or_true, true_or, or_false, false_or, or_self, if_true, if_false, ite_true, ite_false, Bool.eq_false_iff, Bool.not_eq_eq_eq_not, Bool.true_eq_false, Bool.false_eq_true, reduceCtorEq]; done) | (simp only [sp_askIs, FB, FF, FK, FN, FS, FM, FZ, fnd, becS, bitS, sN, mv, aN, aF, aK, aH, aT, aS, aW, aZ, aU, b_4, b_14, kj, eq_self, ne_eq, not_true_eq_false, not_false_eq_true, Classical.not_not, decide_true, decide_false, and_true, true_and, and_false, false_and, and_self, or_true, true_or, or_false, false_or, or_self, if_true, if_false, ite_true, ite_false, Bool.eq_false_iff, Bool.not_eq_eq_eq_not, Bool.true_eq_false, Bool.false_eq_true, reduceCtorEq]; rfl) | (simp [becS, bitS, sp_askIs, FB, FF, FK, FN, FS, FM, FZ, fnd, mv, aN, b_4, b_14, kj]; done)
      · try simp only [mv_now, mv_fnd, mv_tap, mv_kep]
        first | (simp only [up_at, sN, becS, bitS, sp_askIs, FB, FF, FK, FN, FS, FM, FZ, fnd, mv, aN, aF, aK, aH, aT, aS, aW, aZ, aU, b_4, b_14, kj, eq_self, ne_eq, not_true_eq_false, not_false_eq_true, Classical.not_not, decide_true, decide_false, and_true, true_and, and_false, false_and, and_self, or_true, true_or, or_false, false_or, or_self, if_true, if_false, ite_true, ite_false, Bool.eq_false_iff, Bool.not_eq_eq_eq_not, Bool.true_eq_false, Bool.false_eq_true, reduceCtorEq]; done) | (simp only [up_at, sN, becS, bitS, sp_askIs, FB, FF, FK, FN, FS, FM, FZ, fnd, mv, aN, aF, aK, aH, aT, aS, aW, aZ, aU, b_4, b_14, kj, eq_self, ne_eq, not_true_eq_false, not_false_eq_true, Classical.not_not, decide_true, decide_false, and_true, true_and, and_false, false_and, and_self, or_true, true_or, or_false, false_or, or_self, if_true, if_false, ite_true, ite_false, Bool.eq_false_iff, Bool.not_eq_eq_eq_not, Bool.true_eq_false, Bool.false_eq_true, reduceCtorEq]; rfl) | (simp [mv_now, mv_fnd, up_at, sN, becS, bitS, sp_askIs, FB, FF, FK, FN, FS, FM, FZ, fnd, mv, aN, b_4, b_14, kj]; done)
      · repeat first | exact (fun _ _ => rfl) | refine frU (by decide) ?_
      · repeat first | exact id | refine mtU (by decide) ?_
  · refine g_if_eq (pc := 7) (tgt := 29) C dX12_askIs_7 (by decide) (fun _ => ?_) (fun c => absurd c (by decide))
    refine g_al0n (pc := 29) C dX12_askIs_29 ?_
    refine g_ldc (pc := 30) C dX12_askIs_30 kX12_57 ?_
    refine s_VI (pc := 32) (st := []) C h135 rfl (c_X12_finding (d := d - 1) (by omega) σ (i := 0) (by decide) (w := ((-1000001))) (by decide)) (by omega) lX12_62 dX12_askIs_32 rfl (Nat.le_of_ble_eq_true rfl) rfl ?_
    refine r_P C hr dX12_askIs_35 ⟨?_, ?_, ?_, ?_⟩
    · first | (simp only [sp_askIs, FB, FF, FK, FN, FS, FM, FZ, fnd, becS, bitS, sN, mv, aN, aF, aK, aH, aT, aS, aW, aZ, aU, b_4, eq_self, ne_eq, not_true_eq_false, not_false_eq_true, Classical.not_not, decide_true, decide_false, and_true, true_and, and_false, false_and, and_self, or_true, true_or, or_false, false_or, or_self, if_true, if_false, ite_true, ite_false, Bool.eq_false_iff, Bool.not_eq_eq_eq_not, Bool.true_eq_false, Bool.false_eq_true, reduceCtorEq]; done) | (simp only [sp_askIs, FB, FF, FK, FN, FS, FM, FZ, fnd, becS, bitS, sN, mv, aN, aF, aK, aH, aT, aS, aW, aZ, aU, b_4, eq_self, ne_eq, not_true_eq_false, not_false_eq_true, Classical.not_not, decide_true, decide_false, and_true, true_and, and_false, false_and, and_self, or_true, true_or, or_false, false_or, or_self, if_true, if_false, ite_true, ite_false, Bool.eq_false_iff, Bool.not_eq_eq_eq_not, Bool.true_eq_false, Bool.false_eq_true, reduceCtorEq]; rfl) | (simp [becS, bitS, sp_askIs, FB, FF, FK, FN, FS, FM, FZ, fnd, mv, aN, b_4]; done)
    · try simp only [mv_now, mv_fnd, mv_tap, mv_kep]
      first | (simp only [up_at, sN, becS, bitS, sp_askIs, FB, FF, FK, FN, FS, FM, FZ, fnd, mv, aN, aF, aK, aH, aT, aS, aW, aZ, aU, b_4, eq_self, ne_eq, not_true_eq_false, not_false_eq_true, Classical.not_not, decide_true, decide_false, and_true, true_and, and_false, false_and, and_self, or_true, true_or, or_false, false_or, or_self, if_true, if_false, ite_true, ite_false, Bool.eq_false_iff, Bool.not_eq_eq_eq_not, Bool.true_eq_false, Bool.false_eq_true, reduceCtorEq]; done) | (simp only [up_at, sN, becS, bitS, sp_askIs, FB, FF, FK, FN, FS, FM, FZ, fnd, mv, aN, aF, aK, aH, aT, aS, aW, aZ, aU, b_4, eq_self, ne_eq, not_true_eq_false, not_false_eq_true, Classical.not_not, decide_true, decide_false, and_true, true_and, and_false, false_and, and_self, or_true, true_or, or_false, false_or, or_self, if_true, if_false, ite_true, ite_false, Bool.eq_false_iff, Bool.not_eq_eq_eq_not, Bool.true_eq_false, Bool.false_eq_true, reduceCtorEq]; rfl) | (simp [mv_now, mv_fnd, up_at, sN, becS, bitS, sp_askIs, FB, FF, FK, FN, FS, FM, FZ, fnd, mv, aN, b_4]; done)
    · repeat first | exact (fun _ _ => rfl) | refine frU (by decide) ?_
    · repeat first | exact id | refine mtU (by decide) ?_

theorem m_as {d : Nat} (hd : 4 ≤ d) (σ : Sg) (hI : INV (σ 136)) (a k : Int32) : CP d mX12_as [.ref 135, .int a, .int k] σ (MPo σ (sp_as (mv σ) a k)) := by
  refine con_of (by decide) (catL rfl) (Nat.le_of_ble_eq_true rfl) ?_
  intro μ ω C hr
  have C : Cx μ ω "TowFieldModel" cX12_as 3 d := C
  have hr : (mH μ).sig.returnType = some .int := hr
  show G μ ω (RQ μ ω (pP (MPo σ (sp_as (mv σ) a k)))) 0 [some (.ref 135), some (.int a), some (.int k)] [] (mk σ) 0 0
  refine g_al0n (pc := 0) C dX12_as_0 ?_
  refine g_il1n (pc := 1) C dX12_as_1 ?_
  refine g_bipush (pc := 2) (v := 7) C dX12_as_2 (by decide) ?_
  refine s_VB (pc := 4) (st := []) C h135 rfl (c_X12_isE (d := d - 1) (by omega) σ a (c := 7) (by decide) rfl) (by omega) lX12_71 dX12_as_4 rfl (Nat.le_of_ble_eq_true rfl) rfl (fun b_4 => ?_) (fun b_4 => ?_)
  · have hn7 := hI.n7.2
    obtain ⟨j, hj, rfl⟩ := (is_iff hI.n7.1 (by have := hI.n7.2; omega)).mp b_4
    have kj : (nI j).toNatClampNeg = j := nI_clamp (by omega)
    refine g_if_eq (pc := 7) (tgt := 17) C dX12_as_7 (by decide) (fun c => absurd c (by decide)) (fun _ => ?_)
    refine g_il2n (pc := 10) C dX12_as_10 ?_
    refine s_SB (pc := 11) (st := []) C (c_X12_isKind (d := d - 1) (by omega) σ k) (by omega) lX12_117 dX12_as_11 rfl (Nat.le_of_ble_eq_true rfl) rfl (fun b_11 => ?_) (fun b_11 => ?_)
    · refine g_if_ne (pc := 14) (tgt := 24) C dX12_as_14 (by decide) (fun _ => ?_) (fun c => absurd c (by decide))
      refine g_al0n (pc := 24) C dX12_as_24 ?_
      refine g_il1n (pc := 25) C dX12_as_25 ?_
      refine g_iconst (pc := 26) (v := 3) C dX12_as_26 (by decide) ?_
      refine s_VI (pc := 27) (st := []) C h135 rfl (c_X12_askOf (d := d - 1) (by omega) σ (a := j) (f := 3) (by omega) (by omega) rfl rfl) (by omega) lX12_67 dX12_as_27 rfl (Nat.le_of_ble_eq_true rfl) rfl ?_
      refine g_il2n (pc := 30) C dX12_as_30 ?_
      refine s_SB (pc := 31) (st := []) C (c_X12_isUnder (d := d - 1) (by omega) σ (σ 136 (146 + 10 * j + 3)) k (hI.kind hj)) (by omega) lX12_123 dX12_as_31 rfl (Nat.le_of_ble_eq_true rfl) rfl (fun b_31 => ?_) (fun b_31 => ?_)
      · refine g_if_eq (pc := 34) (tgt := 41) C dX12_as_34 (by decide) (fun c => absurd c (by decide)) (fun _ => ?_)
        refine g_il1n (pc := 37) C dX12_as_37 ?_
        refine g_goto (pc := 38) (tgt := 47) C dX12_as_38 (by decide) ?_
        refine r_P C hr dX12_as_47 ⟨?_, ?_, ?_, ?_⟩
        · first | (simp only [sp_as, FB, FF, FK, FN, FS, FM, FZ, fnd, becS, bitS, sN, mv, aN, aF, aK, aH, aT, aS, aW, aZ, aU, b_4, b_11, b_31, kj, eq_self, ne_eq, not_true_eq_false, not_false_eq_true, Classical.not_not, decide_true, decide_false, and_true, true_and, and_false, false_and, and_self, or_true, true_or, or_false, false_or, or_self, if_true, if_false, ite_true, ite_false, Bool.eq_false_iff, Bool.not_eq_eq_eq_not, Bool.true_eq_false, Bool.false_eq_true, reduceCtorEq]; done) | (simp only [sp_as, FB, FF, FK, FN, FS, FM, FZ, fnd, becS, bitS, sN, mv, aN, aF, aK, aH, aT, aS, aW, aZ, aU, b_4, b_11, b_31, kj, eq_self, ne_eq, not_true_eq_false, not_false_eq_true, Classical.not_not, decide_true, decide_false, and_true, true_and, and_false, false_and, and_self, or_true, true_or, or_false, false_or, or_self, if_true, if_false, ite_true, ite_false, Bool.eq_false_iff, Bool.not_eq_eq_eq_not, Bool.true_eq_false, Bool.false_eq_true, reduceCtorEq]; rfl) | (simp [becS, bitS, sp_as, FB, FF, FK, FN, FS, FM, FZ, fnd, mv, aN, b_4, b_11, b_31, kj]; done)
        · try simp only [mv_now, mv_fnd, mv_tap, mv_kep]
          first | (simp only [up_at, sN, becS, bitS, sp_as, FB, FF, FK, FN, FS, FM, FZ, fnd, mv, aN, aF, aK, aH, aT, aS, aW, aZ, aU, b_4, b_11, b_31, kj, eq_self, ne_eq, not_true_eq_false, not_false_eq_true, Classical.not_not, decide_true, decide_false, and_true, true_and, and_false, false_and, and_self, or_true, true_or, or_false, false_or, or_self, if_true, if_false, ite_true, ite_false, Bool.eq_false_iff, Bool.not_eq_eq_eq_not, Bool.true_eq_false, Bool.false_eq_true, reduceCtorEq]; done) | (simp only [up_at, sN, becS, bitS, sp_as, FB, FF, FK, FN, FS, FM, FZ, fnd, mv, aN, aF, aK, aH, aT, aS, aW, aZ, aU, b_4, b_11, b_31, kj, eq_self, ne_eq, not_true_eq_false, not_false_eq_true, Classical.not_not, decide_true, decide_false, and_true, true_and, and_false, false_and, and_self, or_true, true_or, or_false, false_or, or_self, if_true, if_false, ite_true, ite_false, Bool.eq_false_iff, Bool.not_eq_eq_eq_not, Bool.true_eq_false, Bool.false_eq_true, reduceCtorEq]; rfl) | (simp [mv_now, mv_fnd, up_at, sN, becS, bitS, sp_as, FB, FF, FK, FN, FS, FM, FZ, fnd, mv, aN, b_4, b_11, b_31, kj]; done)
        · repeat first | exact (fun _ _ => rfl) | refine frU (by decide) ?_
        · repeat first | exact id | refine mtU (by decide) ?_
      · refine g_if_eq (pc := 34) (tgt := 41) C dX12_as_34 (by decide) (fun _ => ?_) (fun c => absurd c (by decide))
        refine g_al0n (pc := 41) C dX12_as_41 ?_
        refine g_ldc (pc := 42) C dX12_as_42 kX12_126 ?_
        refine s_VI (pc := 44) (st := []) C h135 rfl (c_X12_finding (d := d - 1) (by omega) σ (i := 2) (by decide) (w := ((-1000003))) (by decide)) (by omega) lX12_62 dX12_as_44 rfl (Nat.le_of_ble_eq_true rfl) rfl ?_
        refine r_P C hr dX12_as_47 ⟨?_, ?_, ?_, ?_⟩
        · first | (simp only [sp_as, FB, FF, FK, FN, FS, FM, FZ, fnd, becS, bitS, sN, mv, aN, aF, aK, aH, aT, aS, aW, aZ, aU, b_4, b_11, b_31, kj, eq_self, ne_eq, not_true_eq_false, not_false_eq_true, Classical.not_not, decide_true, decide_false, and_true, true_and, and_false, false_and, and_self, or_true, true_or, or_false, false_or, or_self, if_true, if_false, ite_true, ite_false, Bool.eq_false_iff, Bool.not_eq_eq_eq_not, Bool.true_eq_false, Bool.false_eq_true, reduceCtorEq]; done) | (simp only [sp_as, FB, FF, FK, FN, FS, FM, FZ, fnd, becS, bitS, sN, mv, aN, aF, aK, aH, aT, aS, aW, aZ, aU, b_4, b_11, b_31, kj, eq_self, ne_eq, not_true_eq_false, not_false_eq_true, Classical.not_not, decide_true, decide_false, and_true, true_and, and_false, false_and, and_self, or_true, true_or, or_false, false_or, or_self, if_true, if_false, ite_true, ite_false, Bool.eq_false_iff, Bool.not_eq_eq_eq_not, Bool.true_eq_false, Bool.false_eq_true, reduceCtorEq]; rfl) | (simp [becS, bitS, sp_as, FB, FF, FK, FN, FS, FM, FZ, fnd, mv, aN, b_4, b_11, b_31, kj]; done)
        · try simp only [mv_now, mv_fnd, mv_tap, mv_kep]
          first | (simp only [up_at, sN, becS, bitS, sp_as, FB, FF, FK, FN, FS, FM, FZ, fnd, mv, aN, aF, aK, aH, aT, aS, aW, aZ, aU, b_4, b_11, b_31, kj, eq_self, ne_eq, not_true_eq_false, not_false_eq_true, Classical.not_not, decide_true, decide_false, and_true, true_and, and_false, false_and, and_self, or_true, true_or, or_false, false_or, or_self, if_true, if_false, ite_true, ite_false, Bool.eq_false_iff, Bool.not_eq_eq_eq_not, Bool.true_eq_false, Bool.false_eq_true, reduceCtorEq]; done) | (simp only [up_at, sN, becS, bitS, sp_as, FB, FF, FK, FN, FS, FM, FZ, fnd, mv, aN, aF, aK, aH, aT, aS, aW, aZ, aU, b_4, b_11, b_31, kj, eq_self, ne_eq, not_true_eq_false, not_false_eq_true, Classical.not_not, decide_true, decide_false, and_true, true_and, and_false, false_and, and_self, or_true, true_or, or_false, false_or, or_self, if_true, if_false, ite_true, ite_false, Bool.eq_false_iff, Bool.not_eq_eq_eq_not, Bool.true_eq_false, Bool.false_eq_true, reduceCtorEq]; rfl) | (simp [mv_now, mv_fnd, up_at, sN, becS, bitS, sp_as, FB, FF, FK, FN, FS, FM, FZ, fnd, mv, aN, b_4, b_11, b_31, kj]; done)
        · repeat first | exact (fun _ _ => rfl) | refine frU (by decide) ?_
        · repeat first | exact id | refine mtU (by decide) ?_
    · refine g_if_ne (pc := 14) (tgt := 24) C dX12_as_14 (by decide) (fun c => absurd c (by decide)) (fun _ => ?_)
      refine g_al0n (pc := 17) C dX12_as_17 ?_
      refine g_ldc (pc := 18) C dX12_as_18 kX12_57 ?_
      refine s_VI (pc := 20) (st := []) C h135 rfl (c_X12_finding (d := d - 1) (by omega) σ (i := 0) (by decide) (w := ((-1000001))) (by decide)) (by omega) lX12_62 dX12_as_20 rfl (Nat.le_of_ble_eq_true rfl) rfl ?_
      refine r_P C hr dX12_as_23 ⟨?_, ?_, ?_, ?_⟩
      · first | (simp only [sp_as, FB, FF, FK, FN, FS, FM, FZ, fnd, becS, bitS, sN, mv, aN, aF, aK, aH, aT, aS, aW, aZ, aU, b_4, b_11, kj, eq_self, ne_eq, not_true_eq_false, not_false_eq_true, Classical.not_not, decide_true, decide_false, and_true, true_and, and_false, false_and, and_self, or_true, true_or, or_false, false_or, or_self, if_true, if_false, ite_true, ite_false, Bool.eq_false_iff, Bool.not_eq_eq_eq_not, Bool.true_eq_false, Bool.false_eq_true, reduceCtorEq]; done) | (simp only [sp_as, FB, FF, FK, FN, FS, FM, FZ, fnd, becS, bitS, sN, mv, aN, aF, aK, aH, aT, aS, aW, aZ, aU, b_4, b_11, kj, eq_self, ne_eq, not_true_eq_false, not_false_eq_true, Classical.not_not, decide_true, decide_false, and_true, true_and, and_false, false_and, and_self, or_true, true_or, or_false, false_or, or_self, if_true, if_false, ite_true, ite_false, Bool.eq_false_iff, Bool.not_eq_eq_eq_not, Bool.true_eq_false, Bool.false_eq_true, reduceCtorEq]; rfl) | (simp [becS, bitS, sp_as, FB, FF, FK, FN, FS, FM, FZ, fnd, mv, aN, b_4, b_11, kj]; done)
      · try simp only [mv_now, mv_fnd, mv_tap, mv_kep]
        first | (simp only [up_at, sN, becS, bitS, sp_as, FB, FF, FK, FN, FS, FM, FZ, fnd, mv, aN, aF, aK, aH, aT, aS, aW, aZ, aU, b_4, b_11, kj, eq_self, ne_eq, not_true_eq_false, not_false_eq_true, Classical.not_not, decide_true, decide_false, and_true, true_and, and_false, false_and, and_self, or_true, true_or, or_false, false_or, or_self, if_true, if_false, ite_true, ite_false, Bool.eq_false_iff, Bool.not_eq_eq_eq_not, Bool.true_eq_false, Bool.false_eq_true, reduceCtorEq]; done) | (simp only [up_at, sN, becS, bitS, sp_as, FB, FF, FK, FN, FS, FM, FZ, fnd, mv, aN, aF, aK, aH, aT, aS, aW, aZ, aU, b_4, b_11, kj, eq_self, ne_eq, not_true_eq_false, not_false_eq_true, Classical.not_not, decide_true, decide_false, and_true, true_and, and_false, false_and, and_self, or_true, true_or, or_false, false_or, or_self, if_true, if_false, ite_true, ite_false, Bool.eq_false_iff, Bool.not_eq_eq_eq_not, Bool.true_eq_false, Bool.false_eq_true, reduceCtorEq]; rfl) | (simp [mv_now, mv_fnd, up_at, sN, becS, bitS, sp_as, FB, FF, FK, FN, FS, FM, FZ, fnd, mv, aN, b_4, b_11, kj]; done)
      · repeat first | exact (fun _ _ => rfl) | refine frU (by decide) ?_
      · repeat first | exact id | refine mtU (by decide) ?_
  · refine g_if_eq (pc := 7) (tgt := 17) C dX12_as_7 (by decide) (fun _ => ?_) (fun c => absurd c (by decide))
    refine g_al0n (pc := 17) C dX12_as_17 ?_
    refine g_ldc (pc := 18) C dX12_as_18 kX12_57 ?_
    refine s_VI (pc := 20) (st := []) C h135 rfl (c_X12_finding (d := d - 1) (by omega) σ (i := 0) (by decide) (w := ((-1000001))) (by decide)) (by omega) lX12_62 dX12_as_20 rfl (Nat.le_of_ble_eq_true rfl) rfl ?_
    refine r_P C hr dX12_as_23 ⟨?_, ?_, ?_, ?_⟩
    · first | (simp only [sp_as, FB, FF, FK, FN, FS, FM, FZ, fnd, becS, bitS, sN, mv, aN, aF, aK, aH, aT, aS, aW, aZ, aU, b_4, eq_self, ne_eq, not_true_eq_false, not_false_eq_true, Classical.not_not, decide_true, decide_false, and_true, true_and, and_false, false_and, and_self, or_true, true_or, or_false, false_or, or_self, if_true, if_false, ite_true, ite_false, Bool.eq_false_iff, Bool.not_eq_eq_eq_not, Bool.true_eq_false, Bool.false_eq_true, reduceCtorEq]; done) | (simp only [sp_as, FB, FF, FK, FN, FS, FM, FZ, fnd, becS, bitS, sN, mv, aN, aF, aK, aH, aT, aS, aW, aZ, aU, b_4, eq_self, ne_eq, not_true_eq_false, not_false_eq_true, Classical.not_not, decide_true, decide_false, and_true, true_and, and_false, false_and, and_self, or_true, true_or, or_false, false_or, or_self, if_true, if_false, ite_true, ite_false, Bool.eq_false_iff, Bool.not_eq_eq_eq_not, Bool.true_eq_false, Bool.false_eq_true, reduceCtorEq]; rfl) | (simp [becS, bitS, sp_as, FB, FF, FK, FN, FS, FM, FZ, fnd, mv, aN, b_4]; done)
    · try simp only [mv_now, mv_fnd, mv_tap, mv_kep]
      first | (simp only [up_at, sN, becS, bitS, sp_as, FB, FF, FK, FN, FS, FM, FZ, fnd, mv, aN, aF, aK, aH, aT, aS, aW, aZ, aU, b_4, eq_self, ne_eq, not_true_eq_false, not_false_eq_true, Classical.not_not, decide_true, decide_false, and_true, true_and, and_false, false_and, and_self, or_true, true_or, or_false, false_or, or_self, if_true, if_false, ite_true, ite_false, Bool.eq_false_iff, Bool.not_eq_eq_eq_not, Bool.true_eq_false, Bool.false_eq_true, reduceCtorEq]; done) | (simp only [up_at, sN, becS, bitS, sp_as, FB, FF, FK, FN, FS, FM, FZ, fnd, mv, aN, aF, aK, aH, aT, aS, aW, aZ, aU, b_4, eq_self, ne_eq, not_true_eq_false, not_false_eq_true, Classical.not_not, decide_true, decide_false, and_true, true_and, and_false, false_and, and_self, or_true, true_or, or_false, false_or, or_self, if_true, if_false, ite_true, ite_false, Bool.eq_false_iff, Bool.not_eq_eq_eq_not, Bool.true_eq_false, Bool.false_eq_true, reduceCtorEq]; rfl) | (simp [mv_now, mv_fnd, up_at, sN, becS, bitS, sp_as, FB, FF, FK, FN, FS, FM, FZ, fnd, mv, aN, b_4]; done)
    · repeat first | exact (fun _ _ => rfl) | refine frU (by decide) ?_
    · repeat first | exact id | refine mtU (by decide) ?_

theorem m_back {d : Nat} (hd : 3 ≤ d) (σ : Sg) (hI : INV (σ 136)) (a : Int32) : CP d mX12_back [.ref 135, .int a] σ (MPo σ (sp_back (mv σ) a)) := by
  refine con_of (by decide) (catL rfl) (Nat.le_of_ble_eq_true rfl) ?_
  intro μ ω C hr
  have C : Cx μ ω "TowFieldModel" cX12_back 2 d := C
  have hr : (mH μ).sig.returnType = some .int := hr
  show G μ ω (RQ μ ω (pP (MPo σ (sp_back (mv σ) a)))) 0 [some (.ref 135), some (.int a)] [] (mk σ) 0 0
  refine g_al0n (pc := 0) C dX12_back_0 ?_
  refine g_il1n (pc := 1) C dX12_back_1 ?_
  refine g_bipush (pc := 2) (v := 7) C dX12_back_2 (by decide) ?_
  refine s_VB (pc := 4) (st := []) C h135 rfl (c_X12_isE (d := d - 1) (by omega) σ a (c := 7) (by decide) rfl) (by omega) lX12_71 dX12_back_4 rfl (Nat.le_of_ble_eq_true rfl) rfl (fun b_4 => ?_) (fun b_4 => ?_)
  · have hn7 := hI.n7.2
    obtain ⟨j, hj, rfl⟩ := (is_iff hI.n7.1 (by have := hI.n7.2; omega)).mp b_4
    have kj : (nI j).toNatClampNeg = j := nI_clamp (by omega)
    refine g_if_ne (pc := 7) (tgt := 17) C dX12_back_7 (by decide) (fun _ => ?_) (fun c => absurd c (by decide))
    refine g_al0n (pc := 17) C dX12_back_17 ?_
    refine g_il1n (pc := 18) C dX12_back_18 ?_
    refine g_bipush (pc := 19) (v := 6) C dX12_back_19 (by decide) ?_
    refine s_VI (pc := 21) (st := []) C h135 rfl (c_X12_askOf (d := d - 1) (by omega) σ (a := j) (f := 6) (by omega) (by omega) rfl rfl) (by omega) lX12_67 dX12_back_21 rfl (Nat.le_of_ble_eq_true rfl) rfl ?_
    refine g_if_eq (pc := 24) (tgt := 34) C dX12_back_24 (by decide) (fun c_24 => ?_) (fun c_24 => ?_)
    · refine g_al0n (pc := 34) C dX12_back_34 ?_
      refine s_getR (pc := 35) C fX12_9 h135 rfl dX12_back_35 ?_
      refine g_sipush (pc := 38) (v := 146) C dX12_back_38 (by decide) ?_
      refine g_bipush (pc := 41) (v := 10) C dX12_back_41 (by decide) ?_
      refine g_il1n (pc := 43) C dX12_back_43 ?_
      refine g_imul (pc := 44) C dX12_back_44 ?_
      refine g_iadd (pc := 45) C dX12_back_45 ?_
      refine g_bipush (pc := 46) (v := 6) C dX12_back_46 (by decide) ?_
      refine g_iadd (pc := 48) C dX12_back_48 ?_
      refine g_iconst (pc := 49) (v := 3) C dX12_back_49 (by decide) ?_
      refine s_iast (pc := 50) (q := (146 + (10 * j)) + 6) C h136 (by first | (simp only [ixl, nI_add, pk_mul]; done) | rfl | decide) (by omega) (Nat.le_of_ble_eq_true rfl) dX12_back_50 ?_
      refine g_iconst (pc := 51) (v := 1) C dX12_back_51 (by decide) ?_
      refine r_P C hr dX12_back_52 ⟨?_, ?_, ?_, ?_⟩
      · first | (simp only [sp_back, FB, FF, FK, FN, FS, FM, FZ, fnd, becS, bitS, sN, mv, aN, aF, aK, aH, aT, aS, aW, aZ, aU, b_4, c_24, kj, eq_self, ne_eq, not_true_eq_false, not_false_eq_true, Classical.not_not, decide_true, decide_false, and_true, true_and, and_false, false_and, and_self, or_true, true_or, or_false, false_or, or_self, if_true, if_false, ite_true, ite_false, Bool.eq_false_iff, Bool.not_eq_eq_eq_not, Bool.true_eq_false, Bool.false_eq_true, reduceCtorEq]; done) | (simp only [sp_back, FB, FF, FK, FN, FS, FM, FZ, fnd, becS, bitS, sN, mv, aN, aF, aK, aH, aT, aS, aW, aZ, aU, b_4, c_24, kj, eq_self, ne_eq, not_true_eq_false, not_false_eq_true, Classical.not_not, decide_true, decide_false, and_true, true_and, and_false, false_and, and_self, or_true, true_or, or_false, false_or, or_self, if_true, if_false, ite_true, ite_false, Bool.eq_false_iff, Bool.not_eq_eq_eq_not, Bool.true_eq_false, Bool.false_eq_true, reduceCtorEq]; rfl) | (simp [becS, bitS, sp_back, FB, FF, FK, FN, FS, FM, FZ, fnd, mv, aN, b_4, c_24, kj]; done)
      · try simp only [mv_now, mv_fnd, mv_tap, mv_kep]
        first | (simp only [up_at, sN, becS, bitS, sp_back, FB, FF, FK, FN, FS, FM, FZ, fnd, mv, aN, aF, aK, aH, aT, aS, aW, aZ, aU, b_4, c_24, kj, eq_self, ne_eq, not_true_eq_false, not_false_eq_true, Classical.not_not, decide_true, decide_false, and_true, true_and, and_false, false_and, and_self, or_true, true_or, or_false, false_or, or_self, if_true, if_false, ite_true, ite_false, Bool.eq_false_iff, Bool.not_eq_eq_eq_not, Bool.true_eq_false, Bool.false_eq_true, reduceCtorEq]; done) | (simp only [up_at, sN, becS, bitS, sp_back, FB, FF, FK, FN, FS, FM, FZ, fnd, mv, aN, aF, aK, aH, aT, aS, aW, aZ, aU, b_4, c_24, kj, eq_self, ne_eq, not_true_eq_false, not_false_eq_true, Classical.not_not, decide_true, decide_false, and_true, true_and, and_false, false_and, and_self, or_true, true_or, or_false, false_or, or_self, if_true, if_false, ite_true, ite_false, Bool.eq_false_iff, Bool.not_eq_eq_eq_not, Bool.true_eq_false, Bool.false_eq_true, reduceCtorEq]; rfl) | (simp [mv_now, mv_fnd, up_at, sN, becS, bitS, sp_back, FB, FF, FK, FN, FS, FM, FZ, fnd, mv, aN, b_4, c_24, kj]; done)
      · repeat first | exact (fun _ _ => rfl) | refine frU (by decide) ?_
      · repeat first | exact id | refine mtU (by decide) ?_
    · refine g_al0n (pc := 27) C dX12_back_27 ?_
      refine g_ldc (pc := 28) C dX12_back_28 kX12_95 ?_
      refine s_VI (pc := 30) (st := []) C h135 rfl (c_X12_finding (d := d - 1) (by omega) σ (i := 4) (by decide) (w := ((-1000005))) (by decide)) (by omega) lX12_62 dX12_back_30 rfl (Nat.le_of_ble_eq_true rfl) rfl ?_
      refine r_P C hr dX12_back_33 ⟨?_, ?_, ?_, ?_⟩
      · first | (simp only [sp_back, FB, FF, FK, FN, FS, FM, FZ, fnd, becS, bitS, sN, mv, aN, aF, aK, aH, aT, aS, aW, aZ, aU, b_4, c_24, kj, eq_self, ne_eq, not_true_eq_false, not_false_eq_true, Classical.not_not, decide_true, decide_false, and_true, true_and, and_false, false_and, and_self, or_true, true_or, or_false, false_or, or_self, if_true, if_false, ite_true, ite_false, Bool.eq_false_iff, Bool.not_eq_eq_eq_not, Bool.true_eq_false, Bool.false_eq_true, reduceCtorEq]; done) | (simp only [sp_back, FB, FF, FK, FN, FS, FM, FZ, fnd, becS, bitS, sN, mv, aN, aF, aK, aH, aT, aS, aW, aZ, aU, b_4, c_24, kj, eq_self, ne_eq, not_true_eq_false, not_false_eq_true, Classical.not_not, decide_true, decide_false, and_true, true_and, and_false, false_and, and_self, or_true, true_or, or_false, false_or, or_self, if_true, if_false, ite_true, ite_false, Bool.eq_false_iff, Bool.not_eq_eq_eq_not, Bool.true_eq_false, Bool.false_eq_true, reduceCtorEq]; rfl) | (simp [becS, bitS, sp_back, FB, FF, FK, FN, FS, FM, FZ, fnd, mv, aN, b_4, c_24, kj]; done)
      · try simp only [mv_now, mv_fnd, mv_tap, mv_kep]
        first | (simp only [up_at, sN, becS, bitS, sp_back, FB, FF, FK, FN, FS, FM, FZ, fnd, mv, aN, aF, aK, aH, aT, aS, aW, aZ, aU, b_4, c_24, kj, eq_self, ne_eq, not_true_eq_false, not_false_eq_true, Classical.not_not, decide_true, decide_false, and_true, true_and, and_false, false_and, and_self, or_true, true_or, or_false, false_or, or_self, if_true, if_false, ite_true, ite_false, Bool.eq_false_iff, Bool.not_eq_eq_eq_not, Bool.true_eq_false, Bool.false_eq_true, reduceCtorEq]; done) | (simp only [up_at, sN, becS, bitS, sp_back, FB, FF, FK, FN, FS, FM, FZ, fnd, mv, aN, aF, aK, aH, aT, aS, aW, aZ, aU, b_4, c_24, kj, eq_self, ne_eq, not_true_eq_false, not_false_eq_true, Classical.not_not, decide_true, decide_false, and_true, true_and, and_false, false_and, and_self, or_true, true_or, or_false, false_or, or_self, if_true, if_false, ite_true, ite_false, Bool.eq_false_iff, Bool.not_eq_eq_eq_not, Bool.true_eq_false, Bool.false_eq_true, reduceCtorEq]; rfl) | (simp [mv_now, mv_fnd, up_at, sN, becS, bitS, sp_back, FB, FF, FK, FN, FS, FM, FZ, fnd, mv, aN, b_4, c_24, kj]; done)
      · repeat first | exact (fun _ _ => rfl) | refine frU (by decide) ?_
      · repeat first | exact id | refine mtU (by decide) ?_
  · refine g_if_ne (pc := 7) (tgt := 17) C dX12_back_7 (by decide) (fun c => absurd c (by decide)) (fun _ => ?_)
    refine g_al0n (pc := 10) C dX12_back_10 ?_
    refine g_ldc (pc := 11) C dX12_back_11 kX12_57 ?_
    refine s_VI (pc := 13) (st := []) C h135 rfl (c_X12_finding (d := d - 1) (by omega) σ (i := 0) (by decide) (w := ((-1000001))) (by decide)) (by omega) lX12_62 dX12_back_13 rfl (Nat.le_of_ble_eq_true rfl) rfl ?_
    refine r_P C hr dX12_back_16 ⟨?_, ?_, ?_, ?_⟩
    · first | (simp only [sp_back, FB, FF, FK, FN, FS, FM, FZ, fnd, becS, bitS, sN, mv, aN, aF, aK, aH, aT, aS, aW, aZ, aU, b_4, eq_self, ne_eq, not_true_eq_false, not_false_eq_true, Classical.not_not, decide_true, decide_false, and_true, true_and, and_false, false_and, and_self, or_true, true_or, or_false, false_or, or_self, if_true, if_false, ite_true, ite_false, Bool.eq_false_iff, Bool.not_eq_eq_eq_not, Bool.true_eq_false, Bool.false_eq_true, reduceCtorEq]; done) | (simp only [sp_back, FB, FF, FK, FN, FS, FM, FZ, fnd, becS, bitS, sN, mv, aN, aF, aK, aH, aT, aS, aW, aZ, aU, b_4, eq_self, ne_eq, not_true_eq_false, not_false_eq_true, Classical.not_not, decide_true, decide_false, and_true, true_and, and_false, false_and, and_self, or_true, true_or, or_false, false_or, or_self, if_true, if_false, ite_true, ite_false, Bool.eq_false_iff, Bool.not_eq_eq_eq_not, Bool.true_eq_false, Bool.false_eq_true, reduceCtorEq]; rfl) | (simp [becS, bitS, sp_back, FB, FF, FK, FN, FS, FM, FZ, fnd, mv, aN, b_4]; done)
    · try simp only [mv_now, mv_fnd, mv_tap, mv_kep]
      first | (simp only [up_at, sN, becS, bitS, sp_back, FB, FF, FK, FN, FS, FM, FZ, fnd, mv, aN, aF, aK, aH, aT, aS, aW, aZ, aU, b_4, eq_self, ne_eq, not_true_eq_false, not_false_eq_true, Classical.not_not, decide_true, decide_false, and_true, true_and, and_false, false_and, and_self, or_true, true_or, or_false, false_or, or_self, if_true, if_false, ite_true, ite_false, Bool.eq_false_iff, Bool.not_eq_eq_eq_not, Bool.true_eq_false, Bool.false_eq_true, reduceCtorEq]; done) | (simp only [up_at, sN, becS, bitS, sp_back, FB, FF, FK, FN, FS, FM, FZ, fnd, mv, aN, aF, aK, aH, aT, aS, aW, aZ, aU, b_4, eq_self, ne_eq, not_true_eq_false, not_false_eq_true, Classical.not_not, decide_true, decide_false, and_true, true_and, and_false, false_and, and_self, or_true, true_or, or_false, false_or, or_self, if_true, if_false, ite_true, ite_false, Bool.eq_false_iff, Bool.not_eq_eq_eq_not, Bool.true_eq_false, Bool.false_eq_true, reduceCtorEq]; rfl) | (simp [mv_now, mv_fnd, up_at, sN, becS, bitS, sp_back, FB, FF, FK, FN, FS, FM, FZ, fnd, mv, aN, b_4]; done)
    · repeat first | exact (fun _ _ => rfl) | refine frU (by decide) ?_
    · repeat first | exact id | refine mtU (by decide) ?_

theorem m_pay {d : Nat} (hd : 3 ≤ d) (σ : Sg) (hI : INV (σ 136)) (p c : Int32) : CP d mX12_pay [.ref 135, .int p, .int c] σ (MPo σ (sp_pay (mv σ) p c)) := by
  refine con_of (by decide) (catL rfl) (Nat.le_of_ble_eq_true rfl) ?_
  intro μ ω C hr
  have C : Cx μ ω "TowFieldModel" cX12_pay 4 d := C
  have hr : (mH μ).sig.returnType = some .int := hr
  show G μ ω (RQ μ ω (pP (MPo σ (sp_pay (mv σ) p c)))) 0 [some (.ref 135), some (.int p), some (.int c), none] [] (mk σ) 0 0
  refine g_al0n (pc := 0) C dX12_pay_0 ?_
  refine g_il1n (pc := 1) C dX12_pay_1 ?_
  refine g_iconst (pc := 2) (v := 4) C dX12_pay_2 (by decide) ?_
  refine s_VB (pc := 3) (st := []) C h135 rfl (c_X12_isE (d := d - 1) (by omega) σ p (c := 4) (by decide) rfl) (by omega) lX12_71 dX12_pay_3 rfl (Nat.le_of_ble_eq_true rfl) rfl (fun b_3 => ?_) (fun b_3 => ?_)
  · have hn4 := hI.n4.2
    obtain ⟨j, hj, rfl⟩ := (is_iff hI.n4.1 (by have := hI.n4.2; omega)).mp b_3
    have kj : (nI j).toNatClampNeg = j := nI_clamp (by omega)
    refine g_if_eq (pc := 6) (tgt := 20) C dX12_pay_6 (by decide) (fun c => absurd c (by decide)) (fun _ => ?_)
    refine g_il2n (pc := 9) C dX12_pay_9 ?_
    refine g_iconst (pc := 10) (v := 1) C dX12_pay_10 (by decide) ?_
    refine g_ldcw (pc := 11) C dX12_pay_11 kX12_295 ?_
    refine s_SB (pc := 14) (st := []) C (c_X12_within (d := d - 1) (by omega) σ c 1 99999) (by omega) lX12_58 dX12_pay_14 rfl (Nat.le_of_ble_eq_true rfl) rfl (fun b_14 => ?_) (fun b_14 => ?_)
    · refine g_if_ne (pc := 17) (tgt := 27) C dX12_pay_17 (by decide) (fun _ => ?_) (fun c => absurd c (by decide))
      refine g_al0n (pc := 27) C dX12_pay_27 ?_
      refine g_il1n (pc := 28) C dX12_pay_28 ?_
      refine g_iconst (pc := 29) (v := 3) C dX12_pay_29 (by decide) ?_
      refine s_VI (pc := 30) (st := []) C h135 rfl (c_X12_personOf (d := d - 1) (by omega) σ (a := j) (f := 3) (by omega) (by omega) rfl rfl) (by omega) lX12_82 dX12_pay_30 rfl (Nat.le_of_ble_eq_true rfl) rfl ?_
      refine g_is3n (pc := 33) C dX12_pay_33 ?_
      refine g_il3n (pc := 34) C dX12_pay_34 ?_
      refine g_il2n (pc := 35) C dX12_pay_35 ?_
      refine g_icmp_geL (pc := 36) (tgt := 46) C dX12_pay_36 (by decide) (fun c_36 => ?_) (fun c_36 => ?_)
      · refine g_al0n (pc := 46) C dX12_pay_46 ?_
        refine s_getR (pc := 47) C fX12_9 h135 rfl dX12_pay_47 ?_
        refine g_bipush (pc := 50) (v := 90) C dX12_pay_50 (by decide) ?_
        refine g_iconst (pc := 52) (v := 4) C dX12_pay_52 (by decide) ?_
        refine g_il1n (pc := 53) C dX12_pay_53 ?_
        refine g_imul (pc := 54) C dX12_pay_54 ?_
        refine g_iadd (pc := 55) C dX12_pay_55 ?_
        refine g_iconst (pc := 56) (v := 3) C dX12_pay_56 (by decide) ?_
        refine g_iadd (pc := 57) C dX12_pay_57 ?_
        refine g_il3n (pc := 58) C dX12_pay_58 ?_
        refine g_il2n (pc := 59) C dX12_pay_59 ?_
        refine g_isub (pc := 60) C dX12_pay_60 ?_
        refine s_iast (pc := 61) (q := (90 + (4 * j)) + 3) C h136 (by first | (simp only [ixl, nI_add, pk_mul]; done) | rfl | decide) (by omega) (Nat.le_of_ble_eq_true rfl) dX12_pay_61 ?_
        refine g_il3n (pc := 62) C dX12_pay_62 ?_
        refine g_il2n (pc := 63) C dX12_pay_63 ?_
        refine g_isub (pc := 64) C dX12_pay_64 ?_
        refine r_P C hr dX12_pay_65 ⟨?_, ?_, ?_, ?_⟩
        · first | (simp only [sp_pay, FB, FF, FK, FN, FS, FM, FZ, fnd, becS, bitS, sN, mv, aN, aF, aK, aH, aT, aS, aW, aZ, aU, b_3, b_14, c_36, kj, eq_self, ne_eq, not_true_eq_false, not_false_eq_true, Classical.not_not, decide_true, decide_false, and_true, true_and, and_false, false_and, and_self, or_true, true_or, or_false, false_or, or_self, if_true, if_false, ite_true, ite_false, Bool.eq_false_iff, Bool.not_eq_eq_eq_not, Bool.true_eq_false, Bool.false_eq_true, reduceCtorEq]; done) | (simp only [sp_pay, FB, FF, FK, FN, FS, FM, FZ, fnd, becS, bitS, sN, mv, aN, aF, aK, aH, aT, aS, aW, aZ, aU, b_3, b_14, c_36, kj, eq_self, ne_eq, not_true_eq_false, not_false_eq_true, Classical.not_not, decide_true, decide_false, and_true, true_and, and_false, false_and, and_self, or_true, true_or, or_false, false_or, or_self, if_true, if_false, ite_true, ite_false, Bool.eq_false_iff, Bool.not_eq_eq_eq_not, Bool.true_eq_false, Bool.false_eq_true, reduceCtorEq]; rfl) | (simp [becS, bitS, sp_pay, FB, FF, FK, FN, FS, FM, FZ, fnd, mv, aN, b_3, b_14, c_36, kj]; done)
        · try simp only [mv_now, mv_fnd, mv_tap, mv_kep]
          first | (simp only [up_at, sN, becS, bitS, sp_pay, FB, FF, FK, FN, FS, FM, FZ, fnd, mv, aN, aF, aK, aH, aT, aS, aW, aZ, aU, b_3, b_14, c_36, kj, eq_self, ne_eq, not_true_eq_false, not_false_eq_true, Classical.not_not, decide_true, decide_false, and_true, true_and, and_false, false_and, and_self, or_true, true_or, or_false, false_or, or_self, if_true, if_false, ite_true, ite_false, Bool.eq_false_iff, Bool.not_eq_eq_eq_not, Bool.true_eq_false, Bool.false_eq_true, reduceCtorEq]; done) | (simp only [up_at, sN, becS, bitS, sp_pay, FB, FF, FK, FN, FS, FM, FZ, fnd, mv, aN, aF, aK, aH, aT, aS, aW, aZ, aU, b_3, b_14, c_36, kj, eq_self, ne_eq, not_true_eq_false, not_false_eq_true, Classical.not_not, decide_true, decide_false, and_true, true_and, and_false, false_and, and_self, or_true, true_or, or_false, false_or, or_self, if_true, if_false, ite_true, ite_false, Bool.eq_false_iff, Bool.not_eq_eq_eq_not, Bool.true_eq_false, Bool.false_eq_true, reduceCtorEq]; rfl) | (simp [mv_now, mv_fnd, up_at, sN, becS, bitS, sp_pay, FB, FF, FK, FN, FS, FM, FZ, fnd, mv, aN, b_3, b_14, c_36, kj]; done)
        · repeat first | exact (fun _ _ => rfl) | refine frU (by decide) ?_
        · repeat first | exact id | refine mtU (by decide) ?_
      · refine g_al0n (pc := 39) C dX12_pay_39 ?_
        refine g_ldc (pc := 40) C dX12_pay_40 kX12_95 ?_
        refine s_VI (pc := 42) (st := []) C h135 rfl (c_X12_finding (d := d - 1) (by omega) σ (i := 4) (by decide) (w := ((-1000005))) (by decide)) (by omega) lX12_62 dX12_pay_42 rfl (Nat.le_of_ble_eq_true rfl) rfl ?_
        refine r_P C hr dX12_pay_45 ⟨?_, ?_, ?_, ?_⟩
        · first | (simp only [sp_pay, FB, FF, FK, FN, FS, FM, FZ, fnd, becS, bitS, sN, mv, aN, aF, aK, aH, aT, aS, aW, aZ, aU, b_3, b_14, c_36, kj, eq_self, ne_eq, not_true_eq_false, not_false_eq_true, Classical.not_not, decide_true, decide_false, and_true, true_and, and_false, false_and, and_self, or_true, true_or, or_false, false_or, or_self, if_true, if_false, ite_true, ite_false, Bool.eq_false_iff, Bool.not_eq_eq_eq_not, Bool.true_eq_false, Bool.false_eq_true, reduceCtorEq]; done) | (simp only [sp_pay, FB, FF, FK, FN, FS, FM, FZ, fnd, becS, bitS, sN, mv, aN, aF, aK, aH, aT, aS, aW, aZ, aU, b_3, b_14, c_36, kj, eq_self, ne_eq, not_true_eq_false, not_false_eq_true, Classical.not_not, decide_true, decide_false, and_true, true_and, and_false, false_and, and_self, or_true, true_or, or_false, false_or, or_self, if_true, if_false, ite_true, ite_false, Bool.eq_false_iff, Bool.not_eq_eq_eq_not, Bool.true_eq_false, Bool.false_eq_true, reduceCtorEq]; rfl) | (simp [becS, bitS, sp_pay, FB, FF, FK, FN, FS, FM, FZ, fnd, mv, aN, b_3, b_14, c_36, kj]; done)
        · try simp only [mv_now, mv_fnd, mv_tap, mv_kep]
          first | (simp only [up_at, sN, becS, bitS, sp_pay, FB, FF, FK, FN, FS, FM, FZ, fnd, mv, aN, aF, aK, aH, aT, aS, aW, aZ, aU, b_3, b_14, c_36, kj, eq_self, ne_eq, not_true_eq_false, not_false_eq_true, Classical.not_not, decide_true, decide_false, and_true, true_and, and_false, false_and, and_self, or_true, true_or, or_false, false_or, or_self, if_true, if_false, ite_true, ite_false, Bool.eq_false_iff, Bool.not_eq_eq_eq_not, Bool.true_eq_false, Bool.false_eq_true, reduceCtorEq]; done) | (simp only [up_at, sN, becS, bitS, sp_pay, FB, FF, FK, FN, FS, FM, FZ, fnd, mv, aN, aF, aK, aH, aT, aS, aW, aZ, aU, b_3, b_14, c_36, kj, eq_self, ne_eq, not_true_eq_false, not_false_eq_true, Classical.not_not, decide_true, decide_false, and_true, true_and, and_false, false_and, and_self, or_true, true_or, or_false, false_or, or_self, if_true, if_false, ite_true, ite_false, Bool.eq_false_iff, Bool.not_eq_eq_eq_not, Bool.true_eq_false, Bool.false_eq_true, reduceCtorEq]; rfl) | (simp [mv_now, mv_fnd, up_at, sN, becS, bitS, sp_pay, FB, FF, FK, FN, FS, FM, FZ, fnd, mv, aN, b_3, b_14, c_36, kj]; done)
        · repeat first | exact (fun _ _ => rfl) | refine frU (by decide) ?_
        · repeat first | exact id | refine mtU (by decide) ?_
    · refine g_if_ne (pc := 17) (tgt := 27) C dX12_pay_17 (by decide) (fun c => absurd c (by decide)) (fun _ => ?_)
      refine g_al0n (pc := 20) C dX12_pay_20 ?_
      refine g_ldc (pc := 21) C dX12_pay_21 kX12_57 ?_
      refine s_VI (pc := 23) (st := []) C h135 rfl (c_X12_finding (d := d - 1) (by omega) σ (i := 0) (by decide) (w := ((-1000001))) (by decide)) (by omega) lX12_62 dX12_pay_23 rfl (Nat.le_of_ble_eq_true rfl) rfl ?_
      refine r_P C hr dX12_pay_26 ⟨?_, ?_, ?_, ?_⟩
      · first | (simp only [sp_pay, FB, FF, FK, FN, FS, FM, FZ, fnd, becS, bitS, sN, mv, aN, aF, aK, aH, aT, aS, aW, aZ, aU, b_3, b_14, kj, eq_self, ne_eq, not_true_eq_false, not_false_eq_true, Classical.not_not, decide_true, decide_false, and_true, true_and, and_false, false_and, and_self, or_true, true_or, or_false, false_or, or_self, if_true, if_false, ite_true, ite_false, Bool.eq_false_iff, Bool.not_eq_eq_eq_not, Bool.true_eq_false, Bool.false_eq_true, reduceCtorEq]; done) | (simp only [sp_pay, FB, FF, FK, FN, FS, FM, FZ, fnd, becS, bitS, sN, mv, aN, aF, aK, aH, aT, aS, aW, aZ, aU, b_3, b_14, kj, eq_self, ne_eq, not_true_eq_false, not_false_eq_true, Classical.not_not, decide_true, decide_false, and_true, true_and, and_false, false_and, and_self, or_true, true_or, or_false, false_or, or_self, if_true, if_false, ite_true, ite_false, Bool.eq_false_iff, Bool.not_eq_eq_eq_not, Bool.true_eq_false, Bool.false_eq_true, reduceCtorEq]; rfl) | (simp [becS, bitS, sp_pay, FB, FF, FK, FN, FS, FM, FZ, fnd, mv, aN, b_3, b_14, kj]; done)
      · try simp only [mv_now, mv_fnd, mv_tap, mv_kep]
        first | (simp only [up_at, sN, becS, bitS, sp_pay, FB, FF, FK, FN, FS, FM, FZ, fnd, mv, aN, aF, aK, aH, aT, aS, aW, aZ, aU, b_3, b_14, kj, eq_self, ne_eq, not_true_eq_false, not_false_eq_true, Classical.not_not, decide_true, decide_false, and_true, true_and, and_false, false_and, and_self, or_true, true_or, or_false, false_or, or_self, if_true, if_false, ite_true, ite_false, Bool.eq_false_iff, Bool.not_eq_eq_eq_not, Bool.true_eq_false, Bool.false_eq_true, reduceCtorEq]; done) | (simp only [up_at, sN, becS, bitS, sp_pay, FB, FF, FK, FN, FS, FM, FZ, fnd, mv, aN, aF, aK, aH, aT, aS, aW, aZ, aU, b_3, b_14, kj, eq_self, ne_eq, not_true_eq_false, not_false_eq_true, Classical.not_not, decide_true, decide_false, and_true, true_and, and_false, false_and, and_self, or_true, true_or, or_false, false_or, or_self, if_true, if_false, ite_true, ite_false, Bool.eq_false_iff, Bool.not_eq_eq_eq_not, Bool.true_eq_false, Bool.false_eq_true, reduceCtorEq]; rfl) | (simp [mv_now, mv_fnd, up_at, sN, becS, bitS, sp_pay, FB, FF, FK, FN, FS, FM, FZ, fnd, mv, aN, b_3, b_14, kj]; done)
      · repeat first | exact (fun _ _ => rfl) | refine frU (by decide) ?_
      · repeat first | exact id | refine mtU (by decide) ?_
  · refine g_if_eq (pc := 6) (tgt := 20) C dX12_pay_6 (by decide) (fun _ => ?_) (fun c => absurd c (by decide))
    refine g_al0n (pc := 20) C dX12_pay_20 ?_
    refine g_ldc (pc := 21) C dX12_pay_21 kX12_57 ?_
    refine s_VI (pc := 23) (st := []) C h135 rfl (c_X12_finding (d := d - 1) (by omega) σ (i := 0) (by decide) (w := ((-1000001))) (by decide)) (by omega) lX12_62 dX12_pay_23 rfl (Nat.le_of_ble_eq_true rfl) rfl ?_
    refine r_P C hr dX12_pay_26 ⟨?_, ?_, ?_, ?_⟩
    · first | (simp only [sp_pay, FB, FF, FK, FN, FS, FM, FZ, fnd, becS, bitS, sN, mv, aN, aF, aK, aH, aT, aS, aW, aZ, aU, b_3, eq_self, ne_eq, not_true_eq_false, not_false_eq_true, Classical.not_not, decide_true, decide_false, and_true, true_and, and_false, false_and, and_self, or_true, true_or, or_false, false_or, or_self, if_true, if_false, ite_true, ite_false, Bool.eq_false_iff, Bool.not_eq_eq_eq_not, Bool.true_eq_false, Bool.false_eq_true, reduceCtorEq]; done) | (simp only [sp_pay, FB, FF, FK, FN, FS, FM, FZ, fnd, becS, bitS, sN, mv, aN, aF, aK, aH, aT, aS, aW, aZ, aU, b_3, eq_self, ne_eq, not_true_eq_false, not_false_eq_true, Classical.not_not, decide_true, decide_false, and_true, true_and, and_false, false_and, and_self, or_true, true_or, or_false, false_or, or_self, if_true, if_false, ite_true, ite_false, Bool.eq_false_iff, Bool.not_eq_eq_eq_not, Bool.true_eq_false, Bool.false_eq_true, reduceCtorEq]; rfl) | (simp [becS, bitS, sp_pay, FB, FF, FK, FN, FS, FM, FZ, fnd, mv, aN, b_3]; done)
    · try simp only [mv_now, mv_fnd, mv_tap, mv_kep]
      first | (simp only [up_at, sN, becS, bitS, sp_pay, FB, FF, FK, FN, FS, FM, FZ, fnd, mv, aN, aF, aK, aH, aT, aS, aW, aZ, aU, b_3, eq_self, ne_eq, not_true_eq_false, not_false_eq_true, Classical.not_not, decide_true, decide_false, and_true, true_and, and_false, false_and, and_self, or_true, true_or, or_false, false_or, or_self, if_true, if_false, ite_true, ite_false, Bool.eq_false_iff, Bool.not_eq_eq_eq_not, Bool.true_eq_false, Bool.false_eq_true, reduceCtorEq]; done) | (simp only [up_at, sN, becS, bitS, sp_pay, FB, FF, FK, FN, FS, FM, FZ, fnd, mv, aN, aF, aK, aH, aT, aS, aW, aZ, aU, b_3, eq_self, ne_eq, not_true_eq_false, not_false_eq_true, Classical.not_not, decide_true, decide_false, and_true, true_and, and_false, false_and, and_self, or_true, true_or, or_false, false_or, or_self, if_true, if_false, ite_true, ite_false, Bool.eq_false_iff, Bool.not_eq_eq_eq_not, Bool.true_eq_false, Bool.false_eq_true, reduceCtorEq]; rfl) | (simp [mv_now, mv_fnd, up_at, sN, becS, bitS, sp_pay, FB, FF, FK, FN, FS, FM, FZ, fnd, mv, aN, b_3]; done)
    · repeat first | exact (fun _ _ => rfl) | refine frU (by decide) ?_
    · repeat first | exact id | refine mtU (by decide) ?_

theorem m_plane {d : Nat} (hd : 3 ≤ d) (σ : Sg) (hI : INV (σ 136)) : CP d mX12_plane [.ref 135] σ (MPo σ (sp_plane (mv σ))) := by
  have hn3 := hI.n3.2
  have hn4 := hI.n4.2
  have hn5 := hI.n5.2
  have hn6 := hI.n6.2
  have hn7 := hI.n7.2
  refine con_of (by decide) (catL rfl) (Nat.le_of_ble_eq_true rfl) ?_
  intro μ ω C hr
  have C : Cx μ ω "TowFieldModel" cX12_plane 2 d := C
  have hr : (mH μ).sig.returnType = some .int := hr
  show G μ ω (RQ μ ω (pP (MPo σ (sp_plane (mv σ))))) 0 [some (.ref 135), none] [] (mk σ) 0 0
  refine g_al0n (pc := 0) C dX12_plane_0 ?_
  refine s_getR (pc := 1) C fX12_9 h135 rfl dX12_plane_1 ?_
  refine g_bipush (pc := 4) (v := 6) C dX12_plane_4 (by decide) ?_
  refine s_iald (pc := 6) (q := 6) C h136 rfl (by omega) (Nat.le_of_ble_eq_true rfl) dX12_plane_6 ?_
  refine g_is1n (pc := 7) C dX12_plane_7 ?_
  refine g_il1n (pc := 8) C dX12_plane_8 ?_
  refine g_iconst (pc := 9) (v := 3) C dX12_plane_9 (by decide) ?_
  refine g_icmp_ne (pc := 10) (tgt := 20) C dX12_plane_10 (by decide) (fun c_10 => ?_) (fun c_10 => ?_)
  · refine g_al0n (pc := 20) C dX12_plane_20 ?_
    refine s_getR (pc := 21) C fX12_9 h135 rfl dX12_plane_21 ?_
    refine g_bipush (pc := 24) (v := 30) C dX12_plane_24 (by decide) ?_
    refine g_il1n (pc := 26) C dX12_plane_26 ?_
    refine g_iadd (pc := 27) C dX12_plane_27 ?_
    refine g_iconst (pc := 28) (v := (-1)) C dX12_plane_28 (by decide) ?_
    refine s_iast (pc := 29) (q := 30 + (cnt (σ 136) 6)) C h136 (by first | (simp only [ixl, nI_add, pk_mul]; done) | rfl | decide | (rw [hI.n3.1]; simp only [ixl, nI_add, pk_mul]; done) | (rw [hI.n4.1]; simp only [ixl, nI_add, pk_mul]; done) | (rw [hI.n5.1]; simp only [ixl, nI_add, pk_mul]; done) | (rw [hI.n6.1]; simp only [ixl, nI_add, pk_mul]; done) | (rw [hI.n7.1]; simp only [ixl, nI_add, pk_mul]; done)) (by omega) (Nat.le_of_ble_eq_true rfl) dX12_plane_29 ?_
    refine g_al0n (pc := 30) C dX12_plane_30 ?_
    refine s_getR (pc := 31) C fX12_9 h135 rfl dX12_plane_31 ?_
    refine g_bipush (pc := 34) (v := 6) C dX12_plane_34 (by decide) ?_
    refine g_dup2 (pc := 36) C dX12_plane_36 rfl rfl ?_
    refine s_iald (pc := 37) (q := 6) C h136 rfl (by omega) (Nat.le_of_ble_eq_true rfl) dX12_plane_37 ?_
    refine g_iconst (pc := 38) (v := 1) C dX12_plane_38 (by decide) ?_
    refine g_iadd (pc := 39) C dX12_plane_39 ?_
    refine s_iast (pc := 40) (q := 6) C h136 rfl (by omega) (Nat.le_of_ble_eq_true rfl) dX12_plane_40 ?_
    refine g_il1n (pc := 41) C dX12_plane_41 ?_
    refine r_P C hr dX12_plane_42 ⟨?_, ?_, ?_, ?_⟩
    · first | (simp only [sp_plane, FB, FF, FK, FN, FS, FM, FZ, fnd, becS, bitS, sN, mv, aN, aF, aK, aH, aT, aS, aW, aZ, aU, c_10, up_at, eq_self, ne_eq, not_true_eq_false, not_false_eq_true, Classical.not_not, decide_true, decide_false, and_true, true_and, and_false, false_and, and_self, or_true, true_or, or_false, false_or, or_self, if_true, if_false, ite_true, ite_false, Bool.eq_false_iff, Bool.not_eq_eq_eq_not, Bool.true_eq_false, Bool.false_eq_true, reduceCtorEq]; done) | (simp only [sp_plane, FB, FF, FK, FN, FS, FM, FZ, fnd, becS, bitS, sN, mv, aN, aF, aK, aH, aT, aS, aW, aZ, aU, c_10, up_at, eq_self, ne_eq, not_true_eq_false, not_false_eq_true, Classical.not_not, decide_true, decide_false, and_true, true_and, and_false, false_and, and_self, or_true, true_or, or_false, false_or, or_self, if_true, if_false, ite_true, ite_false, Bool.eq_false_iff, Bool.not_eq_eq_eq_not, Bool.true_eq_false, Bool.false_eq_true, reduceCtorEq]; rfl) | (simp [becS, bitS, sp_plane, FB, FF, FK, FN, FS, FM, FZ, fnd, mv, aN, c_10, up_at]; done)
    · try simp only [mv_now, mv_fnd, mv_tap, mv_kep]
      first | (simp only [up_at, sN, becS, bitS, sp_plane, FB, FF, FK, FN, FS, FM, FZ, fnd, mv, aN, aF, aK, aH, aT, aS, aW, aZ, aU, c_10, up_at, eq_self, ne_eq, not_true_eq_false, not_false_eq_true, Classical.not_not, decide_true, decide_false, and_true, true_and, and_false, false_and, and_self, or_true, true_or, or_false, false_or, or_self, if_true, if_false, ite_true, ite_false, Bool.eq_false_iff, Bool.not_eq_eq_eq_not, Bool.true_eq_false, Bool.false_eq_true, reduceCtorEq]; done) | (simp only [up_at, sN, becS, bitS, sp_plane, FB, FF, FK, FN, FS, FM, FZ, fnd, mv, aN, aF, aK, aH, aT, aS, aW, aZ, aU, c_10, up_at, eq_self, ne_eq, not_true_eq_false, not_false_eq_true, Classical.not_not, decide_true, decide_false, and_true, true_and, and_false, false_and, and_self, or_true, true_or, or_false, false_or, or_self, if_true, if_false, ite_true, ite_false, Bool.eq_false_iff, Bool.not_eq_eq_eq_not, Bool.true_eq_false, Bool.false_eq_true, reduceCtorEq]; rfl) | (simp [mv_now, mv_fnd, up_at, sN, becS, bitS, sp_plane, FB, FF, FK, FN, FS, FM, FZ, fnd, mv, aN, c_10, up_at]; done)
    · repeat first | exact (fun _ _ => rfl) | refine frU (by decide) ?_
    · repeat first | exact id | refine mtU (by decide) ?_
  · refine g_al0n (pc := 13) C dX12_plane_13 ?_
    refine g_ldc (pc := 14) C dX12_plane_14 kX12_66 ?_
    refine s_VI (pc := 16) (st := []) C h135 rfl (c_X12_finding (d := d - 1) (by omega) σ (i := 1) (by decide) (w := ((-1000002))) (by decide)) (by omega) lX12_62 dX12_plane_16 rfl (Nat.le_of_ble_eq_true rfl) rfl ?_
    refine r_P C hr dX12_plane_19 ⟨?_, ?_, ?_, ?_⟩
    · first | (simp only [sp_plane, FB, FF, FK, FN, FS, FM, FZ, fnd, becS, bitS, sN, mv, aN, aF, aK, aH, aT, aS, aW, aZ, aU, c_10, up_at, eq_self, ne_eq, not_true_eq_false, not_false_eq_true, Classical.not_not, decide_true, decide_false, and_true, true_and, and_false, false_and, and_self, or_true, true_or, or_false, false_or, or_self, if_true, if_false, ite_true, ite_false, Bool.eq_false_iff, Bool.not_eq_eq_eq_not, Bool.true_eq_false, Bool.false_eq_true, reduceCtorEq]; done) | (simp only [sp_plane, FB, FF, FK, FN, FS, FM, FZ, fnd, becS, bitS, sN, mv, aN, aF, aK, aH, aT, aS, aW, aZ, aU, c_10, up_at, eq_self, ne_eq, not_true_eq_false, not_false_eq_true, Classical.not_not, decide_true, decide_false, and_true, true_and, and_false, false_and, and_self, or_true, true_or, or_false, false_or, or_self, if_true, if_false, ite_true, ite_false, Bool.eq_false_iff, Bool.not_eq_eq_eq_not, Bool.true_eq_false, Bool.false_eq_true, reduceCtorEq]; rfl) | (simp [becS, bitS, sp_plane, FB, FF, FK, FN, FS, FM, FZ, fnd, mv, aN, c_10, up_at]; done)
    · try simp only [mv_now, mv_fnd, mv_tap, mv_kep]
      first | (simp only [up_at, sN, becS, bitS, sp_plane, FB, FF, FK, FN, FS, FM, FZ, fnd, mv, aN, aF, aK, aH, aT, aS, aW, aZ, aU, c_10, up_at, eq_self, ne_eq, not_true_eq_false, not_false_eq_true, Classical.not_not, decide_true, decide_false, and_true, true_and, and_false, false_and, and_self, or_true, true_or, or_false, false_or, or_self, if_true, if_false, ite_true, ite_false, Bool.eq_false_iff, Bool.not_eq_eq_eq_not, Bool.true_eq_false, Bool.false_eq_true, reduceCtorEq]; done) | (simp only [up_at, sN, becS, bitS, sp_plane, FB, FF, FK, FN, FS, FM, FZ, fnd, mv, aN, aF, aK, aH, aT, aS, aW, aZ, aU, c_10, up_at, eq_self, ne_eq, not_true_eq_false, not_false_eq_true, Classical.not_not, decide_true, decide_false, and_true, true_and, and_false, false_and, and_self, or_true, true_or, or_false, false_or, or_self, if_true, if_false, ite_true, ite_false, Bool.eq_false_iff, Bool.not_eq_eq_eq_not, Bool.true_eq_false, Bool.false_eq_true, reduceCtorEq]; rfl) | (simp [mv_now, mv_fnd, up_at, sN, becS, bitS, sp_plane, FB, FF, FK, FN, FS, FM, FZ, fnd, mv, aN, c_10, up_at]; done)
    · repeat first | exact (fun _ _ => rfl) | refine frU (by decide) ?_
    · repeat first | exact id | refine mtU (by decide) ?_

theorem m_person {d : Nat} (hd : 3 ≤ d) (σ : Sg) (hI : INV (σ 136)) (w p : Int32) : CP d mX12_person [.ref 135, .int w, .int p] σ (MPo σ (sp_person (mv σ) w p)) := by
  have hn3 := hI.n3.2
  have hn4 := hI.n4.2
  have hn5 := hI.n5.2
  have hn6 := hI.n6.2
  have hn7 := hI.n7.2
  refine con_of (by decide) (catL rfl) (Nat.le_of_ble_eq_true rfl) ?_
  intro μ ω C hr
  have C : Cx μ ω "TowFieldModel" cX12_person 5 d := C
  have hr : (mH μ).sig.returnType = some .int := hr
  show G μ ω (RQ μ ω (pP (MPo σ (sp_person (mv σ) w p)))) 0 [some (.ref 135), some (.int w), some (.int p), none, none] [] (mk σ) 0 0
  refine g_il1n (pc := 0) C dX12_person_0 ?_
  refine g_bipush (pc := 1) (v := 40) C dX12_person_1 (by decide) ?_
  refine g_sipush (pc := 3) (v := 130) C dX12_person_3 (by decide) ?_
  refine s_SB (pc := 6) (st := []) C (c_X12_within (d := d - 1) (by omega) σ w 40 130) (by omega) lX12_58 dX12_person_6 rfl (Nat.le_of_ble_eq_true rfl) rfl (fun b_6 => ?_) (fun b_6 => ?_)
  · refine g_if_eq (pc := 9) (tgt := 19) C dX12_person_9 (by decide) (fun c => absurd c (by decide)) (fun _ => ?_)
    refine g_il2n (pc := 12) C dX12_person_12 ?_
    refine g_bipush (pc := 13) (v := (-127)) C dX12_person_13 (by decide) ?_
    refine g_iand (pc := 15) C dX12_person_15 ?_
    refine g_if_eq (pc := 16) (tgt := 26) C dX12_person_16 (by decide) (fun c_16 => ?_) (fun c_16 => ?_)
    · refine g_al0n (pc := 26) C dX12_person_26 ?_
      refine s_getR (pc := 27) C fX12_9 h135 rfl dX12_person_27 ?_
      refine g_iconst (pc := 30) (v := 4) C dX12_person_30 (by decide) ?_
      refine s_iald (pc := 31) (q := 4) C h136 rfl (by omega) (Nat.le_of_ble_eq_true rfl) dX12_person_31 ?_
      refine g_is3n (pc := 32) C dX12_person_32 ?_
      refine g_il3n (pc := 33) C dX12_person_33 ?_
      refine g_bipush (pc := 34) (v := 14) C dX12_person_34 (by decide) ?_
      refine g_icmp_ne (pc := 36) (tgt := 46) C dX12_person_36 (by decide) (fun c_36 => ?_) (fun c_36 => ?_)
      · refine g_bipush (pc := 46) (v := 90) C dX12_person_46 (by decide) ?_
        refine g_iconst (pc := 48) (v := 4) C dX12_person_48 (by decide) ?_
        refine g_il3n (pc := 49) C dX12_person_49 ?_
        refine g_imul (pc := 50) C dX12_person_50 ?_
        refine g_iadd (pc := 51) C dX12_person_51 ?_
        refine g_is4 (pc := 52) C dX12_person_52 ?_
        refine g_al0n (pc := 54) C dX12_person_54 ?_
        refine s_getR (pc := 55) C fX12_9 h135 rfl dX12_person_55 ?_
        refine g_il4 (pc := 58) C dX12_person_58 ?_
        refine g_il1n (pc := 60) C dX12_person_60 ?_
        refine s_iast (pc := 61) (q := 90 + (4 * (cnt (σ 136) 4))) C h136 (by first | (simp only [ixl, nI_add, pk_mul]; done) | rfl | decide | (rw [hI.n3.1]; simp only [ixl, nI_add, pk_mul]; done) | (rw [hI.n4.1]; simp only [ixl, nI_add, pk_mul]; done) | (rw [hI.n5.1]; simp only [ixl, nI_add, pk_mul]; done) | (rw [hI.n6.1]; simp only [ixl, nI_add, pk_mul]; done) | (rw [hI.n7.1]; simp only [ixl, nI_add, pk_mul]; done)) (by omega) (Nat.le_of_ble_eq_true rfl) dX12_person_61 ?_
        refine g_al0n (pc := 62) C dX12_person_62 ?_
        refine s_getR (pc := 63) C fX12_9 h135 rfl dX12_person_63 ?_
        refine g_il4 (pc := 66) C dX12_person_66 ?_
        refine g_iconst (pc := 68) (v := 1) C dX12_person_68 (by decide) ?_
        refine g_iadd (pc := 69) C dX12_person_69 ?_
        refine g_il2n (pc := 70) C dX12_person_70 ?_
        refine s_iast (pc := 71) (q := (90 + (4 * (cnt (σ 136) 4))) + 1) C h136 (by first | (simp only [ixl, nI_add, pk_mul]; done) | rfl | decide | (rw [hI.n3.1]; simp only [ixl, nI_add, pk_mul]; done) | (rw [hI.n4.1]; simp only [ixl, nI_add, pk_mul]; done) | (rw [hI.n5.1]; simp only [ixl, nI_add, pk_mul]; done) | (rw [hI.n6.1]; simp only [ixl, nI_add, pk_mul]; done) | (rw [hI.n7.1]; simp only [ixl, nI_add, pk_mul]; done)) (by omega) (Nat.le_of_ble_eq_true rfl) dX12_person_71 ?_
        refine g_al0n (pc := 72) C dX12_person_72 ?_
        refine s_getR (pc := 73) C fX12_9 h135 rfl dX12_person_73 ?_
        refine g_il4 (pc := 76) C dX12_person_76 ?_
        refine g_iconst (pc := 78) (v := 2) C dX12_person_78 (by decide) ?_
        refine g_iadd (pc := 79) C dX12_person_79 ?_
        refine g_iconst (pc := 80) (v := (-1)) C dX12_person_80 (by decide) ?_
        refine s_iast (pc := 81) (q := (90 + (4 * (cnt (σ 136) 4))) + 2) C h136 (by first | (simp only [ixl, nI_add, pk_mul]; done) | rfl | decide | (rw [hI.n3.1]; simp only [ixl, nI_add, pk_mul]; done) | (rw [hI.n4.1]; simp only [ixl, nI_add, pk_mul]; done) | (rw [hI.n5.1]; simp only [ixl, nI_add, pk_mul]; done) | (rw [hI.n6.1]; simp only [ixl, nI_add, pk_mul]; done) | (rw [hI.n7.1]; simp only [ixl, nI_add, pk_mul]; done)) (by omega) (Nat.le_of_ble_eq_true rfl) dX12_person_81 ?_
        refine g_al0n (pc := 82) C dX12_person_82 ?_
        refine s_getR (pc := 83) C fX12_9 h135 rfl dX12_person_83 ?_
        refine g_il4 (pc := 86) C dX12_person_86 ?_
        refine g_iconst (pc := 88) (v := 3) C dX12_person_88 (by decide) ?_
        refine g_iadd (pc := 89) C dX12_person_89 ?_
        refine g_iconst (pc := 90) (v := 0) C dX12_person_90 (by decide) ?_
        refine s_iast (pc := 91) (q := (90 + (4 * (cnt (σ 136) 4))) + 3) C h136 (by first | (simp only [ixl, nI_add, pk_mul]; done) | rfl | decide | (rw [hI.n3.1]; simp only [ixl, nI_add, pk_mul]; done) | (rw [hI.n4.1]; simp only [ixl, nI_add, pk_mul]; done) | (rw [hI.n5.1]; simp only [ixl, nI_add, pk_mul]; done) | (rw [hI.n6.1]; simp only [ixl, nI_add, pk_mul]; done) | (rw [hI.n7.1]; simp only [ixl, nI_add, pk_mul]; done)) (by omega) (Nat.le_of_ble_eq_true rfl) dX12_person_91 ?_
        refine g_al0n (pc := 92) C dX12_person_92 ?_
        refine s_getR (pc := 93) C fX12_9 h135 rfl dX12_person_93 ?_
        refine g_iconst (pc := 96) (v := 4) C dX12_person_96 (by decide) ?_
        refine g_dup2 (pc := 97) C dX12_person_97 rfl rfl ?_
        refine s_iald (pc := 98) (q := 4) C h136 rfl (by omega) (Nat.le_of_ble_eq_true rfl) dX12_person_98 ?_
        refine g_iconst (pc := 99) (v := 1) C dX12_person_99 (by decide) ?_
        refine g_iadd (pc := 100) C dX12_person_100 ?_
        refine s_iast (pc := 101) (q := 4) C h136 rfl (by omega) (Nat.le_of_ble_eq_true rfl) dX12_person_101 ?_
        refine g_il3n (pc := 102) C dX12_person_102 ?_
        refine r_P C hr dX12_person_103 ⟨?_, ?_, ?_, ?_⟩
        · first | (simp only [sp_person, FB, FF, FK, FN, FS, FM, FZ, fnd, becS, bitS, sN, mv, aN, aF, aK, aH, aT, aS, aW, aZ, aU, b_6, c_16, c_36, up_at, eq_self, ne_eq, not_true_eq_false, not_false_eq_true, Classical.not_not, decide_true, decide_false, and_true, true_and, and_false, false_and, and_self, or_true, true_or, or_false, false_or, or_self, if_true, if_false, ite_true, ite_false, Bool.eq_false_iff, Bool.not_eq_eq_eq_not, Bool.true_eq_false, Bool.false_eq_true, reduceCtorEq]; done) | (simp only [sp_person, FB, FF, FK, FN, FS, FM, FZ, fnd, becS, bitS, sN, mv, aN, aF, aK, aH, aT, aS, aW, aZ, aU, b_6, c_16, c_36, up_at, eq_self, ne_eq, not_true_eq_false, not_false_eq_true, Classical.not_not, decide_true, decide_false, and_true, true_and, and_false, false_and, and_self, or_true, true_or, or_false, false_or, or_self, if_true, if_false, ite_true, ite_false, Bool.eq_false_iff, Bool.not_eq_eq_eq_not, Bool.true_eq_false, Bool.false_eq_true, reduceCtorEq]; rfl) | (simp [becS, bitS, sp_person, FB, FF, FK, FN, FS, FM, FZ, fnd, mv, aN, b_6, c_16, c_36, up_at]; done)
        · try simp only [mv_now, mv_fnd, mv_tap, mv_kep]
          first | (simp only [up_at, sN, becS, bitS, sp_person, FB, FF, FK, FN, FS, FM, FZ, fnd, mv, aN, aF, aK, aH, aT, aS, aW, aZ, aU, b_6, c_16, c_36, up_at, eq_self, ne_eq, not_true_eq_false, not_false_eq_true, Classical.not_not, decide_true, decide_false, and_true, true_and, and_false, false_and, and_self, or_true, true_or, or_false, false_or, or_self, if_true, if_false, ite_true, ite_false, Bool.eq_false_iff, Bool.not_eq_eq_eq_not, Bool.true_eq_false, Bool.false_eq_true, reduceCtorEq]; done) | (simp only [up_at, sN, becS, bitS, sp_person, FB, FF, FK, FN, FS, FM, FZ, fnd, mv, aN, aF, aK, aH, aT, aS, aW, aZ, aU, b_6, c_16, c_36, up_at, eq_self, ne_eq, not_true_eq_false, not_false_eq_true, Classical.not_not, decide_true, decide_false, and_true, true_and, and_false, false_and, and_self, or_true, true_or, or_false, false_or, or_self, if_true, if_false, ite_true, ite_false, Bool.eq_false_iff, Bool.not_eq_eq_eq_not, Bool.true_eq_false, Bool.false_eq_true, reduceCtorEq]; rfl) | (simp [mv_now, mv_fnd, up_at, sN, becS, bitS, sp_person, FB, FF, FK, FN, FS, FM, FZ, fnd, mv, aN, b_6, c_16, c_36, up_at]; done)
        · repeat first | exact (fun _ _ => rfl) | refine frU (by decide) ?_
        · repeat first | exact id | refine mtU (by decide) ?_
      · refine g_al0n (pc := 39) C dX12_person_39 ?_
        refine g_ldc (pc := 40) C dX12_person_40 kX12_66 ?_
        refine s_VI (pc := 42) (st := []) C h135 rfl (c_X12_finding (d := d - 1) (by omega) σ (i := 1) (by decide) (w := ((-1000002))) (by decide)) (by omega) lX12_62 dX12_person_42 rfl (Nat.le_of_ble_eq_true rfl) rfl ?_
        refine r_P C hr dX12_person_45 ⟨?_, ?_, ?_, ?_⟩
        · first | (simp only [sp_person, FB, FF, FK, FN, FS, FM, FZ, fnd, becS, bitS, sN, mv, aN, aF, aK, aH, aT, aS, aW, aZ, aU, b_6, c_16, c_36, up_at, eq_self, ne_eq, not_true_eq_false, not_false_eq_true, Classical.not_not, decide_true, decide_false, and_true, true_and, and_false, false_and, and_self, or_true, true_or, or_false, false_or, or_self, if_true, if_false, ite_true, ite_false, Bool.eq_false_iff, Bool.not_eq_eq_eq_not, Bool.true_eq_false, Bool.false_eq_true, reduceCtorEq]; done) | (simp only [sp_person, FB, FF, FK, FN, FS, FM, FZ, fnd, becS, bitS, sN, mv, aN, aF, aK, aH, aT, aS, aW, aZ, aU, b_6, c_16, c_36, up_at, eq_self, ne_eq, not_true_eq_false, not_false_eq_true, Classical.not_not, decide_true, decide_false, and_true, true_and, and_false, false_and, and_self, or_true, true_or, or_false, false_or, or_self, if_true, if_false, ite_true, ite_false, Bool.eq_false_iff, Bool.not_eq_eq_eq_not, Bool.true_eq_false, Bool.false_eq_true, reduceCtorEq]; rfl) | (simp [becS, bitS, sp_person, FB, FF, FK, FN, FS, FM, FZ, fnd, mv, aN, b_6, c_16, c_36, up_at]; done)
        · try simp only [mv_now, mv_fnd, mv_tap, mv_kep]
          first | (simp only [up_at, sN, becS, bitS, sp_person, FB, FF, FK, FN, FS, FM, FZ, fnd, mv, aN, aF, aK, aH, aT, aS, aW, aZ, aU, b_6, c_16, c_36, up_at, eq_self, ne_eq, not_true_eq_false, not_false_eq_true, Classical.not_not, decide_true, decide_false, and_true, true_and, and_false, false_and, and_self, or_true, true_or, or_false, false_or, or_self, if_true, if_false, ite_true, ite_false, Bool.eq_false_iff, Bool.not_eq_eq_eq_not, Bool.true_eq_false, Bool.false_eq_true, reduceCtorEq]; done) | (simp only [up_at, sN, becS, bitS, sp_person, FB, FF, FK, FN, FS, FM, FZ, fnd, mv, aN, aF, aK, aH, aT, aS, aW, aZ, aU, b_6, c_16, c_36, up_at, eq_self, ne_eq, not_true_eq_false, not_false_eq_true, Classical.not_not, decide_true, decide_false, and_true, true_and, and_false, false_and, and_self, or_true, true_or, or_false, false_or, or_self, if_true, if_false, ite_true, ite_false, Bool.eq_false_iff, Bool.not_eq_eq_eq_not, Bool.true_eq_false, Bool.false_eq_true, reduceCtorEq]; rfl) | (simp [mv_now, mv_fnd, up_at, sN, becS, bitS, sp_person, FB, FF, FK, FN, FS, FM, FZ, fnd, mv, aN, b_6, c_16, c_36, up_at]; done)
        · repeat first | exact (fun _ _ => rfl) | refine frU (by decide) ?_
        · repeat first | exact id | refine mtU (by decide) ?_
    · refine g_al0n (pc := 19) C dX12_person_19 ?_
      refine g_ldc (pc := 20) C dX12_person_20 kX12_57 ?_
      refine s_VI (pc := 22) (st := []) C h135 rfl (c_X12_finding (d := d - 1) (by omega) σ (i := 0) (by decide) (w := ((-1000001))) (by decide)) (by omega) lX12_62 dX12_person_22 rfl (Nat.le_of_ble_eq_true rfl) rfl ?_
      refine r_P C hr dX12_person_25 ⟨?_, ?_, ?_, ?_⟩
      · first | (simp only [sp_person, FB, FF, FK, FN, FS, FM, FZ, fnd, becS, bitS, sN, mv, aN, aF, aK, aH, aT, aS, aW, aZ, aU, b_6, c_16, up_at, eq_self, ne_eq, not_true_eq_false, not_false_eq_true, Classical.not_not, decide_true, decide_false, and_true, true_and, and_false, false_and, and_self, or_true, true_or, or_false, false_or, or_self, if_true, if_false, ite_true, ite_false, Bool.eq_false_iff, Bool.not_eq_eq_eq_not, Bool.true_eq_false, Bool.false_eq_true, reduceCtorEq]; done) | (simp only [sp_person, FB, FF, FK, FN, FS, FM, FZ, fnd, becS, bitS, sN, mv, aN, aF, aK, aH, aT, aS, aW, aZ, aU, b_6, c_16, up_at, eq_self, ne_eq, not_true_eq_false, not_false_eq_true, Classical.not_not, decide_true, decide_false, and_true, true_and, and_false, false_and, and_self, or_true, true_or, or_false, false_or, or_self, if_true, if_false, ite_true, ite_false, Bool.eq_false_iff, Bool.not_eq_eq_eq_not, Bool.true_eq_false, Bool.false_eq_true, reduceCtorEq]; rfl) | (simp [becS, bitS, sp_person, FB, FF, FK, FN, FS, FM, FZ, fnd, mv, aN, b_6, c_16, up_at]; done)
      · try simp only [mv_now, mv_fnd, mv_tap, mv_kep]
        first | (simp only [up_at, sN, becS, bitS, sp_person, FB, FF, FK, FN, FS, FM, FZ, fnd, mv, aN, aF, aK, aH, aT, aS, aW, aZ, aU, b_6, c_16, up_at, eq_self, ne_eq, not_true_eq_false, not_false_eq_true, Classical.not_not, decide_true, decide_false, and_true, true_and, and_false, false_and, and_self, or_true, true_or, or_false, false_or, or_self, if_true, if_false, ite_true, ite_false, Bool.eq_false_iff, Bool.not_eq_eq_eq_not, Bool.true_eq_false, Bool.false_eq_true, reduceCtorEq]; done) | (simp only [up_at, sN, becS, bitS, sp_person, FB, FF, FK, FN, FS, FM, FZ, fnd, mv, aN, aF, aK, aH, aT, aS, aW, aZ, aU, b_6, c_16, up_at, eq_self, ne_eq, not_true_eq_false, not_false_eq_true, Classical.not_not, decide_true, decide_false, and_true, true_and, and_false, false_and, and_self, or_true, true_or, or_false, false_or, or_self, if_true, if_false, ite_true, ite_false, Bool.eq_false_iff, Bool.not_eq_eq_eq_not, Bool.true_eq_false, Bool.false_eq_true, reduceCtorEq]; rfl) | (simp [mv_now, mv_fnd, up_at, sN, becS, bitS, sp_person, FB, FF, FK, FN, FS, FM, FZ, fnd, mv, aN, b_6, c_16, up_at]; done)
      · repeat first | exact (fun _ _ => rfl) | refine frU (by decide) ?_
      · repeat first | exact id | refine mtU (by decide) ?_
  · refine g_if_eq (pc := 9) (tgt := 19) C dX12_person_9 (by decide) (fun _ => ?_) (fun c => absurd c (by decide))
    refine g_al0n (pc := 19) C dX12_person_19 ?_
    refine g_ldc (pc := 20) C dX12_person_20 kX12_57 ?_
    refine s_VI (pc := 22) (st := []) C h135 rfl (c_X12_finding (d := d - 1) (by omega) σ (i := 0) (by decide) (w := ((-1000001))) (by decide)) (by omega) lX12_62 dX12_person_22 rfl (Nat.le_of_ble_eq_true rfl) rfl ?_
    refine r_P C hr dX12_person_25 ⟨?_, ?_, ?_, ?_⟩
    · first | (simp only [sp_person, FB, FF, FK, FN, FS, FM, FZ, fnd, becS, bitS, sN, mv, aN, aF, aK, aH, aT, aS, aW, aZ, aU, b_6, up_at, eq_self, ne_eq, not_true_eq_false, not_false_eq_true, Classical.not_not, decide_true, decide_false, and_true, true_and, and_false, false_and, and_self, or_true, true_or, or_false, false_or, or_self, if_true, if_false, ite_true, ite_false, Bool.eq_false_iff, Bool.not_eq_eq_eq_not, Bool.true_eq_false, Bool.false_eq_true, reduceCtorEq]; done) | (simp only [sp_person, FB, FF, FK, FN, FS, FM, FZ, fnd, becS, bitS, sN, mv, aN, aF, aK, aH, aT, aS, aW, aZ, aU, b_6, up_at, eq_self, ne_eq, not_true_eq_false, not_false_eq_true, Classical.not_not, decide_true, decide_false, and_true, true_and, and_false, false_and, and_self, or_true, true_or, or_false, false_or, or_self, if_true, if_false, ite_true, ite_false, Bool.eq_false_iff, Bool.not_eq_eq_eq_not, Bool.true_eq_false, Bool.false_eq_true, reduceCtorEq]; rfl) | (simp [becS, bitS, sp_person, FB, FF, FK, FN, FS, FM, FZ, fnd, mv, aN, b_6, up_at]; done)
    · try simp only [mv_now, mv_fnd, mv_tap, mv_kep]
      first | (simp only [up_at, sN, becS, bitS, sp_person, FB, FF, FK, FN, FS, FM, FZ, fnd, mv, aN, aF, aK, aH, aT, aS, aW, aZ, aU, b_6, up_at, eq_self, ne_eq, not_true_eq_false, not_false_eq_true, Classical.not_not, decide_true, decide_false, and_true, true_and, and_false, false_and, and_self, or_true, true_or, or_false, false_or, or_self, if_true, if_false, ite_true, ite_false, Bool.eq_false_iff, Bool.not_eq_eq_eq_not, Bool.true_eq_false, Bool.false_eq_true, reduceCtorEq]; done) | (simp only [up_at, sN, becS, bitS, sp_person, FB, FF, FK, FN, FS, FM, FZ, fnd, mv, aN, aF, aK, aH, aT, aS, aW, aZ, aU, b_6, up_at, eq_self, ne_eq, not_true_eq_false, not_false_eq_true, Classical.not_not, decide_true, decide_false, and_true, true_and, and_false, false_and, and_self, or_true, true_or, or_false, false_or, or_self, if_true, if_false, ite_true, ite_false, Bool.eq_false_iff, Bool.not_eq_eq_eq_not, Bool.true_eq_false, Bool.false_eq_true, reduceCtorEq]; rfl) | (simp [mv_now, mv_fnd, up_at, sN, becS, bitS, sp_person, FB, FF, FK, FN, FS, FM, FZ, fnd, mv, aN, b_6, up_at]; done)
    · repeat first | exact (fun _ _ => rfl) | refine frU (by decide) ?_
    · repeat first | exact id | refine mtU (by decide) ?_

theorem m_winch {d : Nat} (hd : 3 ≤ d) (σ : Sg) (hI : INV (σ 136)) : CP d mX12_winch [.ref 135] σ (MPo σ (sp_winch (mv σ))) := by
  have hn3 := hI.n3.2
  have hn4 := hI.n4.2
  have hn5 := hI.n5.2
  have hn6 := hI.n6.2
  have hn7 := hI.n7.2
  refine con_of (by decide) (catL rfl) (Nat.le_of_ble_eq_true rfl) ?_
  intro μ ω C hr
  have C : Cx μ ω "TowFieldModel" cX12_winch 3 d := C
  have hr : (mH μ).sig.returnType = some .int := hr
  show G μ ω (RQ μ ω (pP (MPo σ (sp_winch (mv σ))))) 0 [some (.ref 135), none, none] [] (mk σ) 0 0
  refine g_al0n (pc := 0) C dX12_winch_0 ?_
  refine s_getR (pc := 1) C fX12_9 h135 rfl dX12_winch_1 ?_
  refine g_iconst (pc := 4) (v := 5) C dX12_winch_4 (by decide) ?_
  refine s_iald (pc := 5) (q := 5) C h136 rfl (by omega) (Nat.le_of_ble_eq_true rfl) dX12_winch_5 ?_
  refine g_is1n (pc := 6) C dX12_winch_6 ?_
  refine g_il1n (pc := 7) C dX12_winch_7 ?_
  refine g_iconst (pc := 8) (v := 3) C dX12_winch_8 (by decide) ?_
  refine g_icmp_ne (pc := 9) (tgt := 19) C dX12_winch_9 (by decide) (fun c_9 => ?_) (fun c_9 => ?_)
  · refine g_iconst (pc := 19) (v := 0) C dX12_winch_19 (by decide) ?_
    refine g_is2n (pc := 20) C dX12_winch_20 ?_
    refine g_il2n (pc := 21) C dX12_winch_21 ?_
    refine g_iconst (pc := 22) (v := 2) C dX12_winch_22 (by decide) ?_
    refine g_icmp_geL (pc := 23) (tgt := 66) C dX12_winch_23 (by decide) (fun c => absurd c (by decide)) (fun _ => ?_)
    refine g_al0n (pc := 26) C dX12_winch_26 ?_
    refine s_getR (pc := 27) C fX12_9 h135 rfl dX12_winch_27 ?_
    refine g_bipush (pc := 30) (v := 33) C dX12_winch_30 (by decide) ?_
    refine g_iconst (pc := 32) (v := 4) C dX12_winch_32 (by decide) ?_
    refine g_il1n (pc := 33) C dX12_winch_33 ?_
    refine g_imul (pc := 34) C dX12_winch_34 ?_
    refine g_iadd (pc := 35) C dX12_winch_35 ?_
    refine g_iconst (pc := 36) (v := 2) C dX12_winch_36 (by decide) ?_
    refine g_il2n (pc := 37) C dX12_winch_37 ?_
    refine g_imul (pc := 38) C dX12_winch_38 ?_
    refine g_iadd (pc := 39) C dX12_winch_39 ?_
    refine g_iconst (pc := 40) (v := 0) C dX12_winch_40 (by decide) ?_
    refine s_iast (pc := 41) (q := (33 + (4 * (cnt (σ 136) 5))) + (2 * 0)) C h136 (by first | (simp only [ixl, nI_add, pk_mul]; done) | rfl | decide | (rw [hI.n3.1]; simp only [ixl, nI_add, pk_mul]; done) | (rw [hI.n4.1]; simp only [ixl, nI_add, pk_mul]; done) | (rw [hI.n5.1]; simp only [ixl, nI_add, pk_mul]; done) | (rw [hI.n6.1]; simp only [ixl, nI_add, pk_mul]; done) | (rw [hI.n7.1]; simp only [ixl, nI_add, pk_mul]; done)) (by omega) (Nat.le_of_ble_eq_true rfl) dX12_winch_41 ?_
    refine g_al0n (pc := 42) C dX12_winch_42 ?_
    refine s_getR (pc := 43) C fX12_9 h135 rfl dX12_winch_43 ?_
    refine g_bipush (pc := 46) (v := 33) C dX12_winch_46 (by decide) ?_
    refine g_iconst (pc := 48) (v := 4) C dX12_winch_48 (by decide) ?_
    refine g_il1n (pc := 49) C dX12_winch_49 ?_
    refine g_imul (pc := 50) C dX12_winch_50 ?_
    refine g_iadd (pc := 51) C dX12_winch_51 ?_
    refine g_iconst (pc := 52) (v := 2) C dX12_winch_52 (by decide) ?_
    refine g_il2n (pc := 53) C dX12_winch_53 ?_
    refine g_imul (pc := 54) C dX12_winch_54 ?_
    refine g_iadd (pc := 55) C dX12_winch_55 ?_
    refine g_iconst (pc := 56) (v := 1) C dX12_winch_56 (by decide) ?_
    refine g_iadd (pc := 57) C dX12_winch_57 ?_
    refine g_iconst (pc := 58) (v := (-1)) C dX12_winch_58 (by decide) ?_
    refine s_iast (pc := 59) (q := ((33 + (4 * (cnt (σ 136) 5))) + (2 * 0)) + 1) C h136 (by first | (simp only [ixl, nI_add, pk_mul]; done) | rfl | decide | (rw [hI.n3.1]; simp only [ixl, nI_add, pk_mul]; done) | (rw [hI.n4.1]; simp only [ixl, nI_add, pk_mul]; done) | (rw [hI.n5.1]; simp only [ixl, nI_add, pk_mul]; done) | (rw [hI.n6.1]; simp only [ixl, nI_add, pk_mul]; done) | (rw [hI.n7.1]; simp only [ixl, nI_add, pk_mul]; done)) (by omega) (Nat.le_of_ble_eq_true rfl) dX12_winch_59 ?_
    refine g_ii2 (pc := 60) (v := 1) C dX12_winch_60 (by decide) ?_
    refine g_goto (pc := 63) (tgt := 21) C dX12_winch_63 (by decide) ?_
    refine g_il2n (pc := 21) C dX12_winch_21 ?_
    refine g_iconst (pc := 22) (v := 2) C dX12_winch_22 (by decide) ?_
    refine g_icmp_geL (pc := 23) (tgt := 66) C dX12_winch_23 (by decide) (fun c => absurd c (by decide)) (fun _ => ?_)
    refine g_al0n (pc := 26) C dX12_winch_26 ?_
    refine s_getR (pc := 27) C fX12_9 h135 rfl dX12_winch_27 ?_
    refine g_bipush (pc := 30) (v := 33) C dX12_winch_30 (by decide) ?_
    refine g_iconst (pc := 32) (v := 4) C dX12_winch_32 (by decide) ?_
    refine g_il1n (pc := 33) C dX12_winch_33 ?_
    refine g_imul (pc := 34) C dX12_winch_34 ?_
    refine g_iadd (pc := 35) C dX12_winch_35 ?_
    refine g_iconst (pc := 36) (v := 2) C dX12_winch_36 (by decide) ?_
    refine g_il2n (pc := 37) C dX12_winch_37 ?_
    refine g_imul (pc := 38) C dX12_winch_38 ?_
    refine g_iadd (pc := 39) C dX12_winch_39 ?_
    refine g_iconst (pc := 40) (v := 0) C dX12_winch_40 (by decide) ?_
    refine s_iast (pc := 41) (q := (33 + (4 * (cnt (σ 136) 5))) + (2 * 1)) C h136 (by first | (simp only [ixl, nI_add, pk_mul]; done) | rfl | decide | (rw [hI.n3.1]; simp only [ixl, nI_add, pk_mul]; done) | (rw [hI.n4.1]; simp only [ixl, nI_add, pk_mul]; done) | (rw [hI.n5.1]; simp only [ixl, nI_add, pk_mul]; done) | (rw [hI.n6.1]; simp only [ixl, nI_add, pk_mul]; done) | (rw [hI.n7.1]; simp only [ixl, nI_add, pk_mul]; done)) (by omega) (Nat.le_of_ble_eq_true rfl) dX12_winch_41 ?_
    refine g_al0n (pc := 42) C dX12_winch_42 ?_
    refine s_getR (pc := 43) C fX12_9 h135 rfl dX12_winch_43 ?_
    refine g_bipush (pc := 46) (v := 33) C dX12_winch_46 (by decide) ?_
    refine g_iconst (pc := 48) (v := 4) C dX12_winch_48 (by decide) ?_
    refine g_il1n (pc := 49) C dX12_winch_49 ?_
    refine g_imul (pc := 50) C dX12_winch_50 ?_
    refine g_iadd (pc := 51) C dX12_winch_51 ?_
    refine g_iconst (pc := 52) (v := 2) C dX12_winch_52 (by decide) ?_
    refine g_il2n (pc := 53) C dX12_winch_53 ?_
    refine g_imul (pc := 54) C dX12_winch_54 ?_
    refine g_iadd (pc := 55) C dX12_winch_55 ?_
    refine g_iconst (pc := 56) (v := 1) C dX12_winch_56 (by decide) ?_
    refine g_iadd (pc := 57) C dX12_winch_57 ?_
    refine g_iconst (pc := 58) (v := (-1)) C dX12_winch_58 (by decide) ?_
    refine s_iast (pc := 59) (q := ((33 + (4 * (cnt (σ 136) 5))) + (2 * 1)) + 1) C h136 (by first | (simp only [ixl, nI_add, pk_mul]; done) | rfl | decide | (rw [hI.n3.1]; simp only [ixl, nI_add, pk_mul]; done) | (rw [hI.n4.1]; simp only [ixl, nI_add, pk_mul]; done) | (rw [hI.n5.1]; simp only [ixl, nI_add, pk_mul]; done) | (rw [hI.n6.1]; simp only [ixl, nI_add, pk_mul]; done) | (rw [hI.n7.1]; simp only [ixl, nI_add, pk_mul]; done)) (by omega) (Nat.le_of_ble_eq_true rfl) dX12_winch_59 ?_
    refine g_ii2 (pc := 60) (v := 2) C dX12_winch_60 (by decide) ?_
    refine g_goto (pc := 63) (tgt := 21) C dX12_winch_63 (by decide) ?_
    refine g_il2n (pc := 21) C dX12_winch_21 ?_
    refine g_iconst (pc := 22) (v := 2) C dX12_winch_22 (by decide) ?_
    refine g_icmp_geL (pc := 23) (tgt := 66) C dX12_winch_23 (by decide) (fun _ => ?_) (fun c => absurd c (by decide))
    refine g_al0n (pc := 66) C dX12_winch_66 ?_
    refine s_getR (pc := 67) C fX12_9 h135 rfl dX12_winch_67 ?_
    refine g_iconst (pc := 70) (v := 5) C dX12_winch_70 (by decide) ?_
    refine g_dup2 (pc := 71) C dX12_winch_71 rfl rfl ?_
    refine s_iald (pc := 72) (q := 5) C h136 rfl (by omega) (Nat.le_of_ble_eq_true rfl) dX12_winch_72 ?_
    refine g_iconst (pc := 73) (v := 1) C dX12_winch_73 (by decide) ?_
    refine g_iadd (pc := 74) C dX12_winch_74 ?_
    refine s_iast (pc := 75) (q := 5) C h136 rfl (by omega) (Nat.le_of_ble_eq_true rfl) dX12_winch_75 ?_
    refine g_il1n (pc := 76) C dX12_winch_76 ?_
    refine r_P C hr dX12_winch_77 ⟨?_, ?_, ?_, ?_⟩
    · first | (simp only [sp_winch, FB, FF, FK, FN, FS, FM, FZ, fnd, becS, bitS, sN, mv, aN, aF, aK, aH, aT, aS, aW, aZ, aU, c_9, up_at, eq_self, ne_eq, not_true_eq_false, not_false_eq_true, Classical.not_not, decide_true, decide_false, and_true, true_and, and_false, false_and, and_self, or_true, true_or, or_false, false_or, or_self, if_true, if_false, ite_true, ite_false, Bool.eq_false_iff, Bool.not_eq_eq_eq_not, Bool.true_eq_false, Bool.false_eq_true, reduceCtorEq]; done) | (simp only [sp_winch, FB, FF, FK, FN, FS, FM, FZ, fnd, becS, bitS, sN, mv, aN, aF, aK, aH, aT, aS, aW, aZ, aU, c_9, up_at, eq_self, ne_eq, not_true_eq_false, not_false_eq_true, Classical.not_not, decide_true, decide_false, and_true, true_and, and_false, false_and, and_self, or_true, true_or, or_false, false_or, or_self, if_true, if_false, ite_true, ite_false, Bool.eq_false_iff, Bool.not_eq_eq_eq_not, Bool.true_eq_false, Bool.false_eq_true, reduceCtorEq]; rfl) | (simp [becS, bitS, sp_winch, FB, FF, FK, FN, FS, FM, FZ, fnd, mv, aN, c_9, up_at]; done)
    · try simp only [mv_now, mv_fnd, mv_tap, mv_kep]
      first | (simp only [up_at, sN, becS, bitS, sp_winch, FB, FF, FK, FN, FS, FM, FZ, fnd, mv, aN, aF, aK, aH, aT, aS, aW, aZ, aU, c_9, up_at, eq_self, ne_eq, not_true_eq_false, not_false_eq_true, Classical.not_not, decide_true, decide_false, and_true, true_and, and_false, false_and, and_self, or_true, true_or, or_false, false_or, or_self, if_true, if_false, ite_true, ite_false, Bool.eq_false_iff, Bool.not_eq_eq_eq_not, Bool.true_eq_false, Bool.false_eq_true, reduceCtorEq]; done) | (simp only [up_at, sN, becS, bitS, sp_winch, FB, FF, FK, FN, FS, FM, FZ, fnd, mv, aN, aF, aK, aH, aT, aS, aW, aZ, aU, c_9, up_at, eq_self, ne_eq, not_true_eq_false, not_false_eq_true, Classical.not_not, decide_true, decide_false, and_true, true_and, and_false, false_and, and_self, or_true, true_or, or_false, false_or, or_self, if_true, if_false, ite_true, ite_false, Bool.eq_false_iff, Bool.not_eq_eq_eq_not, Bool.true_eq_false, Bool.false_eq_true, reduceCtorEq]; rfl) | (simp [mv_now, mv_fnd, up_at, sN, becS, bitS, sp_winch, FB, FF, FK, FN, FS, FM, FZ, fnd, mv, aN, c_9, up_at]; done)
    · repeat first | exact (fun _ _ => rfl) | refine frU (by decide) ?_
    · repeat first | exact id | refine mtU (by decide) ?_
  · refine g_al0n (pc := 12) C dX12_winch_12 ?_
    refine g_ldc (pc := 13) C dX12_winch_13 kX12_66 ?_
    refine s_VI (pc := 15) (st := []) C h135 rfl (c_X12_finding (d := d - 1) (by omega) σ (i := 1) (by decide) (w := ((-1000002))) (by decide)) (by omega) lX12_62 dX12_winch_15 rfl (Nat.le_of_ble_eq_true rfl) rfl ?_
    refine r_P C hr dX12_winch_18 ⟨?_, ?_, ?_, ?_⟩
    · first | (simp only [sp_winch, FB, FF, FK, FN, FS, FM, FZ, fnd, becS, bitS, sN, mv, aN, aF, aK, aH, aT, aS, aW, aZ, aU, c_9, up_at, eq_self, ne_eq, not_true_eq_false, not_false_eq_true, Classical.not_not, decide_true, decide_false, and_true, true_and, and_false, false_and, and_self, or_true, true_or, or_false, false_or, or_self, if_true, if_false, ite_true, ite_false, Bool.eq_false_iff, Bool.not_eq_eq_eq_not, Bool.true_eq_false, Bool.false_eq_true, reduceCtorEq]; done) | (simp only [sp_winch, FB, FF, FK, FN, FS, FM, FZ, fnd, becS, bitS, sN, mv, aN, aF, aK, aH, aT, aS, aW, aZ, aU, c_9, up_at, eq_self, ne_eq, not_true_eq_false, not_false_eq_true, Classical.not_not, decide_true, decide_false, and_true, true_and, and_false, false_and, and_self, or_true, true_or, or_false, false_or, or_self, if_true, if_false, ite_true, ite_false, Bool.eq_false_iff, Bool.not_eq_eq_eq_not, Bool.true_eq_false, Bool.false_eq_true, reduceCtorEq]; rfl) | (simp [becS, bitS, sp_winch, FB, FF, FK, FN, FS, FM, FZ, fnd, mv, aN, c_9, up_at]; done)
    · try simp only [mv_now, mv_fnd, mv_tap, mv_kep]
      first | (simp only [up_at, sN, becS, bitS, sp_winch, FB, FF, FK, FN, FS, FM, FZ, fnd, mv, aN, aF, aK, aH, aT, aS, aW, aZ, aU, c_9, up_at, eq_self, ne_eq, not_true_eq_false, not_false_eq_true, Classical.not_not, decide_true, decide_false, and_true, true_and, and_false, false_and, and_self, or_true, true_or, or_false, false_or, or_self, if_true, if_false, ite_true, ite_false, Bool.eq_false_iff, Bool.not_eq_eq_eq_not, Bool.true_eq_false, Bool.false_eq_true, reduceCtorEq]; done) | (simp only [up_at, sN, becS, bitS, sp_winch, FB, FF, FK, FN, FS, FM, FZ, fnd, mv, aN, aF, aK, aH, aT, aS, aW, aZ, aU, c_9, up_at, eq_self, ne_eq, not_true_eq_false, not_false_eq_true, Classical.not_not, decide_true, decide_false, and_true, true_and, and_false, false_and, and_self, or_true, true_or, or_false, false_or, or_self, if_true, if_false, ite_true, ite_false, Bool.eq_false_iff, Bool.not_eq_eq_eq_not, Bool.true_eq_false, Bool.false_eq_true, reduceCtorEq]; rfl) | (simp [mv_now, mv_fnd, up_at, sN, becS, bitS, sp_winch, FB, FF, FK, FN, FS, FM, FZ, fnd, mv, aN, c_9, up_at]; done)
    · repeat first | exact (fun _ _ => rfl) | refine frU (by decide) ?_
    · repeat first | exact id | refine mtU (by decide) ?_

