/-! ===== the model: more calls ===== -/
theorem m_glider {d : Nat} (hd : 3 ≤ d) (σ : Sg) (hI : INV (σ 136)) (s m l o : Int32) : CP d mX12_glider [.ref 135, .int s, .int m, .int l, .int o] σ (MPo σ (sp_glider (mv σ) s m l o)) := by
  have hn3 := hI.n3.2
  have hn4 := hI.n4.2
  have hn5 := hI.n5.2
  have hn6 := hI.n6.2
  have hn7 := hI.n7.2
  refine con_of (by decide) (catL rfl) (Nat.le_of_ble_eq_true rfl) ?_
  intro μ ω C hr
  have C : Cx μ ω "TowFieldModel" cX12_glider 7 d := C
  have hr : (mH μ).sig.returnType = some .int := hr
  show G μ ω (RQ μ ω (pP (MPo σ (sp_glider (mv σ) s m l o)))) 0 [some (.ref 135), some (.int s), some (.int m), some (.int l), some (.int o), none, none] [] (mk σ) 0 0
  refine g_il1n (pc := 0) C dX12_glider_0 ?_
  refine g_iconst (pc := 1) (v := 1) C dX12_glider_1 (by decide) ?_
  refine g_iconst (pc := 2) (v := 2) C dX12_glider_2 (by decide) ?_
  refine s_SB (pc := 3) (st := []) C (c_X12_within (d := d - 1) (by omega) σ s 1 2) (by omega) lX12_58 dX12_glider_3 rfl (Nat.le_of_ble_eq_true rfl) rfl (fun b_3 => ?_) (fun b_3 => ?_)
  · refine g_if_eq (pc := 6) (tgt := 49) C dX12_glider_6 (by decide) (fun c => absurd c (by decide)) (fun _ => ?_)
    refine g_il2n (pc := 9) C dX12_glider_9 ?_
    refine g_bipush (pc := 10) (v := 60) C dX12_glider_10 (by decide) ?_
    refine g_sipush (pc := 12) (v := 250) C dX12_glider_12 (by decide) ?_
    refine s_SB (pc := 15) (st := []) C (c_X12_within (d := d - 1) (by omega) σ m 60 250) (by omega) lX12_58 dX12_glider_15 rfl (Nat.le_of_ble_eq_true rfl) rfl (fun b_15 => ?_) (fun b_15 => ?_)
    · refine g_if_eq (pc := 18) (tgt := 49) C dX12_glider_18 (by decide) (fun c => absurd c (by decide)) (fun _ => ?_)
      refine g_il3n (pc := 21) C dX12_glider_21 ?_
      refine g_iconst (pc := 22) (v := 0) C dX12_glider_22 (by decide) ?_
      refine g_iconst (pc := 23) (v := 3) C dX12_glider_23 (by decide) ?_
      refine s_SB (pc := 24) (st := []) C (c_X12_within (d := d - 1) (by omega) σ l 0 3) (by omega) lX12_58 dX12_glider_24 rfl (Nat.le_of_ble_eq_true rfl) rfl (fun b_24 => ?_) (fun b_24 => ?_)
      · refine g_if_eq (pc := 27) (tgt := 49) C dX12_glider_27 (by decide) (fun c => absurd c (by decide)) (fun _ => ?_)
        refine g_il4 (pc := 30) C dX12_glider_30 ?_
        refine g_iconst (pc := 32) (v := 0) C dX12_glider_32 (by decide) ?_
        refine g_iconst (pc := 33) (v := 1) C dX12_glider_33 (by decide) ?_
        refine g_al0n (pc := 34) C dX12_glider_34 ?_
        refine s_getR (pc := 35) C fX12_9 h135 rfl dX12_glider_35 ?_
        refine g_iconst (pc := 38) (v := 4) C dX12_glider_38 (by decide) ?_
        refine s_iald (pc := 39) (q := 4) C h136 rfl (by omega) (Nat.le_of_ble_eq_true rfl) dX12_glider_39 ?_
        refine g_ishl (pc := 40) C dX12_glider_40 ?_
        refine g_iconst (pc := 41) (v := 1) C dX12_glider_41 (by decide) ?_
        refine g_isub (pc := 42) C dX12_glider_42 ?_
        refine s_SB (pc := 43) (st := []) C (c_X12_within (d := d - 1) (by omega) σ o 0 ((1 <<< ((σ 136 4) &&& 31)) - 1)) (by omega) lX12_58 dX12_glider_43 rfl (Nat.le_of_ble_eq_true rfl) rfl (fun b_43 => ?_) (fun b_43 => ?_)
        · refine g_if_ne (pc := 46) (tgt := 56) C dX12_glider_46 (by decide) (fun _ => ?_) (fun c => absurd c (by decide))
          refine g_al0n (pc := 56) C dX12_glider_56 ?_
          refine s_getR (pc := 57) C fX12_9 h135 rfl dX12_glider_57 ?_
          refine g_iconst (pc := 60) (v := 3) C dX12_glider_60 (by decide) ?_
          refine s_iald (pc := 61) (q := 3) C h136 rfl (by omega) (Nat.le_of_ble_eq_true rfl) dX12_glider_61 ?_
          refine g_is5 (pc := 62) C dX12_glider_62 ?_
          refine g_il5 (pc := 64) C dX12_glider_64 ?_
          refine g_bipush (pc := 66) (v := 10) C dX12_glider_66 (by decide) ?_
          refine g_icmp_ne (pc := 68) (tgt := 78) C dX12_glider_68 (by decide) (fun c_68 => ?_) (fun c_68 => ?_)
          · refine g_bipush (pc := 78) (v := 50) C dX12_glider_78 (by decide) ?_
            refine g_iconst (pc := 80) (v := 4) C dX12_glider_80 (by decide) ?_
            refine g_il5 (pc := 81) C dX12_glider_81 ?_
            refine g_imul (pc := 83) C dX12_glider_83 ?_
            refine g_iadd (pc := 84) C dX12_glider_84 ?_
            refine g_is6 (pc := 85) C dX12_glider_85 ?_
            refine g_al0n (pc := 87) C dX12_glider_87 ?_
            refine s_getR (pc := 88) C fX12_9 h135 rfl dX12_glider_88 ?_
            refine g_il6 (pc := 91) C dX12_glider_91 ?_
            refine g_il1n (pc := 93) C dX12_glider_93 ?_
            refine s_iast (pc := 94) (q := 50 + (4 * (cnt (σ 136) 3))) C h136 (by first | (simp only [ixl, nI_add, pk_mul]; done) | rfl | decide | (rw [hI.n3.1]; simp only [ixl, nI_add, pk_mul]; done) | (rw [hI.n4.1]; simp only [ixl, nI_add, pk_mul]; done) | (rw [hI.n5.1]; simp only [ixl, nI_add, pk_mul]; done) | (rw [hI.n6.1]; simp only [ixl, nI_add, pk_mul]; done) | (rw [hI.n7.1]; simp only [ixl, nI_add, pk_mul]; done)) (by omega) (Nat.le_of_ble_eq_true rfl) dX12_glider_94 ?_
            refine g_al0n (pc := 95) C dX12_glider_95 ?_
            refine s_getR (pc := 96) C fX12_9 h135 rfl dX12_glider_96 ?_
            refine g_il6 (pc := 99) C dX12_glider_99 ?_
            refine g_iconst (pc := 101) (v := 1) C dX12_glider_101 (by decide) ?_
            refine g_iadd (pc := 102) C dX12_glider_102 ?_
            refine g_il2n (pc := 103) C dX12_glider_103 ?_
            refine s_iast (pc := 104) (q := (50 + (4 * (cnt (σ 136) 3))) + 1) C h136 (by first | (simp only [ixl, nI_add, pk_mul]; done) | rfl | decide | (rw [hI.n3.1]; simp only [ixl, nI_add, pk_mul]; done) | (rw [hI.n4.1]; simp only [ixl, nI_add, pk_mul]; done) | (rw [hI.n5.1]; simp only [ixl, nI_add, pk_mul]; done) | (rw [hI.n6.1]; simp only [ixl, nI_add, pk_mul]; done) | (rw [hI.n7.1]; simp only [ixl, nI_add, pk_mul]; done)) (by omega) (Nat.le_of_ble_eq_true rfl) dX12_glider_104 ?_
            refine g_al0n (pc := 105) C dX12_glider_105 ?_
            refine s_getR (pc := 106) C fX12_9 h135 rfl dX12_glider_106 ?_
            refine g_il6 (pc := 109) C dX12_glider_109 ?_
            refine g_iconst (pc := 111) (v := 2) C dX12_glider_111 (by decide) ?_
            refine g_iadd (pc := 112) C dX12_glider_112 ?_
            refine g_il3n (pc := 113) C dX12_glider_113 ?_
            refine s_iast (pc := 114) (q := (50 + (4 * (cnt (σ 136) 3))) + 2) C h136 (by first | (simp only [ixl, nI_add, pk_mul]; done) | rfl | decide | (rw [hI.n3.1]; simp only [ixl, nI_add, pk_mul]; done) | (rw [hI.n4.1]; simp only [ixl, nI_add, pk_mul]; done) | (rw [hI.n5.1]; simp only [ixl, nI_add, pk_mul]; done) | (rw [hI.n6.1]; simp only [ixl, nI_add, pk_mul]; done) | (rw [hI.n7.1]; simp only [ixl, nI_add, pk_mul]; done)) (by omega) (Nat.le_of_ble_eq_true rfl) dX12_glider_114 ?_
            refine g_al0n (pc := 115) C dX12_glider_115 ?_
            refine s_getR (pc := 116) C fX12_9 h135 rfl dX12_glider_116 ?_
            refine g_il6 (pc := 119) C dX12_glider_119 ?_
            refine g_iconst (pc := 121) (v := 3) C dX12_glider_121 (by decide) ?_
            refine g_iadd (pc := 122) C dX12_glider_122 ?_
            refine g_il4 (pc := 123) C dX12_glider_123 ?_
            refine s_iast (pc := 125) (q := (50 + (4 * (cnt (σ 136) 3))) + 3) C h136 (by first | (simp only [ixl, nI_add, pk_mul]; done) | rfl | decide | (rw [hI.n3.1]; simp only [ixl, nI_add, pk_mul]; done) | (rw [hI.n4.1]; simp only [ixl, nI_add, pk_mul]; done) | (rw [hI.n5.1]; simp only [ixl, nI_add, pk_mul]; done) | (rw [hI.n6.1]; simp only [ixl, nI_add, pk_mul]; done) | (rw [hI.n7.1]; simp only [ixl, nI_add, pk_mul]; done)) (by omega) (Nat.le_of_ble_eq_true rfl) dX12_glider_125 ?_
            refine g_al0n (pc := 126) C dX12_glider_126 ?_
            refine s_getR (pc := 127) C fX12_9 h135 rfl dX12_glider_127 ?_
            refine g_iconst (pc := 130) (v := 3) C dX12_glider_130 (by decide) ?_
            refine g_dup2 (pc := 131) C dX12_glider_131 rfl rfl ?_
            refine s_iald (pc := 132) (q := 3) C h136 rfl (by omega) (Nat.le_of_ble_eq_true rfl) dX12_glider_132 ?_
            refine g_iconst (pc := 133) (v := 1) C dX12_glider_133 (by decide) ?_
            refine g_iadd (pc := 134) C dX12_glider_134 ?_
            refine s_iast (pc := 135) (q := 3) C h136 rfl (by omega) (Nat.le_of_ble_eq_true rfl) dX12_glider_135 ?_
            refine g_il5 (pc := 136) C dX12_glider_136 ?_
            refine r_P C hr dX12_glider_138 ⟨?_, ?_, ?_, ?_⟩
            · first | (simp only [sp_glider, FB, FF, FK, FN, FS, FM, FZ, fnd, becS, bitS, sN, mv, aN, aF, aK, aH, aT, aS, aW, aZ, aU, b_3, b_15, b_24, b_43, c_68, up_at, eq_self, ne_eq, not_true_eq_false, not_false_eq_true, Classical.not_not, decide_true, decide_false, and_true, true_and, and_false, false_and, and_self, or_true, true_or, or_false, false_or, or_self, if_true, if_false, ite_true, ite_false, Bool.eq_false_iff, Bool.not_eq_eq_eq_not, Bool.true_eq_false, Bool.false_eq_true, reduceCtorEq]; done) | (simp only [sp_glider, FB, FF, FK, FN, FS, FM, FZ, fnd, becS, bitS, sN, mv, aN, aF, aK, aH, aT, aS, aW, aZ, aU, b_3, b_15, b_24, b_43, c_68, up_at, eq_self, ne_eq, not_true_eq_false, not_false_eq_true, Classical.not_not, decide_true, decide_false, and_true, true_and, and_false, false_and, and_self, or_true, true_or, or_false, false_or, or_self, if_true, if_false, ite_true, ite_false, Bool.eq_false_iff, Bool.not_eq_eq_eq_not, Bool.true_eq_false, Bool.false_eq_true, reduceCtorEq]; rfl) | (simp [becS, bitS, sp_glider, FB, FF, FK, FN, FS, FM, FZ, fnd, mv, aN, b_3, b_15, b_24, b_43, c_68, up_at]; done)
            · try simp only [mv_now, mv_fnd, mv_tap, mv_kep]
              first | (simp only [up_at, sN, becS, bitS, sp_glider, FB, FF, FK, FN, FS, FM, FZ, fnd, mv, aN, aF, aK, aH, aT, aS, aW, aZ, aU, b_3, b_15, b_24, b_43, c_68, up_at, eq_self, ne_eq, not_true_eq_false, not_false_eq_true, Classical.not_not, decide_true, decide_false, and_true, true_and, and_false, false_and, and_self, or_true, true_or, or_false, false_or, or_self, if_true, if_false, ite_true, ite_false, Bool.eq_false_iff, Bool.not_eq_eq_eq_not, Bool.true_eq_false, Bool.false_eq_true, reduceCtorEq]; done) | (simp only [up_at, sN, becS, bitS, sp_glider, FB, FF, FK, FN, FS, FM, FZ, fnd, mv, aN, aF, aK, aH, aT, aS, aW, aZ, aU, b_3, b_15, b_24, b_43, c_68, up_at, eq_self, ne_eq, not_true_eq_false, not_false_eq_true, Classical.not_not, decide_true, decide_false, and_true, true_and, and_false, false_and, and_self, or_true, true_or, or_false, false_or, or_self, if_true, if_false, ite_true, ite_false, Bool.eq_false_iff, Bool.not_eq_eq_eq_not, Bool.true_eq_false, Bool.false_eq_true, reduceCtorEq]; rfl) | (simp [mv_now, mv_fnd, up_at, sN, becS, bitS, sp_glider, FB, FF, FK, FN, FS, FM, FZ, fnd, mv, aN, b_3, b_15, b_24, b_43, c_68, up_at]; done)
            · repeat first | exact (fun _ _ => rfl) | refine frU (by decide) ?_
            · repeat first | exact id | refine mtU (by decide) ?_
          · refine g_al0n (pc := 71) C dX12_glider_71 ?_
            refine g_ldc (pc := 72) C dX12_glider_72 kX12_66 ?_
            refine s_VI (pc := 74) (st := []) C h135 rfl (c_X12_finding (d := d - 1) (by omega) σ (i := 1) (by decide) (w := ((-1000002))) (by decide)) (by omega) lX12_62 dX12_glider_74 rfl (Nat.le_of_ble_eq_true rfl) rfl ?_
            refine r_P C hr dX12_glider_77 ⟨?_, ?_, ?_, ?_⟩
            · first | (simp only [sp_glider, FB, FF, FK, FN, FS, FM, FZ, fnd, becS, bitS, sN, mv, aN, aF, aK, aH, aT, aS, aW, aZ, aU, b_3, b_15, b_24, b_43, eq_true c_68, up_at, eq_self, ne_eq, not_true_eq_false, not_false_eq_true, Classical.not_not, decide_true, decide_false, and_true, true_and, and_false, false_and, and_self, or_true, true_or, or_false, false_or, or_self, if_true, if_false, ite_true, ite_false, Bool.eq_false_iff, Bool.not_eq_eq_eq_not, Bool.true_eq_false, Bool.false_eq_true, reduceCtorEq]; done) | (simp only [sp_glider, FB, FF, FK, FN, FS, FM, FZ, fnd, becS, bitS, sN, mv, aN, aF, aK, aH, aT, aS, aW, aZ, aU, b_3, b_15, b_24, b_43, eq_true c_68, up_at, eq_self, ne_eq, not_true_eq_false, not_false_eq_true, Classical.not_not, decide_true, decide_false, and_true, true_and, and_false, false_and, and_self, or_true, true_or, or_false, false_or, or_self, if_true, if_false, ite_true, ite_false, Bool.eq_false_iff, Bool.not_eq_eq_eq_not, Bool.true_eq_false, Bool.false_eq_true, reduceCtorEq]; rfl) | (simp [becS, bitS, sp_glider, FB, FF, FK, FN, FS, FM, FZ, fnd, mv, aN, b_3, b_15, b_24, b_43, eq_true c_68, up_at]; done)
            · try simp only [mv_now, mv_fnd, mv_tap, mv_kep]
              first | (simp only [up_at, sN, becS, bitS, sp_glider, FB, FF, FK, FN, FS, FM, FZ, fnd, mv, aN, aF, aK, aH, aT, aS, aW, aZ, aU, b_3, b_15, b_24, b_43, eq_true c_68, up_at, eq_self, ne_eq, not_true_eq_false, not_false_eq_true, Classical.not_not, decide_true, decide_false, and_true, true_and, and_false, false_and, and_self, or_true, true_or, or_false, false_or, or_self, if_true, if_false, ite_true, ite_false, Bool.eq_false_iff, Bool.not_eq_eq_eq_not, Bool.true_eq_false, Bool.false_eq_true, reduceCtorEq]; done) | (simp only [up_at, sN, becS, bitS, sp_glider, FB, FF, FK, FN, FS, FM, FZ, fnd, mv, aN, aF, aK, aH, aT, aS, aW, aZ, aU, b_3, b_15, b_24, b_43, eq_true c_68, up_at, eq_self, ne_eq, not_true_eq_false, not_false_eq_true, Classical.not_not, decide_true, decide_false, and_true, true_and, and_false, false_and, and_self, or_true, true_or, or_false, false_or, or_self, if_true, if_false, ite_true, ite_false, Bool.eq_false_iff, Bool.not_eq_eq_eq_not, Bool.true_eq_false, Bool.false_eq_true, reduceCtorEq]; rfl) | (simp [mv_now, mv_fnd, up_at, sN, becS, bitS, sp_glider, FB, FF, FK, FN, FS, FM, FZ, fnd, mv, aN, b_3, b_15, b_24, b_43, eq_true c_68, up_at]; done)
            · repeat first | exact (fun _ _ => rfl) | refine frU (by decide) ?_
            · repeat first | exact id | refine mtU (by decide) ?_
        · refine g_if_ne (pc := 46) (tgt := 56) C dX12_glider_46 (by decide) (fun c => absurd c (by decide)) (fun _ => ?_)
          refine g_al0n (pc := 49) C dX12_glider_49 ?_
          refine g_ldc (pc := 50) C dX12_glider_50 kX12_57 ?_
          refine s_VI (pc := 52) (st := []) C h135 rfl (c_X12_finding (d := d - 1) (by omega) σ (i := 0) (by decide) (w := ((-1000001))) (by decide)) (by omega) lX12_62 dX12_glider_52 rfl (Nat.le_of_ble_eq_true rfl) rfl ?_
          refine r_P C hr dX12_glider_55 ⟨?_, ?_, ?_, ?_⟩
          · first | (simp only [sp_glider, FB, FF, FK, FN, FS, FM, FZ, fnd, becS, bitS, sN, mv, aN, aF, aK, aH, aT, aS, aW, aZ, aU, b_3, b_15, b_24, b_43, up_at, eq_self, ne_eq, not_true_eq_false, not_false_eq_true, Classical.not_not, decide_true, decide_false, and_true, true_and, and_false, false_and, and_self, or_true, true_or, or_false, false_or, or_self, if_true, if_false, ite_true, ite_false, Bool.eq_false_iff, Bool.not_eq_eq_eq_not, Bool.true_eq_false, Bool.false_eq_true, reduceCtorEq]; done) | (simp only [sp_glider, FB, FF, FK, FN, FS, FM, FZ, fnd, becS, bitS, sN, mv, aN, aF, aK, aH, aT, aS, aW, aZ, aU, b_3, b_15, b_24, b_43, up_at, eq_self, ne_eq, not_true_eq_false, not_false_eq_true, Classical.not_not, decide_true, decide_false, and_true, true_and, and_false, false_and, and_self, or_true, true_or, or_false, false_or, or_self, if_true, if_false, ite_true, ite_false, Bool.eq_false_iff, Bool.not_eq_eq_eq_not, Bool.true_eq_false, Bool.false_eq_true, reduceCtorEq]; rfl) | (simp [becS, bitS, sp_glider, FB, FF, FK, FN, FS, FM, FZ, fnd, mv, aN, b_3, b_15, b_24, b_43, up_at]; done)
          · try simp only [mv_now, mv_fnd, mv_tap, mv_kep]
            first | (simp only [up_at, sN, becS, bitS, sp_glider, FB, FF, FK, FN, FS, FM, FZ, fnd, mv, aN, aF, aK, aH, aT, aS, aW, aZ, aU, b_3, b_15, b_24, b_43, up_at, eq_self, ne_eq, not_true_eq_false, not_false_eq_true, Classical.not_not, decide_true, decide_false, and_true, true_and, and_false, false_and, and_self, or_true, true_or, or_false, false_or, or_self, if_true, if_false, ite_true, ite_false, Bool.eq_false_iff, Bool.not_eq_eq_eq_not, Bool.true_eq_false, Bool.false_eq_true, reduceCtorEq]; done) | (simp only [up_at, sN, becS, bitS, sp_glider, FB, FF, FK, FN, FS, FM, FZ, fnd, mv, aN, aF, aK, aH, aT, aS, aW, aZ, aU, b_3, b_15, b_24, b_43, up_at, eq_self, ne_eq, not_true_eq_false, not_false_eq_true, Classical.not_not, decide_true, decide_false, and_true, true_and, and_false, false_and, and_self, or_true, true_or, or_false, false_or, or_self, if_true, if_false, ite_true, ite_false, Bool.eq_false_iff, Bool.not_eq_eq_eq_not, Bool.true_eq_false, Bool.false_eq_true, reduceCtorEq]; rfl) | (simp [mv_now, mv_fnd, up_at, sN, becS, bitS, sp_glider, FB, FF, FK, FN, FS, FM, FZ, fnd, mv, aN, b_3, b_15, b_24, b_43, up_at]; done)
          · repeat first | exact (fun _ _ => rfl) | refine frU (by decide) ?_
          · repeat first | exact id | refine mtU (by decide) ?_
      · refine g_if_eq (pc := 27) (tgt := 49) C dX12_glider_27 (by decide) (fun _ => ?_) (fun c => absurd c (by decide))
        refine g_al0n (pc := 49) C dX12_glider_49 ?_
        refine g_ldc (pc := 50) C dX12_glider_50 kX12_57 ?_
        refine s_VI (pc := 52) (st := []) C h135 rfl (c_X12_finding (d := d - 1) (by omega) σ (i := 0) (by decide) (w := ((-1000001))) (by decide)) (by omega) lX12_62 dX12_glider_52 rfl (Nat.le_of_ble_eq_true rfl) rfl ?_
        refine r_P C hr dX12_glider_55 ⟨?_, ?_, ?_, ?_⟩
        · first | (simp only [sp_glider, FB, FF, FK, FN, FS, FM, FZ, fnd, becS, bitS, sN, mv, aN, aF, aK, aH, aT, aS, aW, aZ, aU, b_3, b_15, b_24, up_at, eq_self, ne_eq, not_true_eq_false, not_false_eq_true, Classical.not_not, decide_true, decide_false, and_true, true_and, and_false, false_and, and_self, or_true, true_or, or_false, false_or, or_self, if_true, if_false, ite_true, ite_false, Bool.eq_false_iff, Bool.not_eq_eq_eq_not, Bool.true_eq_false, Bool.false_eq_true, reduceCtorEq]; done) | (simp only [sp_glider, FB, FF, FK, FN, FS, FM, FZ, fnd, becS, bitS, sN, mv, aN, aF, aK, aH, aT, aS, aW, aZ, aU, b_3, b_15, b_24, up_at, eq_self, ne_eq, not_true_eq_false, not_false_eq_true, Classical.not_not, decide_true, decide_false, and_true, true_and, and_false, false_and, and_self, or_true, true_or, or_false, false_or, or_self, if_true, if_false, ite_true, ite_false, Bool.eq_false_iff, Bool.not_eq_eq_eq_not, Bool.true_eq_false, Bool.false_eq_true, reduceCtorEq]; rfl) | (simp [becS, bitS, sp_glider, FB, FF, FK, FN, FS, FM, FZ, fnd, mv, aN, b_3, b_15, b_24, up_at]; done)
        · try simp only [mv_now, mv_fnd, mv_tap, mv_kep]
          first | (simp only [up_at, sN, becS, bitS, sp_glider, FB, FF, FK, FN, FS, FM, FZ, fnd, mv, aN, aF, aK, aH, aT, aS, aW, aZ, aU, b_3, b_15, b_24, up_at, eq_self, ne_eq, not_true_eq_false, not_false_eq_true, Classical.not_not, decide_true, decide_false, and_true, true_and, and_false, false_and, and_self, or_true, true_or, or_false, false_or, or_self, if_true, if_false, ite_true, ite_false, Bool.eq_false_iff, Bool.not_eq_eq_eq_not, Bool.true_eq_false, Bool.false_eq_true, reduceCtorEq]; done) | (simp only [up_at, sN, becS, bitS, sp_glider, FB, FF, FK, FN, FS, FM, FZ, fnd, mv, aN, aF, aK, aH, aT, aS, aW, aZ, aU, b_3, b_15, b_24, up_at, eq_self, ne_eq, not_true_eq_false, not_false_eq_true, Classical.not_not, decide_true, decide_false, and_true, true_and, and_false, false_and, and_self, or_true, true_or, or_false, false_or, or_self, if_true, if_false, ite_true, ite_false, Bool.eq_false_iff, Bool.not_eq_eq_eq_not, Bool.true_eq_false, Bool.false_eq_true, reduceCtorEq]; rfl) | (simp [mv_now, mv_fnd, up_at, sN, becS, bitS, sp_glider, FB, FF, FK, FN, FS, FM, FZ, fnd, mv, aN, b_3, b_15, b_24, up_at]; done)
        · repeat first | exact (fun _ _ => rfl) | refine frU (by decide) ?_
        · repeat first | exact id | refine mtU (by decide) ?_
    · refine g_if_eq (pc := 18) (tgt := 49) C dX12_glider_18 (by decide) (fun _ => ?_) (fun c => absurd c (by decide))
      refine g_al0n (pc := 49) C dX12_glider_49 ?_
      refine g_ldc (pc := 50) C dX12_glider_50 kX12_57 ?_
      refine s_VI (pc := 52) (st := []) C h135 rfl (c_X12_finding (d := d - 1) (by omega) σ (i := 0) (by decide) (w := ((-1000001))) (by decide)) (by omega) lX12_62 dX12_glider_52 rfl (Nat.le_of_ble_eq_true rfl) rfl ?_
      refine r_P C hr dX12_glider_55 ⟨?_, ?_, ?_, ?_⟩
      · first | (simp only [sp_glider, FB, FF, FK, FN, FS, FM, FZ, fnd, becS, bitS, sN, mv, aN, aF, aK, aH, aT, aS, aW, aZ, aU, b_3, b_15, up_at, eq_self, ne_eq, not_true_eq_false, not_false_eq_true, Classical.not_not, decide_true, decide_false, and_true, true_and, and_false, false_and, and_self, or_true, true_or, or_false, false_or, or_self, if_true, if_false, ite_true, ite_false, Bool.eq_false_iff, Bool.not_eq_eq_eq_not, Bool.true_eq_false, Bool.false_eq_true, reduceCtorEq]; done) | (simp only [sp_glider, FB, FF, FK, FN, FS, FM, FZ, fnd, becS, bitS, sN, mv, aN, aF, aK, aH, aT, aS, aW, aZ, aU, b_3, b_15, up_at, eq_self, ne_eq, not_true_eq_false, not_false_eq_true, Classical.not_not, decide_true, decide_false, and_true, true_and, and_false, false_and, and_self, or_true, true_or, or_false, false_or, or_self, if_true, if_false, ite_true, ite_false, Bool.eq_false_iff, Bool.not_eq_eq_eq_not, Bool.true_eq_false, Bool.false_eq_true, reduceCtorEq]; rfl) | (simp [becS, bitS, sp_glider, FB, FF, FK, FN, FS, FM, FZ, fnd, mv, aN, b_3, b_15, up_at]; done)
      · try simp only [mv_now, mv_fnd, mv_tap, mv_kep]
        first | (simp only [up_at, sN, becS, bitS, sp_glider, FB, FF, FK, FN, FS, FM, FZ, fnd, mv, aN, aF, aK, aH, aT, aS, aW, aZ, aU, b_3, b_15, up_at, eq_self, ne_eq, not_true_eq_false, not_false_eq_true, Classical.not_not, decide_true, decide_false, and_true, true_and, and_false, false_and, and_self, or_true, true_or, or_false, false_or, or_self, if_true, if_false, ite_true, ite_false, Bool.eq_false_iff, Bool.not_eq_eq_eq_not, Bool.true_eq_false, Bool.false_eq_true, reduceCtorEq]; done) | (simp only [up_at, sN, becS, bitS, sp_glider, FB, FF, FK, FN, FS, FM, FZ, fnd, mv, aN, aF, aK, aH, aT, aS, aW, aZ, aU, b_3, b_15, up_at, eq_self, ne_eq, not_true_eq_false, not_false_eq_true, Classical.not_not, decide_true, decide_false, and_true, true_and, and_false, false_and, and_self, or_true, true_or, or_false, false_or, or_self, if_true, if_false, ite_true, ite_false, Bool.eq_false_iff, Bool.not_eq_eq_eq_not, Bool.true_eq_false, Bool.false_eq_true, reduceCtorEq]; rfl) | (simp [mv_now, mv_fnd, up_at, sN, becS, bitS, sp_glider, FB, FF, FK, FN, FS, FM, FZ, fnd, mv, aN, b_3, b_15, up_at]; done)
      · repeat first | exact (fun _ _ => rfl) | refine frU (by decide) ?_
      · repeat first | exact id | refine mtU (by decide) ?_
  · refine g_if_eq (pc := 6) (tgt := 49) C dX12_glider_6 (by decide) (fun _ => ?_) (fun c => absurd c (by decide))
    refine g_al0n (pc := 49) C dX12_glider_49 ?_
    refine g_ldc (pc := 50) C dX12_glider_50 kX12_57 ?_
    refine s_VI (pc := 52) (st := []) C h135 rfl (c_X12_finding (d := d - 1) (by omega) σ (i := 0) (by decide) (w := ((-1000001))) (by decide)) (by omega) lX12_62 dX12_glider_52 rfl (Nat.le_of_ble_eq_true rfl) rfl ?_
    refine r_P C hr dX12_glider_55 ⟨?_, ?_, ?_, ?_⟩
    · first | (simp only [sp_glider, FB, FF, FK, FN, FS, FM, FZ, fnd, becS, bitS, sN, mv, aN, aF, aK, aH, aT, aS, aW, aZ, aU, b_3, up_at, eq_self, ne_eq, not_true_eq_false, not_false_eq_true, Classical.not_not, decide_true, decide_false, and_true, true_and, and_false, false_and, and_self, or_true, true_or, or_false, false_or, or_self, if_true, if_false, ite_true, ite_false, Bool.eq_false_iff, Bool.not_eq_eq_eq_not, Bool.true_eq_false, Bool.false_eq_true, reduceCtorEq]; done) | (simp only [sp_glider, FB, FF, FK, FN, FS, FM, FZ, fnd, becS, bitS, sN, mv, aN, aF, aK, aH, aT, aS, aW, aZ, aU, b_3, up_at, eq_self, ne_eq, not_true_eq_false, not_false_eq_true, Classical.not_not, decide_true, decide_false, and_true, true_and, and_false, false_and, and_self, or_true, true_or, or_false, false_or, or_self, if_true, if_false, ite_true, ite_false, Bool.eq_false_iff, Bool.not_eq_eq_eq_not, Bool.true_eq_false, Bool.false_eq_true, reduceCtorEq]; rfl) | (simp [becS, bitS, sp_glider, FB, FF, FK, FN, FS, FM, FZ, fnd, mv, aN, b_3, up_at]; done)
    · try simp only [mv_now, mv_fnd, mv_tap, mv_kep]
      first | (simp only [up_at, sN, becS, bitS, sp_glider, FB, FF, FK, FN, FS, FM, FZ, fnd, mv, aN, aF, aK, aH, aT, aS, aW, aZ, aU, b_3, up_at, eq_self, ne_eq, not_true_eq_false, not_false_eq_true, Classical.not_not, decide_true, decide_false, and_true, true_and, and_false, false_and, and_self, or_true, true_or, or_false, false_or, or_self, if_true, if_false, ite_true, ite_false, Bool.eq_false_iff, Bool.not_eq_eq_eq_not, Bool.true_eq_false, Bool.false_eq_true, reduceCtorEq]; done) | (simp only [up_at, sN, becS, bitS, sp_glider, FB, FF, FK, FN, FS, FM, FZ, fnd, mv, aN, aF, aK, aH, aT, aS, aW, aZ, aU, b_3, up_at, eq_self, ne_eq, not_true_eq_false, not_false_eq_true, Classical.not_not, decide_true, decide_false, and_true, true_and, and_false, false_and, and_self, or_true, true_or, or_false, false_or, or_self, if_true, if_false, ite_true, ite_false, Bool.eq_false_iff, Bool.not_eq_eq_eq_not, Bool.true_eq_false, Bool.false_eq_true, reduceCtorEq]; rfl) | (simp [mv_now, mv_fnd, up_at, sN, becS, bitS, sp_glider, FB, FF, FK, FN, FS, FM, FZ, fnd, mv, aN, b_3, up_at]; done)
    · repeat first | exact (fun _ _ => rfl) | refine frU (by decide) ?_
    · repeat first | exact id | refine mtU (by decide) ?_

theorem m_ask {d : Nat} (hd : 3 ≤ d) (σ : Sg) (hI : INV (σ 136)) (p w g h m : Int32) : CP d mX12_ask [.ref 135, .int p, .int w, .int g, .int h, .int m] σ (MPo σ (sp_ask (mv σ) p w g h m)) := by
  have hn3 := hI.n3.2
  have hn4 := hI.n4.2
  have hn5 := hI.n5.2
  have hn6 := hI.n6.2
  have hn7 := hI.n7.2
  refine con_of (by decide) (catL rfl) (Nat.le_of_ble_eq_true rfl) ?_
  intro μ ω C hr
  have C : Cx μ ω "TowFieldModel" cX12_ask 9 d := C
  have hr : (mH μ).sig.returnType = some .int := hr
  show G μ ω (RQ μ ω (pP (MPo σ (sp_ask (mv σ) p w g h m)))) 0 [some (.ref 135), some (.int p), some (.int w), some (.int g), some (.int h), some (.int m), none, none, none] [] (mk σ) 0 0
  refine g_il2n (pc := 0) C dX12_ask_0 ?_
  refine g_iconst (pc := 1) (v := (-1)) C dX12_ask_1 (by decide) ?_
  refine g_icmp_eq (pc := 2) (tgt := 19) C dX12_ask_2 (by decide) (fun c_2 => ?_) (fun c_2 => ?_)
  · refine g_iconst (pc := 19) (v := 1) C dX12_ask_19 (by decide) ?_
    refine g_goto (pc := 20) (tgt := 24) C dX12_ask_20 (by decide) ?_
    refine g_is6 (pc := 24) C dX12_ask_24 ?_
    refine g_al0n (pc := 26) C dX12_ask_26 ?_
    refine g_il1n (pc := 27) C dX12_ask_27 ?_
    refine g_iconst (pc := 28) (v := 4) C dX12_ask_28 (by decide) ?_
    refine s_VB (pc := 29) (st := []) C h135 rfl (c_X12_isE (d := d - 1) (by omega) σ p (c := 4) (by decide) rfl) (by omega) lX12_71 dX12_ask_29 rfl (Nat.le_of_ble_eq_true rfl) rfl (fun b_29 => ?_) (fun b_29 => ?_)
    · refine g_if_eq (pc := 32) (tgt := 86) C dX12_ask_32 (by decide) (fun c => absurd c (by decide)) (fun _ => ?_)
      refine g_il6 (pc := 35) C dX12_ask_35 ?_
      refine g_if_eq (pc := 37) (tgt := 86) C dX12_ask_37 (by decide) (fun c => absurd c (by decide)) (fun _ => ?_)
      refine g_al0n (pc := 40) C dX12_ask_40 ?_
      refine g_il3n (pc := 41) C dX12_ask_41 ?_
      refine g_iconst (pc := 42) (v := 3) C dX12_ask_42 (by decide) ?_
      refine s_VB (pc := 43) (st := []) C h135 rfl (c_X12_isE (d := d - 1) (by omega) σ g (c := 3) (by decide) rfl) (by omega) lX12_71 dX12_ask_43 rfl (Nat.le_of_ble_eq_true rfl) rfl (fun b_43 => ?_) (fun b_43 => ?_)
      · refine g_if_eq (pc := 46) (tgt := 86) C dX12_ask_46 (by decide) (fun c => absurd c (by decide)) (fun _ => ?_)
        refine g_il4 (pc := 49) C dX12_ask_49 ?_
        refine g_bipush (pc := 51) (v := 10) C dX12_ask_51 (by decide) ?_
        refine g_sipush (pc := 53) (v := 309) C dX12_ask_53 (by decide) ?_
        refine s_SB (pc := 56) (st := []) C (c_X12_within (d := d - 1) (by omega) σ h 10 309) (by omega) lX12_58 dX12_ask_56 rfl (Nat.le_of_ble_eq_true rfl) rfl (fun b_56 => ?_) (fun b_56 => ?_)
        · refine g_if_eq (pc := 59) (tgt := 86) C dX12_ask_59 (by decide) (fun c => absurd c (by decide)) (fun _ => ?_)
          refine g_il4 (pc := 62) C dX12_ask_62 ?_
          refine g_bipush (pc := 64) (v := 10) C dX12_ask_64 (by decide) ?_
          refine g_irem (pc := 66) C dX12_ask_66 (by decide) ?_
          refine g_iconst (pc := 67) (v := 1) C dX12_ask_67 (by decide) ?_
          refine g_iconst (pc := 68) (v := 5) C dX12_ask_68 (by decide) ?_
          refine s_SB (pc := 69) (st := []) C (c_X12_within (d := d - 1) (by omega) σ (jrem h 10) 1 5) (by omega) lX12_58 dX12_ask_69 rfl (Nat.le_of_ble_eq_true rfl) rfl (fun b_69 => ?_) (fun b_69 => ?_)
          · refine g_if_eq (pc := 72) (tgt := 86) C dX12_ask_72 (by decide) (fun c => absurd c (by decide)) (fun _ => ?_)
            refine g_il5 (pc := 75) C dX12_ask_75 ?_
            refine g_iconst (pc := 77) (v := 1) C dX12_ask_77 (by decide) ?_
            refine g_bipush (pc := 78) (v := 60) C dX12_ask_78 (by decide) ?_
            refine s_SB (pc := 80) (st := []) C (c_X12_within (d := d - 1) (by omega) σ m 1 60) (by omega) lX12_58 dX12_ask_80 rfl (Nat.le_of_ble_eq_true rfl) rfl (fun b_80 => ?_) (fun b_80 => ?_)
            · refine g_if_ne (pc := 83) (tgt := 93) C dX12_ask_83 (by decide) (fun _ => ?_) (fun c => absurd c (by decide))
              refine g_al0n (pc := 93) C dX12_ask_93 ?_
              refine s_getR (pc := 94) C fX12_9 h135 rfl dX12_ask_94 ?_
              refine g_bipush (pc := 97) (v := 7) C dX12_ask_97 (by decide) ?_
              refine s_iald (pc := 99) (q := 7) C h136 rfl (by omega) (Nat.le_of_ble_eq_true rfl) dX12_ask_99 ?_
              refine g_is7 (pc := 100) C dX12_ask_100 ?_
              refine g_il7 (pc := 102) C dX12_ask_102 ?_
              refine g_bipush (pc := 104) (v := 20) C dX12_ask_104 (by decide) ?_
              refine g_icmp_ne (pc := 106) (tgt := 116) C dX12_ask_106 (by decide) (fun c_106 => ?_) (fun c_106 => ?_)
              · refine g_sipush (pc := 116) (v := 146) C dX12_ask_116 (by decide) ?_
                refine g_bipush (pc := 119) (v := 10) C dX12_ask_119 (by decide) ?_
                refine g_il7 (pc := 121) C dX12_ask_121 ?_
                refine g_imul (pc := 123) C dX12_ask_123 ?_
                refine g_iadd (pc := 124) C dX12_ask_124 ?_
                refine g_is8 (pc := 125) C dX12_ask_125 ?_
                refine g_al0n (pc := 127) C dX12_ask_127 ?_
                refine s_getR (pc := 128) C fX12_9 h135 rfl dX12_ask_128 ?_
                refine g_il8 (pc := 131) C dX12_ask_131 ?_
                refine g_iconst (pc := 133) (v := 0) C dX12_ask_133 (by decide) ?_
                refine g_iadd (pc := 134) C dX12_ask_134 ?_
                refine g_il1n (pc := 135) C dX12_ask_135 ?_
                refine s_iast (pc := 136) (q := (146 + (10 * (cnt (σ 136) 7))) + 0) C h136 (by first | (simp only [ixl, nI_add, pk_mul]; done) | rfl | decide | (rw [hI.n3.1]; simp only [ixl, nI_add, pk_mul]; done) | (rw [hI.n4.1]; simp only [ixl, nI_add, pk_mul]; done) | (rw [hI.n5.1]; simp only [ixl, nI_add, pk_mul]; done) | (rw [hI.n6.1]; simp only [ixl, nI_add, pk_mul]; done) | (rw [hI.n7.1]; simp only [ixl, nI_add, pk_mul]; done)) (by omega) (Nat.le_of_ble_eq_true rfl) dX12_ask_136 ?_
                refine g_al0n (pc := 137) C dX12_ask_137 ?_
                refine s_getR (pc := 138) C fX12_9 h135 rfl dX12_ask_138 ?_
                refine g_il8 (pc := 141) C dX12_ask_141 ?_
                refine g_iconst (pc := 143) (v := 1) C dX12_ask_143 (by decide) ?_
                refine g_iadd (pc := 144) C dX12_ask_144 ?_
                refine g_il2n (pc := 145) C dX12_ask_145 ?_
                refine s_iast (pc := 146) (q := (146 + (10 * (cnt (σ 136) 7))) + 1) C h136 (by first | (simp only [ixl, nI_add, pk_mul]; done) | rfl | decide | (rw [hI.n3.1]; simp only [ixl, nI_add, pk_mul]; done) | (rw [hI.n4.1]; simp only [ixl, nI_add, pk_mul]; done) | (rw [hI.n5.1]; simp only [ixl, nI_add, pk_mul]; done) | (rw [hI.n6.1]; simp only [ixl, nI_add, pk_mul]; done) | (rw [hI.n7.1]; simp only [ixl, nI_add, pk_mul]; done)) (by omega) (Nat.le_of_ble_eq_true rfl) dX12_ask_146 ?_
                refine g_al0n (pc := 147) C dX12_ask_147 ?_
                refine s_getR (pc := 148) C fX12_9 h135 rfl dX12_ask_148 ?_
                refine g_il8 (pc := 151) C dX12_ask_151 ?_
                refine g_iconst (pc := 153) (v := 2) C dX12_ask_153 (by decide) ?_
                refine g_iadd (pc := 154) C dX12_ask_154 ?_
                refine g_il3n (pc := 155) C dX12_ask_155 ?_
                refine s_iast (pc := 156) (q := (146 + (10 * (cnt (σ 136) 7))) + 2) C h136 (by first | (simp only [ixl, nI_add, pk_mul]; done) | rfl | decide | (rw [hI.n3.1]; simp only [ixl, nI_add, pk_mul]; done) | (rw [hI.n4.1]; simp only [ixl, nI_add, pk_mul]; done) | (rw [hI.n5.1]; simp only [ixl, nI_add, pk_mul]; done) | (rw [hI.n6.1]; simp only [ixl, nI_add, pk_mul]; done) | (rw [hI.n7.1]; simp only [ixl, nI_add, pk_mul]; done)) (by omega) (Nat.le_of_ble_eq_true rfl) dX12_ask_156 ?_
                refine g_al0n (pc := 157) C dX12_ask_157 ?_
                refine s_getR (pc := 158) C fX12_9 h135 rfl dX12_ask_158 ?_
                refine g_il8 (pc := 161) C dX12_ask_161 ?_
                refine g_iconst (pc := 163) (v := 3) C dX12_ask_163 (by decide) ?_
                refine g_iadd (pc := 164) C dX12_ask_164 ?_
                refine g_il4 (pc := 165) C dX12_ask_165 ?_
                refine g_bipush (pc := 167) (v := 10) C dX12_ask_167 (by decide) ?_
                refine g_irem (pc := 169) C dX12_ask_169 (by decide) ?_
                refine s_iast (pc := 170) (q := (146 + (10 * (cnt (σ 136) 7))) + 3) C h136 (by first | (simp only [ixl, nI_add, pk_mul]; done) | rfl | decide | (rw [hI.n3.1]; simp only [ixl, nI_add, pk_mul]; done) | (rw [hI.n4.1]; simp only [ixl, nI_add, pk_mul]; done) | (rw [hI.n5.1]; simp only [ixl, nI_add, pk_mul]; done) | (rw [hI.n6.1]; simp only [ixl, nI_add, pk_mul]; done) | (rw [hI.n7.1]; simp only [ixl, nI_add, pk_mul]; done)) (by omega) (Nat.le_of_ble_eq_true rfl) dX12_ask_170 ?_
                refine g_al0n (pc := 171) C dX12_ask_171 ?_
                refine s_getR (pc := 172) C fX12_9 h135 rfl dX12_ask_172 ?_
                refine g_il8 (pc := 175) C dX12_ask_175 ?_
                refine g_iconst (pc := 177) (v := 4) C dX12_ask_177 (by decide) ?_
                refine g_iadd (pc := 178) C dX12_ask_178 ?_
                refine g_il4 (pc := 179) C dX12_ask_179 ?_
                refine g_bipush (pc := 181) (v := 10) C dX12_ask_181 (by decide) ?_
                refine g_idiv (pc := 183) C dX12_ask_183 (by decide) ?_
                refine s_iast (pc := 184) (q := (146 + (10 * (cnt (σ 136) 7))) + 4) C h136 (by first | (simp only [ixl, nI_add, pk_mul]; done) | rfl | decide | (rw [hI.n3.1]; simp only [ixl, nI_add, pk_mul]; done) | (rw [hI.n4.1]; simp only [ixl, nI_add, pk_mul]; done) | (rw [hI.n5.1]; simp only [ixl, nI_add, pk_mul]; done) | (rw [hI.n6.1]; simp only [ixl, nI_add, pk_mul]; done) | (rw [hI.n7.1]; simp only [ixl, nI_add, pk_mul]; done)) (by omega) (Nat.le_of_ble_eq_true rfl) dX12_ask_184 ?_
                refine g_al0n (pc := 185) C dX12_ask_185 ?_
                refine s_getR (pc := 186) C fX12_9 h135 rfl dX12_ask_186 ?_
                refine g_il8 (pc := 189) C dX12_ask_189 ?_
                refine g_iconst (pc := 191) (v := 5) C dX12_ask_191 (by decide) ?_
                refine g_iadd (pc := 192) C dX12_ask_192 ?_
                refine g_il5 (pc := 193) C dX12_ask_193 ?_
                refine s_iast (pc := 195) (q := (146 + (10 * (cnt (σ 136) 7))) + 5) C h136 (by first | (simp only [ixl, nI_add, pk_mul]; done) | rfl | decide | (rw [hI.n3.1]; simp only [ixl, nI_add, pk_mul]; done) | (rw [hI.n4.1]; simp only [ixl, nI_add, pk_mul]; done) | (rw [hI.n5.1]; simp only [ixl, nI_add, pk_mul]; done) | (rw [hI.n6.1]; simp only [ixl, nI_add, pk_mul]; done) | (rw [hI.n7.1]; simp only [ixl, nI_add, pk_mul]; done)) (by omega) (Nat.le_of_ble_eq_true rfl) dX12_ask_195 ?_
                refine g_al0n (pc := 196) C dX12_ask_196 ?_
                refine s_getR (pc := 197) C fX12_9 h135 rfl dX12_ask_197 ?_
                refine g_il8 (pc := 200) C dX12_ask_200 ?_
                refine g_bipush (pc := 202) (v := 6) C dX12_ask_202 (by decide) ?_
                refine g_iadd (pc := 204) C dX12_ask_204 ?_
                refine g_iconst (pc := 205) (v := 0) C dX12_ask_205 (by decide) ?_
                refine s_iast (pc := 206) (q := (146 + (10 * (cnt (σ 136) 7))) + 6) C h136 (by first | (simp only [ixl, nI_add, pk_mul]; done) | rfl | decide | (rw [hI.n3.1]; simp only [ixl, nI_add, pk_mul]; done) | (rw [hI.n4.1]; simp only [ixl, nI_add, pk_mul]; done) | (rw [hI.n5.1]; simp only [ixl, nI_add, pk_mul]; done) | (rw [hI.n6.1]; simp only [ixl, nI_add, pk_mul]; done) | (rw [hI.n7.1]; simp only [ixl, nI_add, pk_mul]; done)) (by omega) (Nat.le_of_ble_eq_true rfl) dX12_ask_206 ?_
                refine g_al0n (pc := 207) C dX12_ask_207 ?_
                refine s_getR (pc := 208) C fX12_9 h135 rfl dX12_ask_208 ?_
                refine g_il8 (pc := 211) C dX12_ask_211 ?_
                refine g_bipush (pc := 213) (v := 7) C dX12_ask_213 (by decide) ?_
                refine g_iadd (pc := 215) C dX12_ask_215 ?_
                refine g_iconst (pc := 216) (v := (-1)) C dX12_ask_216 (by decide) ?_
                refine s_iast (pc := 217) (q := (146 + (10 * (cnt (σ 136) 7))) + 7) C h136 (by first | (simp only [ixl, nI_add, pk_mul]; done) | rfl | decide | (rw [hI.n3.1]; simp only [ixl, nI_add, pk_mul]; done) | (rw [hI.n4.1]; simp only [ixl, nI_add, pk_mul]; done) | (rw [hI.n5.1]; simp only [ixl, nI_add, pk_mul]; done) | (rw [hI.n6.1]; simp only [ixl, nI_add, pk_mul]; done) | (rw [hI.n7.1]; simp only [ixl, nI_add, pk_mul]; done)) (by omega) (Nat.le_of_ble_eq_true rfl) dX12_ask_217 ?_
                refine g_al0n (pc := 218) C dX12_ask_218 ?_
                refine s_getR (pc := 219) C fX12_9 h135 rfl dX12_ask_219 ?_
                refine g_il8 (pc := 222) C dX12_ask_222 ?_
                refine g_bipush (pc := 224) (v := 8) C dX12_ask_224 (by decide) ?_
                refine g_iadd (pc := 226) C dX12_ask_226 ?_
                refine g_iconst (pc := 227) (v := (-1)) C dX12_ask_227 (by decide) ?_
                refine s_iast (pc := 228) (q := (146 + (10 * (cnt (σ 136) 7))) + 8) C h136 (by first | (simp only [ixl, nI_add, pk_mul]; done) | rfl | decide | (rw [hI.n3.1]; simp only [ixl, nI_add, pk_mul]; done) | (rw [hI.n4.1]; simp only [ixl, nI_add, pk_mul]; done) | (rw [hI.n5.1]; simp only [ixl, nI_add, pk_mul]; done) | (rw [hI.n6.1]; simp only [ixl, nI_add, pk_mul]; done) | (rw [hI.n7.1]; simp only [ixl, nI_add, pk_mul]; done)) (by omega) (Nat.le_of_ble_eq_true rfl) dX12_ask_228 ?_
                refine g_al0n (pc := 229) C dX12_ask_229 ?_
                refine s_getR (pc := 230) C fX12_9 h135 rfl dX12_ask_230 ?_
                refine g_il8 (pc := 233) C dX12_ask_233 ?_
                refine g_bipush (pc := 235) (v := 9) C dX12_ask_235 (by decide) ?_
                refine g_iadd (pc := 237) C dX12_ask_237 ?_
                refine g_iconst (pc := 238) (v := (-1)) C dX12_ask_238 (by decide) ?_
                refine s_iast (pc := 239) (q := (146 + (10 * (cnt (σ 136) 7))) + 9) C h136 (by first | (simp only [ixl, nI_add, pk_mul]; done) | rfl | decide | (rw [hI.n3.1]; simp only [ixl, nI_add, pk_mul]; done) | (rw [hI.n4.1]; simp only [ixl, nI_add, pk_mul]; done) | (rw [hI.n5.1]; simp only [ixl, nI_add, pk_mul]; done) | (rw [hI.n6.1]; simp only [ixl, nI_add, pk_mul]; done) | (rw [hI.n7.1]; simp only [ixl, nI_add, pk_mul]; done)) (by omega) (Nat.le_of_ble_eq_true rfl) dX12_ask_239 ?_
                refine g_al0n (pc := 240) C dX12_ask_240 ?_
                refine s_getR (pc := 241) C fX12_9 h135 rfl dX12_ask_241 ?_
                refine g_bipush (pc := 244) (v := 7) C dX12_ask_244 (by decide) ?_
                refine g_dup2 (pc := 246) C dX12_ask_246 rfl rfl ?_
                refine s_iald (pc := 247) (q := 7) C h136 rfl (by omega) (Nat.le_of_ble_eq_true rfl) dX12_ask_247 ?_
                refine g_iconst (pc := 248) (v := 1) C dX12_ask_248 (by decide) ?_
                refine g_iadd (pc := 249) C dX12_ask_249 ?_
                refine s_iast (pc := 250) (q := 7) C h136 rfl (by omega) (Nat.le_of_ble_eq_true rfl) dX12_ask_250 ?_
                refine g_il7 (pc := 251) C dX12_ask_251 ?_
                refine r_P C hr dX12_ask_253 ⟨?_, ?_, ?_, ?_⟩
                · first | (simp only [sp_ask, FB, FF, FK, FN, FS, FM, FZ, fnd, becS, bitS, sN, mv, aN, aF, aK, aH, aT, aS, aW, aZ, aU, eq_true c_2, b_29, b_43, b_56, b_69, b_80, c_106, up_at, eq_self, ne_eq, not_true_eq_false, not_false_eq_true, Classical.not_not, decide_true, decide_false, and_true, true_and, and_false, false_and, and_self, or_true, true_or, or_false, false_or, or_self, if_true, if_false, ite_true, ite_false, Bool.eq_false_iff, Bool.not_eq_eq_eq_not, Bool.true_eq_false, Bool.false_eq_true, reduceCtorEq]; done) | (simp only [sp_ask, FB, FF, FK, FN, FS, FM, FZ, fnd, becS, bitS, sN, mv, aN, aF, aK, aH, aT, aS, aW, aZ, aU, eq_true c_2, b_29, b_43, b_56, b_69, b_80, c_106, up_at, eq_self, ne_eq, not_true_eq_false, not_false_eq_true, Classical.not_not, decide_true, decide_false, and_true, true_and, and_false, false_and, and_self, or_true, true_or, or_false, false_or, or_self, if_true, if_false, ite_true, ite_false, Bool.eq_false_iff, Bool.not_eq_eq_eq_not, Bool.true_eq_false, Bool.false_eq_true, reduceCtorEq]; rfl) | (simp [becS, bitS, sp_ask, FB, FF, FK, FN, FS, FM, FZ, fnd, mv, aN, eq_true c_2, b_29, b_43, b_56, b_69, b_80, c_106, up_at]; done)
                · try simp only [mv_now, mv_fnd, mv_tap, mv_kep]
                  first | (simp only [up_at, sN, becS, bitS, sp_ask, FB, FF, FK, FN, FS, FM, FZ, fnd, mv, aN, aF, aK, aH, aT, aS, aW, aZ, aU, eq_true c_2, b_29, b_43, b_56, b_69, b_80, c_106, up_at, eq_self, ne_eq, not_true_eq_false, not_false_eq_true, Classical.not_not, decide_true, decide_false, and_true, true_and, and_false, false_and, and_self, or_true, true_or, or_false, false_or, or_self, if_true, if_false, ite_true, ite_false, Bool.eq_false_iff, Bool.not_eq_eq_eq_not, Bool.true_eq_false, Bool.false_eq_true, reduceCtorEq]; done) | (simp only [up_at, sN, becS, bitS, sp_ask, FB, FF, FK, FN, FS, FM, FZ, fnd, mv, aN, aF, aK, aH, aT, aS, aW, aZ, aU, eq_true c_2, b_29, b_43, b_56, b_69, b_80, c_106, up_at, eq_self, ne_eq, not_true_eq_false, not_false_eq_true, Classical.not_not, decide_true, decide_false, and_true, true_and, and_false, false_and, and_self, or_true, true_or, or_false, false_or, or_self, if_true, if_false, ite_true, ite_false, Bool.eq_false_iff, Bool.not_eq_eq_eq_not, Bool.true_eq_false, Bool.false_eq_true, reduceCtorEq]; rfl) | (simp [mv_now, mv_fnd, up_at, sN, becS, bitS, sp_ask, FB, FF, FK, FN, FS, FM, FZ, fnd, mv, aN, eq_true c_2, b_29, b_43, b_56, b_69, b_80, c_106, up_at]; done)
                · repeat first | exact (fun _ _ => rfl) | refine frU (by decide) ?_
                · repeat first | exact id | refine mtU (by decide) ?_
              · refine g_al0n (pc := 109) C dX12_ask_109 ?_
                refine g_ldc (pc := 110) C dX12_ask_110 kX12_66 ?_
                refine s_VI (pc := 112) (st := []) C h135 rfl (c_X12_finding (d := d - 1) (by omega) σ (i := 1) (by decide) (w := ((-1000002))) (by decide)) (by omega) lX12_62 dX12_ask_112 rfl (Nat.le_of_ble_eq_true rfl) rfl ?_
                refine r_P C hr dX12_ask_115 ⟨?_, ?_, ?_, ?_⟩
                · first | (simp only [sp_ask, FB, FF, FK, FN, FS, FM, FZ, fnd, becS, bitS, sN, mv, aN, aF, aK, aH, aT, aS, aW, aZ, aU, eq_true c_2, b_29, b_43, b_56, b_69, b_80, eq_true c_106, up_at, eq_self, ne_eq, not_true_eq_false, not_false_eq_true, Classical.not_not, decide_true, decide_false, and_true, true_and, and_false, false_and, and_self, or_true, true_or, or_false, false_or, or_self, if_true, if_false, ite_true, ite_false, Bool.eq_false_iff, Bool.not_eq_eq_eq_not, Bool.true_eq_false, Bool.false_eq_true, reduceCtorEq]; done) | (simp only [sp_ask, FB, FF, FK, FN, FS, FM, FZ, fnd, becS, bitS, sN, mv, aN, aF, aK, aH, aT, aS, aW, aZ, aU, eq_true c_2, b_29, b_43, b_56, b_69, b_80, eq_true c_106, up_at, eq_self, ne_eq, not_true_eq_false, not_false_eq_true, Classical.not_not, decide_true, decide_false, and_true, true_and, and_false, false_and, and_self, or_true, true_or, or_false, false_or, or_self, if_true, if_false, ite_true, ite_false, Bool.eq_false_iff, Bool.not_eq_eq_eq_not, Bool.true_eq_false, Bool.false_eq_true, reduceCtorEq]; rfl) | (simp [becS, bitS, sp_ask, FB, FF, FK, FN, FS, FM, FZ, fnd, mv, aN, eq_true c_2, b_29, b_43, b_56, b_69, b_80, eq_true c_106, up_at]; done)
                · try simp only [mv_now, mv_fnd, mv_tap, mv_kep]
                  first | (simp only [up_at, sN, becS, bitS, sp_ask, FB, FF, FK, FN, FS, FM, FZ, fnd, mv, aN, aF, aK, aH, aT, aS, aW, aZ, aU, eq_true c_2, b_29, b_43, b_56, b_69, b_80, eq_true c_106, up_at, eq_self, ne_eq, not_true_eq_false, not_false_eq_true, Classical.not_not, decide_true, decide_false, and_true, true_and, and_false, false_and, and_self, or_true, true_or, or_false, false_or, or_self, if_true, if_false, ite_true, ite_false, Bool.eq_false_iff, Bool.not_eq_eq_eq_not, Bool.true_eq_false, Bool.false_eq_true, reduceCtorEq]; done) | (simp only [up_at, sN, becS, bitS, sp_ask, FB, FF, FK, FN, FS, FM, FZ, fnd, mv, aN, aF, aK, aH, aT, aS, aW, aZ, aU, eq_true c_2, b_29, b_43, b_56, b_69, b_80, eq_true c_106, up_at, eq_self, ne_eq, not_true_eq_false, not_false_eq_true, Classical.not_not, decide_true, decide_false, and_true, true_and, and_false, false_and, and_self, or_true, true_or, or_false, false_or, or_self, if_true, if_false, ite_true, ite_false, Bool.eq_false_iff, Bool.not_eq_eq_eq_not, Bool.true_eq_false, Bool.false_eq_true, reduceCtorEq]; rfl) | (simp [mv_now, mv_fnd, up_at, sN, becS, bitS, sp_ask, FB, FF, FK, FN, FS, FM, FZ, fnd, mv, aN, eq_true c_2, b_29, b_43, b_56, b_69, b_80, eq_true c_106, up_at]; done)
                · repeat first | exact (fun _ _ => rfl) | refine frU (by decide) ?_
                · repeat first | exact id | refine mtU (by decide) ?_
            · refine g_if_ne (pc := 83) (tgt := 93) C dX12_ask_83 (by decide) (fun c => absurd c (by decide)) (fun _ => ?_)
              refine g_al0n (pc := 86) C dX12_ask_86 ?_
              refine g_ldc (pc := 87) C dX12_ask_87 kX12_57 ?_
              refine s_VI (pc := 89) (st := []) C h135 rfl (c_X12_finding (d := d - 1) (by omega) σ (i := 0) (by decide) (w := ((-1000001))) (by decide)) (by omega) lX12_62 dX12_ask_89 rfl (Nat.le_of_ble_eq_true rfl) rfl ?_
              refine r_P C hr dX12_ask_92 ⟨?_, ?_, ?_, ?_⟩
              · first | (simp only [sp_ask, FB, FF, FK, FN, FS, FM, FZ, fnd, becS, bitS, sN, mv, aN, aF, aK, aH, aT, aS, aW, aZ, aU, eq_true c_2, b_29, b_43, b_56, b_69, b_80, up_at, eq_self, ne_eq, not_true_eq_false, not_false_eq_true, Classical.not_not, decide_true, decide_false, and_true, true_and, and_false, false_and, and_self, or_true, true_or, or_false, false_or, or_self, if_true, if_false, ite_true, ite_false, Bool.eq_false_iff, Bool.not_eq_eq_eq_not, Bool.true_eq_false, Bool.false_eq_true, reduceCtorEq]; done) | (simp only [sp_ask, FB, FF, FK, FN, FS, FM, FZ, fnd, becS, bitS, sN, mv, aN, aF, aK, aH, aT, aS, aW, aZ, aU, eq_true c_2, b_29, b_43, b_56, b_69, b_80, up_at, eq_self, ne_eq, not_true_eq_false, not_false_eq_true, Classical.not_not, decide_true, decide_false, and_true, true_and, and_false, false_and, and_self, or_true, true_or, or_false, false_or, or_self, if_true, if_false, ite_true, ite_false, Bool.eq_false_iff, Bool.not_eq_eq_eq_not, Bool.true_eq_false, Bool.false_eq_true, reduceCtorEq]; rfl) | (simp [becS, bitS, sp_ask, FB, FF, FK, FN, FS, FM, FZ, fnd, mv, aN, eq_true c_2, b_29, b_43, b_56, b_69, b_80, up_at]; done)
              · try simp only [mv_now, mv_fnd, mv_tap, mv_kep]
                first | (simp only [up_at, sN, becS, bitS, sp_ask, FB, FF, FK, FN, FS, FM, FZ, fnd, mv, aN, aF, aK, aH, aT, aS, aW, aZ, aU, eq_true c_2, b_29, b_43, b_56, b_69, b_80, up_at, eq_self, ne_eq, not_true_eq_false, not_false_eq_true, Classical.not_not, decide_true, decide_false, and_true, true_and, and_false, false_and, and_self, or_true, true_or, or_false, false_or, or_self, if_true, if_false, ite_true, ite_false, Bool.eq_false_iff, Bool.not_eq_eq_eq_not, Bool.true_eq_false, Bool.false_eq_true, reduceCtorEq]; done) | (simp only [up_at, sN, becS, bitS, sp_ask, FB, FF, FK, FN, FS, FM, FZ, fnd, mv, aN, aF, aK, aH, aT, aS, aW, aZ, aU, eq_true c_2, b_29, b_43, b_56, b_69, b_80, up_at, eq_self, ne_eq, not_true_eq_false, not_false_eq_true, Classical.not_not, decide_true, decide_false, and_true, true_and, and_false, false_and, and_self, or_true, true_or, or_false, false_or, or_self, if_true, if_false, ite_true, ite_false, Bool.eq_false_iff, Bool.not_eq_eq_eq_not, Bool.true_eq_false, Bool.false_eq_true, reduceCtorEq]; rfl) | (simp [mv_now, mv_fnd, up_at, sN, becS, bitS, sp_ask, FB, FF, FK, FN, FS, FM, FZ, fnd, mv, aN, eq_true c_2, b_29, b_43, b_56, b_69, b_80, up_at]; done)
              · repeat first | exact (fun _ _ => rfl) | refine frU (by decide) ?_
              · repeat first | exact id | refine mtU (by decide) ?_
          · refine g_if_eq (pc := 72) (tgt := 86) C dX12_ask_72 (by decide) (fun _ => ?_) (fun c => absurd c (by decide))
            refine g_al0n (pc := 86) C dX12_ask_86 ?_
            refine g_ldc (pc := 87) C dX12_ask_87 kX12_57 ?_
            refine s_VI (pc := 89) (st := []) C h135 rfl (c_X12_finding (d := d - 1) (by omega) σ (i := 0) (by decide) (w := ((-1000001))) (by decide)) (by omega) lX12_62 dX12_ask_89 rfl (Nat.le_of_ble_eq_true rfl) rfl ?_
            refine r_P C hr dX12_ask_92 ⟨?_, ?_, ?_, ?_⟩
            · first | (simp only [sp_ask, FB, FF, FK, FN, FS, FM, FZ, fnd, becS, bitS, sN, mv, aN, aF, aK, aH, aT, aS, aW, aZ, aU, eq_true c_2, b_29, b_43, b_56, b_69, up_at, eq_self, ne_eq, not_true_eq_false, not_false_eq_true, Classical.not_not, decide_true, decide_false, and_true, true_and, and_false, false_and, and_self, or_true, true_or, or_false, false_or, or_self, if_true, if_false, ite_true, ite_false, Bool.eq_false_iff, Bool.not_eq_eq_eq_not, Bool.true_eq_false, Bool.false_eq_true, reduceCtorEq]; done) | (simp only [sp_ask, FB, FF, FK, FN, FS, FM, FZ, fnd, becS, bitS, sN, mv, aN, aF, aK, aH, aT, aS, aW, aZ, aU, eq_true c_2, b_29, b_43, b_56, b_69, up_at, eq_self, ne_eq, not_true_eq_false, not_false_eq_true, Classical.not_not, decide_true, decide_false, and_true, true_and, and_false, false_and, and_self, or_true, true_or, or_false, false_or, or_self, if_true, if_false, ite_true, ite_false, Bool.eq_false_iff, Bool.not_eq_eq_eq_not, Bool.true_eq_false, Bool.false_eq_true, reduceCtorEq]; rfl) | (simp [becS, bitS, sp_ask, FB, FF, FK, FN, FS, FM, FZ, fnd, mv, aN, eq_true c_2, b_29, b_43, b_56, b_69, up_at]; done)
            · try simp only [mv_now, mv_fnd, mv_tap, mv_kep]
              first | (simp only [up_at, sN, becS, bitS, sp_ask, FB, FF, FK, FN, FS, FM, FZ, fnd, mv, aN, aF, aK, aH, aT, aS, aW, aZ, aU, eq_true c_2, b_29, b_43, b_56, b_69, up_at, eq_self, ne_eq, not_true_eq_false, not_false_eq_true, Classical.not_not, decide_true, decide_false, and_true, true_and, and_false, false_and, and_self, or_true, true_or, or_false, false_or, or_self, if_true, if_false, ite_true, ite_false, Bool.eq_false_iff, Bool.not_eq_eq_eq_not, Bool.true_eq_false, Bool.false_eq_true, reduceCtorEq]; done) | (simp only [up_at, sN, becS, bitS, sp_ask, FB, FF, FK, FN, FS, FM, FZ, fnd, mv, aN, aF, aK, aH, aT, aS, aW, aZ, aU, eq_true c_2, b_29, b_43, b_56, b_69, up_at, eq_self, ne_eq, not_true_eq_false, not_false_eq_true, Classical.not_not, decide_true, decide_false, and_true, true_and, and_false, false_and, and_self, or_true, true_or, or_false, false_or, or_self, if_true, if_false, ite_true, ite_false, Bool.eq_false_iff, Bool.not_eq_eq_eq_not, Bool.true_eq_false, Bool.false_eq_true, reduceCtorEq]; rfl) | (simp [mv_now, mv_fnd, up_at, sN, becS, bitS, sp_ask, FB, FF, FK, FN, FS, FM, FZ, fnd, mv, aN, eq_true c_2, b_29, b_43, b_56, b_69, up_at]; done)
            · repeat first | exact (fun _ _ => rfl) | refine frU (by decide) ?_
            · repeat first | exact id | refine mtU (by decide) ?_
        · refine g_if_eq (pc := 59) (tgt := 86) C dX12_ask_59 (by decide) (fun _ => ?_) (fun c => absurd c (by decide))
          refine g_al0n (pc := 86) C dX12_ask_86 ?_
          refine g_ldc (pc := 87) C dX12_ask_87 kX12_57 ?_
          refine s_VI (pc := 89) (st := []) C h135 rfl (c_X12_finding (d := d - 1) (by omega) σ (i := 0) (by decide) (w := ((-1000001))) (by decide)) (by omega) lX12_62 dX12_ask_89 rfl (Nat.le_of_ble_eq_true rfl) rfl ?_
          refine r_P C hr dX12_ask_92 ⟨?_, ?_, ?_, ?_⟩
          · first | (simp only [sp_ask, FB, FF, FK, FN, FS, FM, FZ, fnd, becS, bitS, sN, mv, aN, aF, aK, aH, aT, aS, aW, aZ, aU, eq_true c_2, b_29, b_43, b_56, up_at, eq_self, ne_eq, not_true_eq_false, not_false_eq_true, Classical.not_not, decide_true, decide_false, and_true, true_and, and_false, false_and, and_self, or_true, true_or, or_false, false_or, or_self, if_true, if_false, ite_true, ite_false, Bool.eq_false_iff, Bool.not_eq_eq_eq_not, Bool.true_eq_false, Bool.false_eq_true, reduceCtorEq]; done) | (simp only [sp_ask, FB, FF, FK, FN, FS, FM, FZ, fnd, becS, bitS, sN, mv, aN, aF, aK, aH, aT, aS, aW, aZ, aU, eq_true c_2, b_29, b_43, b_56, up_at, eq_self, ne_eq, not_true_eq_false, not_false_eq_true, Classical.not_not, decide_true, decide_false, and_true, true_and, and_false, false_and, and_self, or_true, true_or, or_false, false_or, or_self, if_true, if_false, ite_true, ite_false, Bool.eq_false_iff, Bool.not_eq_eq_eq_not, Bool.true_eq_false, Bool.false_eq_true, reduceCtorEq]; rfl) | (simp [becS, bitS, sp_ask, FB, FF, FK, FN, FS, FM, FZ, fnd, mv, aN, eq_true c_2, b_29, b_43, b_56, up_at]; done)
          · try simp only [mv_now, mv_fnd, mv_tap, mv_kep]
            first | (simp only [up_at, sN, becS, bitS, sp_ask, FB, FF, FK, FN, FS, FM, FZ, fnd, mv, aN, aF, aK, aH, aT, aS, aW, aZ, aU, eq_true c_2, b_29, b_43, b_56, up_at, eq_self, ne_eq, not_true_eq_false, not_false_eq_true, Classical.not_not, decide_true, decide_false, and_true, true_and, and_false, false_and, and_self, or_true, true_or, or_false, false_or, or_self, if_true, if_false, ite_true, ite_false, Bool.eq_false_iff, Bool.not_eq_eq_eq_not, Bool.true_eq_false, Bool.false_eq_true, reduceCtorEq]; done) | (simp only [up_at, sN, becS, bitS, sp_ask, FB, FF, FK, FN, FS, FM, FZ, fnd, mv, aN, aF, aK, aH, aT, aS, aW, aZ, aU, eq_true c_2, b_29, b_43, b_56, up_at, eq_self, ne_eq, not_true_eq_false, not_false_eq_true, Classical.not_not, decide_true, decide_false, and_true, true_and, and_false, false_and, and_self, or_true, true_or, or_false, false_or, or_self, if_true, if_false, ite_true, ite_false, Bool.eq_false_iff, Bool.not_eq_eq_eq_not, Bool.true_eq_false, Bool.false_eq_true, reduceCtorEq]; rfl) | (simp [mv_now, mv_fnd, up_at, sN, becS, bitS, sp_ask, FB, FF, FK, FN, FS, FM, FZ, fnd, mv, aN, eq_true c_2, b_29, b_43, b_56, up_at]; done)
          · repeat first | exact (fun _ _ => rfl) | refine frU (by decide) ?_
          · repeat first | exact id | refine mtU (by decide) ?_
      · refine g_if_eq (pc := 46) (tgt := 86) C dX12_ask_46 (by decide) (fun _ => ?_) (fun c => absurd c (by decide))
        refine g_al0n (pc := 86) C dX12_ask_86 ?_
        refine g_ldc (pc := 87) C dX12_ask_87 kX12_57 ?_
        refine s_VI (pc := 89) (st := []) C h135 rfl (c_X12_finding (d := d - 1) (by omega) σ (i := 0) (by decide) (w := ((-1000001))) (by decide)) (by omega) lX12_62 dX12_ask_89 rfl (Nat.le_of_ble_eq_true rfl) rfl ?_
        refine r_P C hr dX12_ask_92 ⟨?_, ?_, ?_, ?_⟩
        · first | (simp only [sp_ask, FB, FF, FK, FN, FS, FM, FZ, fnd, becS, bitS, sN, mv, aN, aF, aK, aH, aT, aS, aW, aZ, aU, eq_true c_2, b_29, b_43, up_at, eq_self, ne_eq, not_true_eq_false, not_false_eq_true, Classical.not_not, decide_true, decide_false, and_true, true_and, and_false, false_and, and_self, or_true, true_or, or_false, false_or, or_self, if_true, if_false, ite_true, ite_false, Bool.eq_false_iff, Bool.not_eq_eq_eq_not, Bool.true_eq_false, Bool.false_eq_true, reduceCtorEq]; done) | (simp only [sp_ask, FB, FF, FK, FN, FS, FM, FZ, fnd, becS, bitS, sN, mv, aN, aF, aK, aH, aT, aS, aW, aZ, aU, eq_true c_2, b_29, b_43, up_at, eq_self, ne_eq, not_true_eq_false, not_false_eq_true, Classical.not_not, decide_true, decide_false, and_true, true_and, and_false, false_and, and_self, or_true, true_or, or_false, false_or, or_self, if_true, if_false, ite_true, ite_false, Bool.eq_false_iff, Bool.not_eq_eq_eq_not, Bool.true_eq_false, Bool.false_eq_true, reduceCtorEq]; rfl) | (simp [becS, bitS, sp_ask, FB, FF, FK, FN, FS, FM, FZ, fnd, mv, aN, eq_true c_2, b_29, b_43, up_at]; done)
        · try simp only [mv_now, mv_fnd, mv_tap, mv_kep]
          first | (simp only [up_at, sN, becS, bitS, sp_ask, FB, FF, FK, FN, FS, FM, FZ, fnd, mv, aN, aF, aK, aH, aT, aS, aW, aZ, aU, eq_true c_2, b_29, b_43, up_at, eq_self, ne_eq, not_true_eq_false, not_false_eq_true, Classical.not_not, decide_true, decide_false, and_true, true_and, and_false, false_and, and_self, or_true, true_or, or_false, false_or, or_self, if_true, if_false, ite_true, ite_false, Bool.eq_false_iff, Bool.not_eq_eq_eq_not, Bool.true_eq_false, Bool.false_eq_true, reduceCtorEq]; done) | (simp only [up_at, sN, becS, bitS, sp_ask, FB, FF, FK, FN, FS, FM, FZ, fnd, mv, aN, aF, aK, aH, aT, aS, aW, aZ, aU, eq_true c_2, b_29, b_43, up_at, eq_self, ne_eq, not_true_eq_false, not_false_eq_true, Classical.not_not, decide_true, decide_false, and_true, true_and, and_false, false_and, and_self, or_true, true_or, or_false, false_or, or_self, if_true, if_false, ite_true, ite_false, Bool.eq_false_iff, Bool.not_eq_eq_eq_not, Bool.true_eq_false, Bool.false_eq_true, reduceCtorEq]; rfl) | (simp [mv_now, mv_fnd, up_at, sN, becS, bitS, sp_ask, FB, FF, FK, FN, FS, FM, FZ, fnd, mv, aN, eq_true c_2, b_29, b_43, up_at]; done)
        · repeat first | exact (fun _ _ => rfl) | refine frU (by decide) ?_
        · repeat first | exact id | refine mtU (by decide) ?_
    · refine g_if_eq (pc := 32) (tgt := 86) C dX12_ask_32 (by decide) (fun _ => ?_) (fun c => absurd c (by decide))
      refine g_al0n (pc := 86) C dX12_ask_86 ?_
      refine g_ldc (pc := 87) C dX12_ask_87 kX12_57 ?_
      refine s_VI (pc := 89) (st := []) C h135 rfl (c_X12_finding (d := d - 1) (by omega) σ (i := 0) (by decide) (w := ((-1000001))) (by decide)) (by omega) lX12_62 dX12_ask_89 rfl (Nat.le_of_ble_eq_true rfl) rfl ?_
      refine r_P C hr dX12_ask_92 ⟨?_, ?_, ?_, ?_⟩
      · first | (simp only [sp_ask, FB, FF, FK, FN, FS, FM, FZ, fnd, becS, bitS, sN, mv, aN, aF, aK, aH, aT, aS, aW, aZ, aU, eq_true c_2, b_29, up_at, eq_self, ne_eq, not_true_eq_false, not_false_eq_true, Classical.not_not, decide_true, decide_false, and_true, true_and, and_false, false_and, and_self, or_true, true_or, or_false, false_or, or_self, if_true, if_false, ite_true, ite_false, Bool.eq_false_iff, Bool.not_eq_eq_eq_not, Bool.true_eq_false, Bool.false_eq_true, reduceCtorEq]; done) | (simp only [sp_ask, FB, FF, FK, FN, FS, FM, FZ, fnd, becS, bitS, sN, mv, aN, aF, aK, aH, aT, aS, aW, aZ, aU, eq_true c_2, b_29, up_at, eq_self, ne_eq, not_true_eq_false, not_false_eq_true, Classical.not_not, decide_true, decide_false, and_true, true_and, and_false, false_and, and_self, or_true, true_or, or_false, false_or, or_self, if_true, if_false, ite_true, ite_false, Bool.eq_false_iff, Bool.not_eq_eq_eq_not, Bool.true_eq_false, Bool.false_eq_true, reduceCtorEq]; rfl) | (simp [becS, bitS, sp_ask, FB, FF, FK, FN, FS, FM, FZ, fnd, mv, aN, eq_true c_2, b_29, up_at]; done)
      · try simp only [mv_now, mv_fnd, mv_tap, mv_kep]
        first | (simp only [up_at, sN, becS, bitS, sp_ask, FB, FF, FK, FN, FS, FM, FZ, fnd, mv, aN, aF, aK, aH, aT, aS, aW, aZ, aU, eq_true c_2, b_29, up_at, eq_self, ne_eq, not_true_eq_false, not_false_eq_true, Classical.not_not, decide_true, decide_false, and_true, true_and, and_false, false_and, and_self, or_true, true_or, or_false, false_or, or_self, if_true, if_false, ite_true, ite_false, Bool.eq_false_iff, Bool.not_eq_eq_eq_not, Bool.true_eq_false, Bool.false_eq_true, reduceCtorEq]; done) | (simp only [up_at, sN, becS, bitS, sp_ask, FB, FF, FK, FN, FS, FM, FZ, fnd, mv, aN, aF, aK, aH, aT, aS, aW, aZ, aU, eq_true c_2, b_29, up_at, eq_self, ne_eq, not_true_eq_false, not_false_eq_true, Classical.not_not, decide_true, decide_false, and_true, true_and, and_false, false_and, and_self, or_true, true_or, or_false, false_or, or_self, if_true, if_false, ite_true, ite_false, Bool.eq_false_iff, Bool.not_eq_eq_eq_not, Bool.true_eq_false, Bool.false_eq_true, reduceCtorEq]; rfl) | (simp [mv_now, mv_fnd, up_at, sN, becS, bitS, sp_ask, FB, FF, FK, FN, FS, FM, FZ, fnd, mv, aN, eq_true c_2, b_29, up_at]; done)
      · repeat first | exact (fun _ _ => rfl) | refine frU (by decide) ?_
      · repeat first | exact id | refine mtU (by decide) ?_
  · refine g_al0n (pc := 5) C dX12_ask_5 ?_
    refine g_il2n (pc := 6) C dX12_ask_6 ?_
    refine g_iconst (pc := 7) (v := 4) C dX12_ask_7 (by decide) ?_
    refine s_VB (pc := 8) (st := []) C h135 rfl (c_X12_isE (d := d - 1) (by omega) σ w (c := 4) (by decide) rfl) (by omega) lX12_71 dX12_ask_8 rfl (Nat.le_of_ble_eq_true rfl) rfl (fun b_8 => ?_) (fun b_8 => ?_)
    · refine g_if_eq (pc := 11) (tgt := 23) C dX12_ask_11 (by decide) (fun c => absurd c (by decide)) (fun _ => ?_)
      refine g_il2n (pc := 14) C dX12_ask_14 ?_
      refine g_il1n (pc := 15) C dX12_ask_15 ?_
      refine g_icmp_eq (pc := 16) (tgt := 23) C dX12_ask_16 (by decide) (fun c_16 => ?_) (fun c_16 => ?_)
      · refine g_iconst (pc := 23) (v := 0) C dX12_ask_23 (by decide) ?_
        refine g_is6 (pc := 24) C dX12_ask_24 ?_
        refine g_al0n (pc := 26) C dX12_ask_26 ?_
        refine g_il1n (pc := 27) C dX12_ask_27 ?_
        refine g_iconst (pc := 28) (v := 4) C dX12_ask_28 (by decide) ?_
        refine s_VB (pc := 29) (st := []) C h135 rfl (c_X12_isE (d := d - 1) (by omega) σ p (c := 4) (by decide) rfl) (by omega) lX12_71 dX12_ask_29 rfl (Nat.le_of_ble_eq_true rfl) rfl (fun b_29 => ?_) (fun b_29 => ?_)
        · refine g_if_eq (pc := 32) (tgt := 86) C dX12_ask_32 (by decide) (fun c => absurd c (by decide)) (fun _ => ?_)
          refine g_il6 (pc := 35) C dX12_ask_35 ?_
          refine g_if_eq (pc := 37) (tgt := 86) C dX12_ask_37 (by decide) (fun _ => ?_) (fun c => absurd c (by decide))
          refine g_al0n (pc := 86) C dX12_ask_86 ?_
          refine g_ldc (pc := 87) C dX12_ask_87 kX12_57 ?_
          refine s_VI (pc := 89) (st := []) C h135 rfl (c_X12_finding (d := d - 1) (by omega) σ (i := 0) (by decide) (w := ((-1000001))) (by decide)) (by omega) lX12_62 dX12_ask_89 rfl (Nat.le_of_ble_eq_true rfl) rfl ?_
          refine r_P C hr dX12_ask_92 ⟨?_, ?_, ?_, ?_⟩
          · first | (simp only [sp_ask, FB, FF, FK, FN, FS, FM, FZ, fnd, becS, bitS, sN, mv, aN, aF, aK, aH, aT, aS, aW, aZ, aU, c_2, b_8, eq_true c_16, b_29, up_at, eq_self, ne_eq, not_true_eq_false, not_false_eq_true, Classical.not_not, decide_true, decide_false, and_true, true_and, and_false, false_and, and_self, or_true, true_or, or_false, false_or, or_self, if_true, if_false, ite_true, ite_false, Bool.eq_false_iff, Bool.not_eq_eq_eq_not, Bool.true_eq_false, Bool.false_eq_true, reduceCtorEq]; done) | (simp only [sp_ask, FB, FF, FK, FN, FS, FM, FZ, fnd, becS, bitS, sN, mv, aN, aF, aK, aH, aT, aS, aW, aZ, aU, c_2, b_8, eq_true c_16, b_29, up_at, eq_self, ne_eq, not_true_eq_false, not_false_eq_true, Classical.not_not, decide_true, decide_false, and_true, true_and, and_false, false_and, and_self, or_true, true_or, or_false, false_or, or_self, if_true, if_false, ite_true, ite_false, Bool.eq_false_iff, Bool.not_eq_eq_eq_not, Bool.true_eq_false, Bool.false_eq_true, reduceCtorEq]; rfl) | (simp [becS, bitS, sp_ask, FB, FF, FK, FN, FS, FM, FZ, fnd, mv, aN, c_2, b_8, eq_true c_16, b_29, up_at]; done)
          · try simp only [mv_now, mv_fnd, mv_tap, mv_kep]
            first | (simp only [up_at, sN, becS, bitS, sp_ask, FB, FF, FK, FN, FS, FM, FZ, fnd, mv, aN, aF, aK, aH, aT, aS, aW, aZ, aU, c_2, b_8, eq_true c_16, b_29, up_at, eq_self, ne_eq, not_true_eq_false, not_false_eq_true, Classical.not_not, decide_true, decide_false, and_true, true_and, and_false, false_and, and_self, or_true, true_or, or_false, false_or, or_self, if_true, if_false, ite_true, ite_false, Bool.eq_false_iff, Bool.not_eq_eq_eq_not, Bool.true_eq_false, Bool.false_eq_true, reduceCtorEq]; done) | (simp only [up_at, sN, becS, bitS, sp_ask, FB, FF, FK, FN, FS, FM, FZ, fnd, mv, aN, aF, aK, aH, aT, aS, aW, aZ, aU, c_2, b_8, eq_true c_16, b_29, up_at, eq_self, ne_eq, not_true_eq_false, not_false_eq_true, Classical.not_not, decide_true, decide_false, and_true, true_and, and_false, false_and, and_self, or_true, true_or, or_false, false_or, or_self, if_true, if_false, ite_true, ite_false, Bool.eq_false_iff, Bool.not_eq_eq_eq_not, Bool.true_eq_false, Bool.false_eq_true, reduceCtorEq]; rfl) | (simp [mv_now, mv_fnd, up_at, sN, becS, bitS, sp_ask, FB, FF, FK, FN, FS, FM, FZ, fnd, mv, aN, c_2, b_8, eq_true c_16, b_29, up_at]; done)
          · repeat first | exact (fun _ _ => rfl) | refine frU (by decide) ?_
          · repeat first | exact id | refine mtU (by decide) ?_
        · refine g_if_eq (pc := 32) (tgt := 86) C dX12_ask_32 (by decide) (fun _ => ?_) (fun c => absurd c (by decide))
          refine g_al0n (pc := 86) C dX12_ask_86 ?_
          refine g_ldc (pc := 87) C dX12_ask_87 kX12_57 ?_
          refine s_VI (pc := 89) (st := []) C h135 rfl (c_X12_finding (d := d - 1) (by omega) σ (i := 0) (by decide) (w := ((-1000001))) (by decide)) (by omega) lX12_62 dX12_ask_89 rfl (Nat.le_of_ble_eq_true rfl) rfl ?_
          refine r_P C hr dX12_ask_92 ⟨?_, ?_, ?_, ?_⟩
          · first | (simp only [sp_ask, FB, FF, FK, FN, FS, FM, FZ, fnd, becS, bitS, sN, mv, aN, aF, aK, aH, aT, aS, aW, aZ, aU, c_2, b_8, eq_true c_16, b_29, up_at, eq_self, ne_eq, not_true_eq_false, not_false_eq_true, Classical.not_not, decide_true, decide_false, and_true, true_and, and_false, false_and, and_self, or_true, true_or, or_false, false_or, or_self, if_true, if_false, ite_true, ite_false, Bool.eq_false_iff, Bool.not_eq_eq_eq_not, Bool.true_eq_false, Bool.false_eq_true, reduceCtorEq]; done) | (simp only [sp_ask, FB, FF, FK, FN, FS, FM, FZ, fnd, becS, bitS, sN, mv, aN, aF, aK, aH, aT, aS, aW, aZ, aU, c_2, b_8, eq_true c_16, b_29, up_at, eq_self, ne_eq, not_true_eq_false, not_false_eq_true, Classical.not_not, decide_true, decide_false, and_true, true_and, and_false, false_and, and_self, or_true, true_or, or_false, false_or, or_self, if_true, if_false, ite_true, ite_false, Bool.eq_false_iff, Bool.not_eq_eq_eq_not, Bool.true_eq_false, Bool.false_eq_true, reduceCtorEq]; rfl) | (simp [becS, bitS, sp_ask, FB, FF, FK, FN, FS, FM, FZ, fnd, mv, aN, c_2, b_8, eq_true c_16, b_29, up_at]; done)
          · try simp only [mv_now, mv_fnd, mv_tap, mv_kep]
            first | (simp only [up_at, sN, becS, bitS, sp_ask, FB, FF, FK, FN, FS, FM, FZ, fnd, mv, aN, aF, aK, aH, aT, aS, aW, aZ, aU, c_2, b_8, eq_true c_16, b_29, up_at, eq_self, ne_eq, not_true_eq_false, not_false_eq_true, Classical.not_not, decide_true, decide_false, and_true, true_and, and_false, false_and, and_self, or_true, true_or, or_false, false_or, or_self, if_true, if_false, ite_true, ite_false, Bool.eq_false_iff, Bool.not_eq_eq_eq_not, Bool.true_eq_false, Bool.false_eq_true, reduceCtorEq]; done) | (simp only [up_at, sN, becS, bitS, sp_ask, FB, FF, FK, FN, FS, FM, FZ, fnd, mv, aN, aF, aK, aH, aT, aS, aW, aZ, aU, c_2, b_8, eq_true c_16, b_29, up_at, eq_self, ne_eq, not_true_eq_false, not_false_eq_true, Classical.not_not, decide_true, decide_false, and_true, true_and, and_false, false_and, and_self, or_true, true_or, or_false, false_or, or_self, if_true, if_false, ite_true, ite_false, Bool.eq_false_iff, Bool.not_eq_eq_eq_not, Bool.true_eq_false, Bool.false_eq_true, reduceCtorEq]; rfl) | (simp [mv_now, mv_fnd, up_at, sN, becS, bitS, sp_ask, FB, FF, FK, FN, FS, FM, FZ, fnd, mv, aN, c_2, b_8, eq_true c_16, b_29, up_at]; done)
          · repeat first | exact (fun _ _ => rfl) | refine frU (by decide) ?_
          · repeat first | exact id | refine mtU (by decide) ?_
      · refine g_iconst (pc := 19) (v := 1) C dX12_ask_19 (by decide) ?_
        refine g_goto (pc := 20) (tgt := 24) C dX12_ask_20 (by decide) ?_
        refine g_is6 (pc := 24) C dX12_ask_24 ?_
        refine g_al0n (pc := 26) C dX12_ask_26 ?_
        refine g_il1n (pc := 27) C dX12_ask_27 ?_
        refine g_iconst (pc := 28) (v := 4) C dX12_ask_28 (by decide) ?_
        refine s_VB (pc := 29) (st := []) C h135 rfl (c_X12_isE (d := d - 1) (by omega) σ p (c := 4) (by decide) rfl) (by omega) lX12_71 dX12_ask_29 rfl (Nat.le_of_ble_eq_true rfl) rfl (fun b_29 => ?_) (fun b_29 => ?_)
        · refine g_if_eq (pc := 32) (tgt := 86) C dX12_ask_32 (by decide) (fun c => absurd c (by decide)) (fun _ => ?_)
          refine g_il6 (pc := 35) C dX12_ask_35 ?_
          refine g_if_eq (pc := 37) (tgt := 86) C dX12_ask_37 (by decide) (fun c => absurd c (by decide)) (fun _ => ?_)
          refine g_al0n (pc := 40) C dX12_ask_40 ?_
          refine g_il3n (pc := 41) C dX12_ask_41 ?_
          refine g_iconst (pc := 42) (v := 3) C dX12_ask_42 (by decide) ?_
          refine s_VB (pc := 43) (st := []) C h135 rfl (c_X12_isE (d := d - 1) (by omega) σ g (c := 3) (by decide) rfl) (by omega) lX12_71 dX12_ask_43 rfl (Nat.le_of_ble_eq_true rfl) rfl (fun b_43 => ?_) (fun b_43 => ?_)
          · refine g_if_eq (pc := 46) (tgt := 86) C dX12_ask_46 (by decide) (fun c => absurd c (by decide)) (fun _ => ?_)
            refine g_il4 (pc := 49) C dX12_ask_49 ?_
            refine g_bipush (pc := 51) (v := 10) C dX12_ask_51 (by decide) ?_
            refine g_sipush (pc := 53) (v := 309) C dX12_ask_53 (by decide) ?_
            refine s_SB (pc := 56) (st := []) C (c_X12_within (d := d - 1) (by omega) σ h 10 309) (by omega) lX12_58 dX12_ask_56 rfl (Nat.le_of_ble_eq_true rfl) rfl (fun b_56 => ?_) (fun b_56 => ?_)
            · refine g_if_eq (pc := 59) (tgt := 86) C dX12_ask_59 (by decide) (fun c => absurd c (by decide)) (fun _ => ?_)
              refine g_il4 (pc := 62) C dX12_ask_62 ?_
              refine g_bipush (pc := 64) (v := 10) C dX12_ask_64 (by decide) ?_
              refine g_irem (pc := 66) C dX12_ask_66 (by decide) ?_
              refine g_iconst (pc := 67) (v := 1) C dX12_ask_67 (by decide) ?_
              refine g_iconst (pc := 68) (v := 5) C dX12_ask_68 (by decide) ?_
              refine s_SB (pc := 69) (st := []) C (c_X12_within (d := d - 1) (by omega) σ (jrem h 10) 1 5) (by omega) lX12_58 dX12_ask_69 rfl (Nat.le_of_ble_eq_true rfl) rfl (fun b_69 => ?_) (fun b_69 => ?_)
              · refine g_if_eq (pc := 72) (tgt := 86) C dX12_ask_72 (by decide) (fun c => absurd c (by decide)) (fun _ => ?_)
                refine g_il5 (pc := 75) C dX12_ask_75 ?_
                refine g_iconst (pc := 77) (v := 1) C dX12_ask_77 (by decide) ?_
                refine g_bipush (pc := 78) (v := 60) C dX12_ask_78 (by decide) ?_
                refine s_SB (pc := 80) (st := []) C (c_X12_within (d := d - 1) (by omega) σ m 1 60) (by omega) lX12_58 dX12_ask_80 rfl (Nat.le_of_ble_eq_true rfl) rfl (fun b_80 => ?_) (fun b_80 => ?_)
                · refine g_if_ne (pc := 83) (tgt := 93) C dX12_ask_83 (by decide) (fun _ => ?_) (fun c => absurd c (by decide))
                  refine g_al0n (pc := 93) C dX12_ask_93 ?_
                  refine s_getR (pc := 94) C fX12_9 h135 rfl dX12_ask_94 ?_
                  refine g_bipush (pc := 97) (v := 7) C dX12_ask_97 (by decide) ?_
                  refine s_iald (pc := 99) (q := 7) C h136 rfl (by omega) (Nat.le_of_ble_eq_true rfl) dX12_ask_99 ?_
                  refine g_is7 (pc := 100) C dX12_ask_100 ?_
                  refine g_il7 (pc := 102) C dX12_ask_102 ?_
                  refine g_bipush (pc := 104) (v := 20) C dX12_ask_104 (by decide) ?_
                  refine g_icmp_ne (pc := 106) (tgt := 116) C dX12_ask_106 (by decide) (fun c_106 => ?_) (fun c_106 => ?_)
                  · refine g_sipush (pc := 116) (v := 146) C dX12_ask_116 (by decide) ?_
                    refine g_bipush (pc := 119) (v := 10) C dX12_ask_119 (by decide) ?_
                    refine g_il7 (pc := 121) C dX12_ask_121 ?_
                    refine g_imul (pc := 123) C dX12_ask_123 ?_
                    refine g_iadd (pc := 124) C dX12_ask_124 ?_
                    refine g_is8 (pc := 125) C dX12_ask_125 ?_
                    refine g_al0n (pc := 127) C dX12_ask_127 ?_
                    refine s_getR (pc := 128) C fX12_9 h135 rfl dX12_ask_128 ?_
                    refine g_il8 (pc := 131) C dX12_ask_131 ?_
                    refine g_iconst (pc := 133) (v := 0) C dX12_ask_133 (by decide) ?_
                    refine g_iadd (pc := 134) C dX12_ask_134 ?_
                    refine g_il1n (pc := 135) C dX12_ask_135 ?_
                    refine s_iast (pc := 136) (q := (146 + (10 * (cnt (σ 136) 7))) + 0) C h136 (by first | (simp only [ixl, nI_add, pk_mul]; done) | rfl | decide | (rw [hI.n3.1]; simp only [ixl, nI_add, pk_mul]; done) | (rw [hI.n4.1]; simp only [ixl, nI_add, pk_mul]; done) | (rw [hI.n5.1]; simp only [ixl, nI_add, pk_mul]; done) | (rw [hI.n6.1]; simp only [ixl, nI_add, pk_mul]; done) | (rw [hI.n7.1]; simp only [ixl, nI_add, pk_mul]; done)) (by omega) (Nat.le_of_ble_eq_true rfl) dX12_ask_136 ?_
                    refine g_al0n (pc := 137) C dX12_ask_137 ?_
                    refine s_getR (pc := 138) C fX12_9 h135 rfl dX12_ask_138 ?_
                    refine g_il8 (pc := 141) C dX12_ask_141 ?_
                    refine g_iconst (pc := 143) (v := 1) C dX12_ask_143 (by decide) ?_
                    refine g_iadd (pc := 144) C dX12_ask_144 ?_
                    refine g_il2n (pc := 145) C dX12_ask_145 ?_
                    refine s_iast (pc := 146) (q := (146 + (10 * (cnt (σ 136) 7))) + 1) C h136 (by first | (simp only [ixl, nI_add, pk_mul]; done) | rfl | decide | (rw [hI.n3.1]; simp only [ixl, nI_add, pk_mul]; done) | (rw [hI.n4.1]; simp only [ixl, nI_add, pk_mul]; done) | (rw [hI.n5.1]; simp only [ixl, nI_add, pk_mul]; done) | (rw [hI.n6.1]; simp only [ixl, nI_add, pk_mul]; done) | (rw [hI.n7.1]; simp only [ixl, nI_add, pk_mul]; done)) (by omega) (Nat.le_of_ble_eq_true rfl) dX12_ask_146 ?_
                    refine g_al0n (pc := 147) C dX12_ask_147 ?_
                    refine s_getR (pc := 148) C fX12_9 h135 rfl dX12_ask_148 ?_
                    refine g_il8 (pc := 151) C dX12_ask_151 ?_
                    refine g_iconst (pc := 153) (v := 2) C dX12_ask_153 (by decide) ?_
                    refine g_iadd (pc := 154) C dX12_ask_154 ?_
                    refine g_il3n (pc := 155) C dX12_ask_155 ?_
                    refine s_iast (pc := 156) (q := (146 + (10 * (cnt (σ 136) 7))) + 2) C h136 (by first | (simp only [ixl, nI_add, pk_mul]; done) | rfl | decide | (rw [hI.n3.1]; simp only [ixl, nI_add, pk_mul]; done) | (rw [hI.n4.1]; simp only [ixl, nI_add, pk_mul]; done) | (rw [hI.n5.1]; simp only [ixl, nI_add, pk_mul]; done) | (rw [hI.n6.1]; simp only [ixl, nI_add, pk_mul]; done) | (rw [hI.n7.1]; simp only [ixl, nI_add, pk_mul]; done)) (by omega) (Nat.le_of_ble_eq_true rfl) dX12_ask_156 ?_
                    refine g_al0n (pc := 157) C dX12_ask_157 ?_
                    refine s_getR (pc := 158) C fX12_9 h135 rfl dX12_ask_158 ?_
                    refine g_il8 (pc := 161) C dX12_ask_161 ?_
                    refine g_iconst (pc := 163) (v := 3) C dX12_ask_163 (by decide) ?_
                    refine g_iadd (pc := 164) C dX12_ask_164 ?_
                    refine g_il4 (pc := 165) C dX12_ask_165 ?_
                    refine g_bipush (pc := 167) (v := 10) C dX12_ask_167 (by decide) ?_
                    refine g_irem (pc := 169) C dX12_ask_169 (by decide) ?_
                    refine s_iast (pc := 170) (q := (146 + (10 * (cnt (σ 136) 7))) + 3) C h136 (by first | (simp only [ixl, nI_add, pk_mul]; done) | rfl | decide | (rw [hI.n3.1]; simp only [ixl, nI_add, pk_mul]; done) | (rw [hI.n4.1]; simp only [ixl, nI_add, pk_mul]; done) | (rw [hI.n5.1]; simp only [ixl, nI_add, pk_mul]; done) | (rw [hI.n6.1]; simp only [ixl, nI_add, pk_mul]; done) | (rw [hI.n7.1]; simp only [ixl, nI_add, pk_mul]; done)) (by omega) (Nat.le_of_ble_eq_true rfl) dX12_ask_170 ?_
                    refine g_al0n (pc := 171) C dX12_ask_171 ?_
                    refine s_getR (pc := 172) C fX12_9 h135 rfl dX12_ask_172 ?_
                    refine g_il8 (pc := 175) C dX12_ask_175 ?_
                    refine g_iconst (pc := 177) (v := 4) C dX12_ask_177 (by decide) ?_
                    refine g_iadd (pc := 178) C dX12_ask_178 ?_
                    refine g_il4 (pc := 179) C dX12_ask_179 ?_
                    refine g_bipush (pc := 181) (v := 10) C dX12_ask_181 (by decide) ?_
                    refine g_idiv (pc := 183) C dX12_ask_183 (by decide) ?_
                    refine s_iast (pc := 184) (q := (146 + (10 * (cnt (σ 136) 7))) + 4) C h136 (by first | (simp only [ixl, nI_add, pk_mul]; done) | rfl | decide | (rw [hI.n3.1]; simp only [ixl, nI_add, pk_mul]; done) | (rw [hI.n4.1]; simp only [ixl, nI_add, pk_mul]; done) | (rw [hI.n5.1]; simp only [ixl, nI_add, pk_mul]; done) | (rw [hI.n6.1]; simp only [ixl, nI_add, pk_mul]; done) | (rw [hI.n7.1]; simp only [ixl, nI_add, pk_mul]; done)) (by omega) (Nat.le_of_ble_eq_true rfl) dX12_ask_184 ?_
                    refine g_al0n (pc := 185) C dX12_ask_185 ?_
                    refine s_getR (pc := 186) C fX12_9 h135 rfl dX12_ask_186 ?_
                    refine g_il8 (pc := 189) C dX12_ask_189 ?_
                    refine g_iconst (pc := 191) (v := 5) C dX12_ask_191 (by decide) ?_
                    refine g_iadd (pc := 192) C dX12_ask_192 ?_
                    refine g_il5 (pc := 193) C dX12_ask_193 ?_
                    refine s_iast (pc := 195) (q := (146 + (10 * (cnt (σ 136) 7))) + 5) C h136 (by first | (simp only [ixl, nI_add, pk_mul]; done) | rfl | decide | (rw [hI.n3.1]; simp only [ixl, nI_add, pk_mul]; done) | (rw [hI.n4.1]; simp only [ixl, nI_add, pk_mul]; done) | (rw [hI.n5.1]; simp only [ixl, nI_add, pk_mul]; done) | (rw [hI.n6.1]; simp only [ixl, nI_add, pk_mul]; done) | (rw [hI.n7.1]; simp only [ixl, nI_add, pk_mul]; done)) (by omega) (Nat.le_of_ble_eq_true rfl) dX12_ask_195 ?_
                    refine g_al0n (pc := 196) C dX12_ask_196 ?_
                    refine s_getR (pc := 197) C fX12_9 h135 rfl dX12_ask_197 ?_
                    refine g_il8 (pc := 200) C dX12_ask_200 ?_
                    refine g_bipush (pc := 202) (v := 6) C dX12_ask_202 (by decide) ?_
                    refine g_iadd (pc := 204) C dX12_ask_204 ?_
                    refine g_iconst (pc := 205) (v := 0) C dX12_ask_205 (by decide) ?_
                    refine s_iast (pc := 206) (q := (146 + (10 * (cnt (σ 136) 7))) + 6) C h136 (by first | (simp only [ixl, nI_add, pk_mul]; done) | rfl | decide | (rw [hI.n3.1]; simp only [ixl, nI_add, pk_mul]; done) | (rw [hI.n4.1]; simp only [ixl, nI_add, pk_mul]; done) | (rw [hI.n5.1]; simp only [ixl, nI_add, pk_mul]; done) | (rw [hI.n6.1]; simp only [ixl, nI_add, pk_mul]; done) | (rw [hI.n7.1]; simp only [ixl, nI_add, pk_mul]; done)) (by omega) (Nat.le_of_ble_eq_true rfl) dX12_ask_206 ?_
                    refine g_al0n (pc := 207) C dX12_ask_207 ?_
                    refine s_getR (pc := 208) C fX12_9 h135 rfl dX12_ask_208 ?_
                    refine g_il8 (pc := 211) C dX12_ask_211 ?_
                    refine g_bipush (pc := 213) (v := 7) C dX12_ask_213 (by decide) ?_
                    refine g_iadd (pc := 215) C dX12_ask_215 ?_
                    refine g_iconst (pc := 216) (v := (-1)) C dX12_ask_216 (by decide) ?_
                    refine s_iast (pc := 217) (q := (146 + (10 * (cnt (σ 136) 7))) + 7) C h136 (by first | (simp only [ixl, nI_add, pk_mul]; done) | rfl | decide | (rw [hI.n3.1]; simp only [ixl, nI_add, pk_mul]; done) | (rw [hI.n4.1]; simp only [ixl, nI_add, pk_mul]; done) | (rw [hI.n5.1]; simp only [ixl, nI_add, pk_mul]; done) | (rw [hI.n6.1]; simp only [ixl, nI_add, pk_mul]; done) | (rw [hI.n7.1]; simp only [ixl, nI_add, pk_mul]; done)) (by omega) (Nat.le_of_ble_eq_true rfl) dX12_ask_217 ?_
                    refine g_al0n (pc := 218) C dX12_ask_218 ?_
                    refine s_getR (pc := 219) C fX12_9 h135 rfl dX12_ask_219 ?_
                    refine g_il8 (pc := 222) C dX12_ask_222 ?_
                    refine g_bipush (pc := 224) (v := 8) C dX12_ask_224 (by decide) ?_
                    refine g_iadd (pc := 226) C dX12_ask_226 ?_
                    refine g_iconst (pc := 227) (v := (-1)) C dX12_ask_227 (by decide) ?_
                    refine s_iast (pc := 228) (q := (146 + (10 * (cnt (σ 136) 7))) + 8) C h136 (by first | (simp only [ixl, nI_add, pk_mul]; done) | rfl | decide | (rw [hI.n3.1]; simp only [ixl, nI_add, pk_mul]; done) | (rw [hI.n4.1]; simp only [ixl, nI_add, pk_mul]; done) | (rw [hI.n5.1]; simp only [ixl, nI_add, pk_mul]; done) | (rw [hI.n6.1]; simp only [ixl, nI_add, pk_mul]; done) | (rw [hI.n7.1]; simp only [ixl, nI_add, pk_mul]; done)) (by omega) (Nat.le_of_ble_eq_true rfl) dX12_ask_228 ?_
                    refine g_al0n (pc := 229) C dX12_ask_229 ?_
                    refine s_getR (pc := 230) C fX12_9 h135 rfl dX12_ask_230 ?_
                    refine g_il8 (pc := 233) C dX12_ask_233 ?_
                    refine g_bipush (pc := 235) (v := 9) C dX12_ask_235 (by decide) ?_
                    refine g_iadd (pc := 237) C dX12_ask_237 ?_
                    refine g_iconst (pc := 238) (v := (-1)) C dX12_ask_238 (by decide) ?_
                    refine s_iast (pc := 239) (q := (146 + (10 * (cnt (σ 136) 7))) + 9) C h136 (by first | (simp only [ixl, nI_add, pk_mul]; done) | rfl | decide | (rw [hI.n3.1]; simp only [ixl, nI_add, pk_mul]; done) | (rw [hI.n4.1]; simp only [ixl, nI_add, pk_mul]; done) | (rw [hI.n5.1]; simp only [ixl, nI_add, pk_mul]; done) | (rw [hI.n6.1]; simp only [ixl, nI_add, pk_mul]; done) | (rw [hI.n7.1]; simp only [ixl, nI_add, pk_mul]; done)) (by omega) (Nat.le_of_ble_eq_true rfl) dX12_ask_239 ?_
                    refine g_al0n (pc := 240) C dX12_ask_240 ?_
                    refine s_getR (pc := 241) C fX12_9 h135 rfl dX12_ask_241 ?_
                    refine g_bipush (pc := 244) (v := 7) C dX12_ask_244 (by decide) ?_
                    refine g_dup2 (pc := 246) C dX12_ask_246 rfl rfl ?_
                    refine s_iald (pc := 247) (q := 7) C h136 rfl (by omega) (Nat.le_of_ble_eq_true rfl) dX12_ask_247 ?_
                    refine g_iconst (pc := 248) (v := 1) C dX12_ask_248 (by decide) ?_
                    refine g_iadd (pc := 249) C dX12_ask_249 ?_
                    refine s_iast (pc := 250) (q := 7) C h136 rfl (by omega) (Nat.le_of_ble_eq_true rfl) dX12_ask_250 ?_
                    refine g_il7 (pc := 251) C dX12_ask_251 ?_
                    refine r_P C hr dX12_ask_253 ⟨?_, ?_, ?_, ?_⟩
                    · first | (simp only [sp_ask, FB, FF, FK, FN, FS, FM, FZ, fnd, becS, bitS, sN, mv, aN, aF, aK, aH, aT, aS, aW, aZ, aU, c_2, b_8, c_16, b_29, b_43, b_56, b_69, b_80, c_106, up_at, eq_self, ne_eq, not_true_eq_false, not_false_eq_true, Classical.not_not, decide_true, decide_false, and_true, true_and, and_false, false_and, and_self, or_true, true_or, or_false, false_or, or_self, if_true, if_false, ite_true, ite_false, Bool.eq_false_iff, Bool.not_eq_eq_eq_not, Bool.true_eq_false, Bool.false_eq_true, reduceCtorEq]; done) | (simp only [sp_ask, FB, FF, FK, FN, FS, FM, FZ, fnd, becS, bitS, sN, mv, aN, aF, aK, aH, aT, aS, aW, aZ, aU, c_2, b_8, c_16, b_29, b_43, b_56, b_69, b_80, c_106, up_at, eq_self, ne_eq, not_true_eq_false, not_false_eq_true, Classical.not_not, decide_true, decide_false, and_true, true_and, and_false, false_and, and_self, or_true, true_or, or_false, false_or, or_self, if_true, if_false, ite_true, ite_false, Bool.eq_false_iff, Bool.not_eq_eq_eq_not, Bool.true_eq_false, Bool.false_eq_true, reduceCtorEq]; rfl) | (simp [becS, bitS, sp_ask, FB, FF, FK, FN, FS, FM, FZ, fnd, mv, aN, c_2, b_8, c_16, b_29, b_43, b_56, b_69, b_80, c_106, up_at]; done)
                    · try simp only [mv_now, mv_fnd, mv_tap, mv_kep]
                      first | (simp only [up_at, sN, becS, bitS, sp_ask, FB, FF, FK, FN, FS, FM, FZ, fnd, mv, aN, aF, aK, aH, aT, aS, aW, aZ, aU, c_2, b_8, c_16, b_29, b_43, b_56, b_69, b_80, c_106, up_at, eq_self, ne_eq, not_true_eq_false, not_false_eq_true, Classical.not_not, decide_true, decide_false, and_true, true_and, and_false, false_and, and_self, or_true, true_or, or_false, false_or, or_self, if_true, if_false, ite_true, ite_false, Bool.eq_false_iff, Bool.not_eq_eq_eq_not, Bool.true_eq_false, Bool.false_eq_true, reduceCtorEq]; done) | (simp only [up_at, sN, becS, bitS, sp_ask, FB, FF, FK, FN, FS, FM, FZ, fnd, mv, aN, aF, aK, aH, aT, aS, aW, aZ, aU, c_2, b_8, c_16, b_29, b_43, b_56, b_69, b_80, c_106, up_at, eq_self, ne_eq, not_true_eq_false, not_false_eq_true, Classical.not_not, decide_true, decide_false, and_true, true_and, and_false, false_and, and_self, or_true, true_or, or_false, false_or, or_self, if_true, if_false, ite_true, ite_false, Bool.eq_false_iff, Bool.not_eq_eq_eq_not, Bool.true_eq_false, Bool.false_eq_true, reduceCtorEq]; rfl) | (simp [mv_now, mv_fnd, up_at, sN, becS, bitS, sp_ask, FB, FF, FK, FN, FS, FM, FZ, fnd, mv, aN, c_2, b_8, c_16, b_29, b_43, b_56, b_69, b_80, c_106, up_at]; done)
                    · repeat first | exact (fun _ _ => rfl) | refine frU (by decide) ?_
                    · repeat first | exact id | refine mtU (by decide) ?_
                  · refine g_al0n (pc := 109) C dX12_ask_109 ?_
                    refine g_ldc (pc := 110) C dX12_ask_110 kX12_66 ?_
                    refine s_VI (pc := 112) (st := []) C h135 rfl (c_X12_finding (d := d - 1) (by omega) σ (i := 1) (by decide) (w := ((-1000002))) (by decide)) (by omega) lX12_62 dX12_ask_112 rfl (Nat.le_of_ble_eq_true rfl) rfl ?_
                    refine r_P C hr dX12_ask_115 ⟨?_, ?_, ?_, ?_⟩
                    · first | (simp only [sp_ask, FB, FF, FK, FN, FS, FM, FZ, fnd, becS, bitS, sN, mv, aN, aF, aK, aH, aT, aS, aW, aZ, aU, c_2, b_8, c_16, b_29, b_43, b_56, b_69, b_80, eq_true c_106, up_at, eq_self, ne_eq, not_true_eq_false, not_false_eq_true, Classical.not_not, decide_true, decide_false, and_true, true_and, and_false, false_and, and_self, or_true, true_or, or_false, false_or, or_self, if_true, if_false, ite_true, ite_false, Bool.eq_false_iff, Bool.not_eq_eq_eq_not, Bool.true_eq_false, Bool.false_eq_true, reduceCtorEq]; done) | (simp only [sp_ask, FB, FF, FK, FN, FS, FM, FZ, fnd, becS, bitS, sN, mv, aN, aF, aK, aH, aT, aS, aW, aZ, aU, c_2, b_8, c_16, b_29, b_43, b_56, b_69, b_80, eq_true c_106, up_at, eq_self, ne_eq, not_true_eq_false, not_false_eq_true, Classical.not_not, decide_true, decide_false, and_true, true_and, and_false, false_and, and_self, or_true, true_or, or_false, false_or, or_self, if_true, if_false, ite_true, ite_false, Bool.eq_false_iff, Bool.not_eq_eq_eq_not, Bool.true_eq_false, Bool.false_eq_true, reduceCtorEq]; rfl) | (simp [becS, bitS, sp_ask, FB, FF, FK, FN, FS, FM, FZ, fnd, mv, aN, c_2, b_8, c_16, b_29, b_43, b_56, b_69, b_80, eq_true c_106, up_at]; done)
                    · try simp only [mv_now, mv_fnd, mv_tap, mv_kep]
                      first | (simp only [up_at, sN, becS, bitS, sp_ask, FB, FF, FK, FN, FS, FM, FZ, fnd, mv, aN, aF, aK, aH, aT, aS, aW, aZ, aU, c_2, b_8, c_16, b_29, b_43, b_56, b_69, b_80, eq_true c_106, up_at, eq_self, ne_eq, not_true_eq_false, not_false_eq_true, Classical.not_not, decide_true, decide_false, and_true, true_and, and_false, false_and, and_self, or_true, true_or, or_false, false_or, or_self, if_true, if_false, ite_true, ite_false, Bool.eq_false_iff, Bool.not_eq_eq_eq_not, Bool.true_eq_false, Bool.false_eq_true, reduceCtorEq]; done) | (simp only [up_at, sN, becS, bitS, sp_ask, FB, FF, FK, FN, FS, FM, FZ, fnd, mv, aN, aF, aK, aH, aT, aS, aW, aZ, aU, c_2, b_8, c_16, b_29, b_43, b_56, b_69, b_80, eq_true c_106, up_at, eq_self, ne_eq, not_true_eq_false, not_false_eq_true, Classical.not_not, decide_true, decide_false, and_true, true_and, and_false, false_and, and_self, or_true, true_or, or_false, false_or, or_self, if_true, if_false, ite_true, ite_false, Bool.eq_false_iff, Bool.not_eq_eq_eq_not, Bool.true_eq_false, Bool.false_eq_true, reduceCtorEq]; rfl) | (simp [mv_now, mv_fnd, up_at, sN, becS, bitS, sp_ask, FB, FF, FK, FN, FS, FM, FZ, fnd, mv, aN, c_2, b_8, c_16, b_29, b_43, b_56, b_69, b_80, eq_true c_106, up_at]; done)
                    · repeat first | exact (fun _ _ => rfl) | refine frU (by decide) ?_
                    · repeat first | exact id | refine mtU (by decide) ?_
                · refine g_if_ne (pc := 83) (tgt := 93) C dX12_ask_83 (by decide) (fun c => absurd c (by decide)) (fun _ => ?_)
                  refine g_al0n (pc := 86) C dX12_ask_86 ?_
                  refine g_ldc (pc := 87) C dX12_ask_87 kX12_57 ?_
                  refine s_VI (pc := 89) (st := []) C h135 rfl (c_X12_finding (d := d - 1) (by omega) σ (i := 0) (by decide) (w := ((-1000001))) (by decide)) (by omega) lX12_62 dX12_ask_89 rfl (Nat.le_of_ble_eq_true rfl) rfl ?_
                  refine r_P C hr dX12_ask_92 ⟨?_, ?_, ?_, ?_⟩
                  · first | (simp only [sp_ask, FB, FF, FK, FN, FS, FM, FZ, fnd, becS, bitS, sN, mv, aN, aF, aK, aH, aT, aS, aW, aZ, aU, c_2, b_8, c_16, b_29, b_43, b_56, b_69, b_80, up_at, eq_self, ne_eq, not_true_eq_false, not_false_eq_true, Classical.not_not, decide_true, decide_false, and_true, true_and, and_false, false_and, and_self, or_true, true_or, or_false, false_or, or_self, if_true, if_false, ite_true, ite_false, Bool.eq_false_iff, Bool.not_eq_eq_eq_not, Bool.true_eq_false, Bool.false_eq_true, reduceCtorEq]; done) | (simp only [sp_ask, FB, FF, FK, FN, FS, FM, FZ, fnd, becS, bitS, sN, mv, aN, aF, aK, aH, aT, aS, aW, aZ, aU, c_2, b_8, c_16, b_29, b_43, b_56, b_69, b_80, up_at, eq_self, ne_eq, not_true_eq_false, not_false_eq_true, Classical.not_not, decide_true, decide_false, and_true, true_and, and_false, false_and, and_self, or_true, true_or, or_false, false_or, or_self, if_true, if_false, ite_true, ite_false, Bool.eq_false_iff, Bool.not_eq_eq_eq_not, Bool.true_eq_false, Bool.false_eq_true, reduceCtorEq]; rfl) | (simp [becS, bitS, sp_ask, FB, FF, FK, FN, FS, FM, FZ, fnd, mv, aN, c_2, b_8, c_16, b_29, b_43, b_56, b_69, b_80, up_at]; done)
                  · try simp only [mv_now, mv_fnd, mv_tap, mv_kep]
                    first | (simp only [up_at, sN, becS, bitS, sp_ask, FB, FF, FK, FN, FS, FM, FZ, fnd, mv, aN, aF, aK, aH, aT, aS, aW, aZ, aU, c_2, b_8, c_16, b_29, b_43, b_56, b_69, b_80, up_at, eq_self, ne_eq, not_true_eq_false, not_false_eq_true, Classical.not_not, decide_true, decide_false, and_true, true_and, and_false, false_and, and_self, or_true, true_or, or_false, false_or, or_self, if_true, if_false, ite_true, ite_false, Bool.eq_false_iff, Bool.not_eq_eq_eq_not, Bool.true_eq_false, Bool.false_eq_true, reduceCtorEq]; done) | (simp only [up_at, sN, becS, bitS, sp_ask, FB, FF, FK, FN, FS, FM, FZ, fnd, mv, aN, aF, aK, aH, aT, aS, aW, aZ, aU, c_2, b_8, c_16, b_29, b_43, b_56, b_69, b_80, up_at, eq_self, ne_eq, not_true_eq_false, not_false_eq_true, Classical.not_not, decide_true, decide_false, and_true, true_and, and_false, false_and, and_self, or_true, true_or, or_false, false_or, or_self, if_true, if_false, ite_true, ite_false, Bool.eq_false_iff, Bool.not_eq_eq_eq_not, Bool.true_eq_false, Bool.false_eq_true, reduceCtorEq]; rfl) | (simp [mv_now, mv_fnd, up_at, sN, becS, bitS, sp_ask, FB, FF, FK, FN, FS, FM, FZ, fnd, mv, aN, c_2, b_8, c_16, b_29, b_43, b_56, b_69, b_80, up_at]; done)
                  · repeat first | exact (fun _ _ => rfl) | refine frU (by decide) ?_
                  · repeat first | exact id | refine mtU (by decide) ?_
              · refine g_if_eq (pc := 72) (tgt := 86) C dX12_ask_72 (by decide) (fun _ => ?_) (fun c => absurd c (by decide))
                refine g_al0n (pc := 86) C dX12_ask_86 ?_
                refine g_ldc (pc := 87) C dX12_ask_87 kX12_57 ?_
                refine s_VI (pc := 89) (st := []) C h135 rfl (c_X12_finding (d := d - 1) (by omega) σ (i := 0) (by decide) (w := ((-1000001))) (by decide)) (by omega) lX12_62 dX12_ask_89 rfl (Nat.le_of_ble_eq_true rfl) rfl ?_
                refine r_P C hr dX12_ask_92 ⟨?_, ?_, ?_, ?_⟩
                · first | (simp only [sp_ask, FB, FF, FK, FN, FS, FM, FZ, fnd, becS, bitS, sN, mv, aN, aF, aK, aH, aT, aS, aW, aZ, aU, c_2, b_8, c_16, b_29, b_43, b_56, b_69, up_at, eq_self, ne_eq, not_true_eq_false, not_false_eq_true, Classical.not_not, decide_true, decide_false, and_true, true_and, and_false, false_and, and_self, or_true, true_or, or_false, false_or, or_self, if_true, if_false, ite_true, ite_false, Bool.eq_false_iff, Bool.not_eq_eq_eq_not, Bool.true_eq_false, Bool.false_eq_true, reduceCtorEq]; done) | (simp only [sp_ask, FB, FF, FK, FN, FS, FM, FZ, fnd, becS, bitS, sN, mv, aN, aF, aK, aH, aT, aS, aW, aZ, aU, c_2, b_8, c_16, b_29, b_43, b_56, b_69, up_at, eq_self, ne_eq, not_true_eq_false, not_false_eq_true, Classical.not_not, decide_true, decide_false, and_true, true_and, and_false, false_and, and_self, or_true, true_or, or_false, false_or, or_self, if_true, if_false, ite_true, ite_false, Bool.eq_false_iff, Bool.not_eq_eq_eq_not, Bool.true_eq_false, Bool.false_eq_true, reduceCtorEq]; rfl) | (simp [becS, bitS, sp_ask, FB, FF, FK, FN, FS, FM, FZ, fnd, mv, aN, c_2, b_8, c_16, b_29, b_43, b_56, b_69, up_at]; done)
                · try simp only [mv_now, mv_fnd, mv_tap, mv_kep]
                  first | (simp only [up_at, sN, becS, bitS, sp_ask, FB, FF, FK, FN, FS, FM, FZ, fnd, mv, aN, aF, aK, aH, aT, aS, aW, aZ, aU, c_2, b_8, c_16, b_29, b_43, b_56, b_69, up_at, eq_self, ne_eq, not_true_eq_false, not_false_eq_true, Classical.not_not, decide_true, decide_false, and_true, true_and, and_false, false_and, and_self, or_true, true_or, or_false, false_or, or_self, if_true, if_false, ite_true, ite_false, Bool.eq_false_iff, Bool.not_eq_eq_eq_not, Bool.true_eq_false, Bool.false_eq_true, reduceCtorEq]; done) | (simp only [up_at, sN, becS, bitS, sp_ask, FB, FF, FK, FN, FS, FM, FZ, fnd, mv, aN, aF, aK, aH, aT, aS, aW, aZ, aU, c_2, b_8, c_16, b_29, b_43, b_56, b_69, up_at, eq_self, ne_eq, not_true_eq_false, not_false_eq_true, Classical.not_not, decide_true, decide_false, and_true, true_and, and_false, false_and, and_self, or_true, true_or, or_false, false_or, or_self, if_true, if_false, ite_true, ite_false, Bool.eq_false_iff, Bool.not_eq_eq_eq_not, Bool.true_eq_false, Bool.false_eq_true, reduceCtorEq]; rfl) | (simp [mv_now, mv_fnd, up_at, sN, becS, bitS, sp_ask, FB, FF, FK, FN, FS, FM, FZ, fnd, mv, aN, c_2, b_8, c_16, b_29, b_43, b_56, b_69, up_at]; done)
                · repeat first | exact (fun _ _ => rfl) | refine frU (by decide) ?_
                · repeat first | exact id | refine mtU (by decide) ?_
            · refine g_if_eq (pc := 59) (tgt := 86) C dX12_ask_59 (by decide) (fun _ => ?_) (fun c => absurd c (by decide))
              refine g_al0n (pc := 86) C dX12_ask_86 ?_
              refine g_ldc (pc := 87) C dX12_ask_87 kX12_57 ?_
              refine s_VI (pc := 89) (st := []) C h135 rfl (c_X12_finding (d := d - 1) (by omega) σ (i := 0) (by decide) (w := ((-1000001))) (by decide)) (by omega) lX12_62 dX12_ask_89 rfl (Nat.le_of_ble_eq_true rfl) rfl ?_
              refine r_P C hr dX12_ask_92 ⟨?_, ?_, ?_, ?_⟩
              · first | (simp only [sp_ask, FB, FF, FK, FN, FS, FM, FZ, fnd, becS, bitS, sN, mv, aN, aF, aK, aH, aT, aS, aW, aZ, aU, c_2, b_8, c_16, b_29, b_43, b_56, up_at, eq_self, ne_eq, not_true_eq_false, not_false_eq_true, Classical.not_not, decide_true, decide_false, and_true, true_and, and_false, false_and, and_self, or_true, true_or, or_false, false_or, or_self, if_true, if_false, ite_true, ite_false, Bool.eq_false_iff, Bool.not_eq_eq_eq_not, Bool.true_eq_false, Bool.false_eq_true, reduceCtorEq]; done) | (simp only [sp_ask, FB, FF, FK, FN, FS, FM, FZ, fnd, becS, bitS, sN, mv, aN, aF, aK, aH, aT, aS, aW, aZ, aU, c_2, b_8, c_16, b_29, b_43, b_56, up_at, eq_self, ne_eq, not_true_eq_false, not_false_eq_true, Classical.not_not, decide_true, decide_false, and_true, true_and, and_false, false_and, and_self, or_true, true_or, or_false, false_or, or_self, if_true, if_false, ite_true, ite_false, Bool.eq_false_iff, Bool.not_eq_eq_eq_not, Bool.true_eq_false, Bool.false_eq_true, reduceCtorEq]; rfl) | (simp [becS, bitS, sp_ask, FB, FF, FK, FN, FS, FM, FZ, fnd, mv, aN, c_2, b_8, c_16, b_29, b_43, b_56, up_at]; done)
              · try simp only [mv_now, mv_fnd, mv_tap, mv_kep]
                first | (simp only [up_at, sN, becS, bitS, sp_ask, FB, FF, FK, FN, FS, FM, FZ, fnd, mv, aN, aF, aK, aH, aT, aS, aW, aZ, aU, c_2, b_8, c_16, b_29, b_43, b_56, up_at, eq_self, ne_eq, not_true_eq_false, not_false_eq_true, Classical.not_not, decide_true, decide_false, and_true, true_and, and_false, false_and, and_self, or_true, true_or, or_false, false_or, or_self, if_true, if_false, ite_true, ite_false, Bool.eq_false_iff, Bool.not_eq_eq_eq_not, Bool.true_eq_false, Bool.false_eq_true, reduceCtorEq]; done) | (simp only [up_at, sN, becS, bitS, sp_ask, FB, FF, FK, FN, FS, FM, FZ, fnd, mv, aN, aF, aK, aH, aT, aS, aW, aZ, aU, c_2, b_8, c_16, b_29, b_43, b_56, up_at, eq_self, ne_eq, not_true_eq_false, not_false_eq_true, Classical.not_not, decide_true, decide_false, and_true, true_and, and_false, false_and, and_self, or_true, true_or, or_false, false_or, or_self, if_true, if_false, ite_true, ite_false, Bool.eq_false_iff, Bool.not_eq_eq_eq_not, Bool.true_eq_false, Bool.false_eq_true, reduceCtorEq]; rfl) | (simp [mv_now, mv_fnd, up_at, sN, becS, bitS, sp_ask, FB, FF, FK, FN, FS, FM, FZ, fnd, mv, aN, c_2, b_8, c_16, b_29, b_43, b_56, up_at]; done)
              · repeat first | exact (fun _ _ => rfl) | refine frU (by decide) ?_
              · repeat first | exact id | refine mtU (by decide) ?_
          · refine g_if_eq (pc := 46) (tgt := 86) C dX12_ask_46 (by decide) (fun _ => ?_) (fun c => absurd c (by decide))
            refine g_al0n (pc := 86) C dX12_ask_86 ?_
            refine g_ldc (pc := 87) C dX12_ask_87 kX12_57 ?_
            refine s_VI (pc := 89) (st := []) C h135 rfl (c_X12_finding (d := d - 1) (by omega) σ (i := 0) (by decide) (w := ((-1000001))) (by decide)) (by omega) lX12_62 dX12_ask_89 rfl (Nat.le_of_ble_eq_true rfl) rfl ?_
            refine r_P C hr dX12_ask_92 ⟨?_, ?_, ?_, ?_⟩
            · first | (simp only [sp_ask, FB, FF, FK, FN, FS, FM, FZ, fnd, becS, bitS, sN, mv, aN, aF, aK, aH, aT, aS, aW, aZ, aU, c_2, b_8, c_16, b_29, b_43, up_at, eq_self, ne_eq, not_true_eq_false, not_false_eq_true, Classical.not_not, decide_true, decide_false, and_true, true_and, and_false, false_and, and_self, or_true, true_or, or_false, false_or, or_self, if_true, if_false, ite_true, ite_false, Bool.eq_false_iff, Bool.not_eq_eq_eq_not, Bool.true_eq_false, Bool.false_eq_true, reduceCtorEq]; done) | (simp only [sp_ask, FB, FF, FK, FN, FS, FM, FZ, fnd, becS, bitS, sN, mv, aN, aF, aK, aH, aT, aS, aW, aZ, aU, c_2, b_8, c_16, b_29, b_43, up_at, eq_self, ne_eq, not_true_eq_false, not_false_eq_true, Classical.not_not, decide_true, decide_false, and_true, true_and, and_false, false_and, and_self, or_true, true_or, or_false, false_or, or_self, if_true, if_false, ite_true, ite_false, Bool.eq_false_iff, Bool.not_eq_eq_eq_not, Bool.true_eq_false, Bool.false_eq_true, reduceCtorEq]; rfl) | (simp [becS, bitS, sp_ask, FB, FF, FK, FN, FS, FM, FZ, fnd, mv, aN, c_2, b_8, c_16, b_29, b_43, up_at]; done)
            · try simp only [mv_now, mv_fnd, mv_tap, mv_kep]
              first | (simp only [up_at, sN, becS, bitS, sp_ask, FB, FF, FK, FN, FS, FM, FZ, fnd, mv, aN, aF, aK, aH, aT, aS, aW, aZ, aU, c_2, b_8, c_16, b_29, b_43, up_at, eq_self, ne_eq, not_true_eq_false, not_false_eq_true, Classical.not_not, decide_true, decide_false, and_true, true_and, and_false, false_and, and_self, or_true, true_or, or_false, false_or, or_self, if_true, if_false, ite_true, ite_false, Bool.eq_false_iff, Bool.not_eq_eq_eq_not, Bool.true_eq_false, Bool.false_eq_true, reduceCtorEq]; done) | (simp only [up_at, sN, becS, bitS, sp_ask, FB, FF, FK, FN, FS, FM, FZ, fnd, mv, aN, aF, aK, aH, aT, aS, aW, aZ, aU, c_2, b_8, c_16, b_29, b_43, up_at, eq_self, ne_eq, not_true_eq_false, not_false_eq_true, Classical.not_not, decide_true, decide_false, and_true, true_and, and_false, false_and, and_self, or_true, true_or, or_false, false_or, or_self, if_true, if_false, ite_true, ite_false, Bool.eq_false_iff, Bool.not_eq_eq_eq_not, Bool.true_eq_false, Bool.false_eq_true, reduceCtorEq]; rfl) | (simp [mv_now, mv_fnd, up_at, sN, becS, bitS, sp_ask, FB, FF, FK, FN, FS, FM, FZ, fnd, mv, aN, c_2, b_8, c_16, b_29, b_43, up_at]; done)
            · repeat first | exact (fun _ _ => rfl) | refine frU (by decide) ?_
            · repeat first | exact id | refine mtU (by decide) ?_
        · refine g_if_eq (pc := 32) (tgt := 86) C dX12_ask_32 (by decide) (fun _ => ?_) (fun c => absurd c (by decide))
          refine g_al0n (pc := 86) C dX12_ask_86 ?_
          refine g_ldc (pc := 87) C dX12_ask_87 kX12_57 ?_
          refine s_VI (pc := 89) (st := []) C h135 rfl (c_X12_finding (d := d - 1) (by omega) σ (i := 0) (by decide) (w := ((-1000001))) (by decide)) (by omega) lX12_62 dX12_ask_89 rfl (Nat.le_of_ble_eq_true rfl) rfl ?_
          refine r_P C hr dX12_ask_92 ⟨?_, ?_, ?_, ?_⟩
          · first | (simp only [sp_ask, FB, FF, FK, FN, FS, FM, FZ, fnd, becS, bitS, sN, mv, aN, aF, aK, aH, aT, aS, aW, aZ, aU, c_2, b_8, c_16, b_29, up_at, eq_self, ne_eq, not_true_eq_false, not_false_eq_true, Classical.not_not, decide_true, decide_false, and_true, true_and, and_false, false_and, and_self, or_true, true_or, or_false, false_or, or_self, if_true, if_false, ite_true, ite_false, Bool.eq_false_iff, Bool.not_eq_eq_eq_not, Bool.true_eq_false, Bool.false_eq_true, reduceCtorEq]; done) | (simp only [sp_ask, FB, FF, FK, FN, FS, FM, FZ, fnd, becS, bitS, sN, mv, aN, aF, aK, aH, aT, aS, aW, aZ, aU, c_2, b_8, c_16, b_29, up_at, eq_self, ne_eq, not_true_eq_false, not_false_eq_true, Classical.not_not, decide_true, decide_false, and_true, true_and, and_false, false_and, and_self, or_true, true_or, or_false, false_or, or_self, if_true, if_false, ite_true, ite_false, Bool.eq_false_iff, Bool.not_eq_eq_eq_not, Bool.true_eq_false, Bool.false_eq_true, reduceCtorEq]; rfl) | (simp [becS, bitS, sp_ask, FB, FF, FK, FN, FS, FM, FZ, fnd, mv, aN, c_2, b_8, c_16, b_29, up_at]; done)
          · try simp only [mv_now, mv_fnd, mv_tap, mv_kep]
            first | (simp only [up_at, sN, becS, bitS, sp_ask, FB, FF, FK, FN, FS, FM, FZ, fnd, mv, aN, aF, aK, aH, aT, aS, aW, aZ, aU, c_2, b_8, c_16, b_29, up_at, eq_self, ne_eq, not_true_eq_false, not_false_eq_true, Classical.not_not, decide_true, decide_false, and_true, true_and, and_false, false_and, and_self, or_true, true_or, or_false, false_or, or_self, if_true, if_false, ite_true, ite_false, Bool.eq_false_iff, Bool.not_eq_eq_eq_not, Bool.true_eq_false, Bool.false_eq_true, reduceCtorEq]; done) | (simp only [up_at, sN, becS, bitS, sp_ask, FB, FF, FK, FN, FS, FM, FZ, fnd, mv, aN, aF, aK, aH, aT, aS, aW, aZ, aU, c_2, b_8, c_16, b_29, up_at, eq_self, ne_eq, not_true_eq_false, not_false_eq_true, Classical.not_not, decide_true, decide_false, and_true, true_and, and_false, false_and, and_self, or_true, true_or, or_false, false_or, or_self, if_true, if_false, ite_true, ite_false, Bool.eq_false_iff, Bool.not_eq_eq_eq_not, Bool.true_eq_false, Bool.false_eq_true, reduceCtorEq]; rfl) | (simp [mv_now, mv_fnd, up_at, sN, becS, bitS, sp_ask, FB, FF, FK, FN, FS, FM, FZ, fnd, mv, aN, c_2, b_8, c_16, b_29, up_at]; done)
          · repeat first | exact (fun _ _ => rfl) | refine frU (by decide) ?_
          · repeat first | exact id | refine mtU (by decide) ?_
    · refine g_if_eq (pc := 11) (tgt := 23) C dX12_ask_11 (by decide) (fun _ => ?_) (fun c => absurd c (by decide))
      refine g_iconst (pc := 23) (v := 0) C dX12_ask_23 (by decide) ?_
      refine g_is6 (pc := 24) C dX12_ask_24 ?_
      refine g_al0n (pc := 26) C dX12_ask_26 ?_
      refine g_il1n (pc := 27) C dX12_ask_27 ?_
      refine g_iconst (pc := 28) (v := 4) C dX12_ask_28 (by decide) ?_
      refine s_VB (pc := 29) (st := []) C h135 rfl (c_X12_isE (d := d - 1) (by omega) σ p (c := 4) (by decide) rfl) (by omega) lX12_71 dX12_ask_29 rfl (Nat.le_of_ble_eq_true rfl) rfl (fun b_29 => ?_) (fun b_29 => ?_)
      · refine g_if_eq (pc := 32) (tgt := 86) C dX12_ask_32 (by decide) (fun c => absurd c (by decide)) (fun _ => ?_)
        refine g_il6 (pc := 35) C dX12_ask_35 ?_
        refine g_if_eq (pc := 37) (tgt := 86) C dX12_ask_37 (by decide) (fun _ => ?_) (fun c => absurd c (by decide))
        refine g_al0n (pc := 86) C dX12_ask_86 ?_
        refine g_ldc (pc := 87) C dX12_ask_87 kX12_57 ?_
        refine s_VI (pc := 89) (st := []) C h135 rfl (c_X12_finding (d := d - 1) (by omega) σ (i := 0) (by decide) (w := ((-1000001))) (by decide)) (by omega) lX12_62 dX12_ask_89 rfl (Nat.le_of_ble_eq_true rfl) rfl ?_
        refine r_P C hr dX12_ask_92 ⟨?_, ?_, ?_, ?_⟩
        · first | (simp only [sp_ask, FB, FF, FK, FN, FS, FM, FZ, fnd, becS, bitS, sN, mv, aN, aF, aK, aH, aT, aS, aW, aZ, aU, c_2, b_8, b_29, up_at, eq_self, ne_eq, not_true_eq_false, not_false_eq_true, Classical.not_not, decide_true, decide_false, and_true, true_and, and_false, false_and, and_self, or_true, true_or, or_false, false_or, or_self, if_true, if_false, ite_true, ite_false, Bool.eq_false_iff, Bool.not_eq_eq_eq_not, Bool.true_eq_false, Bool.false_eq_true, reduceCtorEq]; done) | (simp only [sp_ask, FB, FF, FK, FN, FS, FM, FZ, fnd, becS, bitS, sN, mv, aN, aF, aK, aH, aT, aS, aW, aZ, aU, c_2, b_8, b_29, up_at, eq_self, ne_eq, not_true_eq_false, not_false_eq_true, Classical.not_not, decide_true, decide_false, and_true, true_and, and_false, false_and, and_self, or_true, true_or, or_false, false_or, or_self, if_true, if_false, ite_true, ite_false, Bool.eq_false_iff, Bool.not_eq_eq_eq_not, Bool.true_eq_false, Bool.false_eq_true, reduceCtorEq]; rfl) | (simp [becS, bitS, sp_ask, FB, FF, FK, FN, FS, FM, FZ, fnd, mv, aN, c_2, b_8, b_29, up_at]; done)
        · try simp only [mv_now, mv_fnd, mv_tap, mv_kep]
          first | (simp only [up_at, sN, becS, bitS, sp_ask, FB, FF, FK, FN, FS, FM, FZ, fnd, mv, aN, aF, aK, aH, aT, aS, aW, aZ, aU, c_2, b_8, b_29, up_at, eq_self, ne_eq, not_true_eq_false, not_false_eq_true, Classical.not_not, decide_true, decide_false, and_true, true_and, and_false, false_and, and_self, or_true, true_or, or_false, false_or, or_self, if_true, if_false, ite_true, ite_false, Bool.eq_false_iff, Bool.not_eq_eq_eq_not, Bool.true_eq_false, Bool.false_eq_true, reduceCtorEq]; done) | (simp only [up_at, sN, becS, bitS, sp_ask, FB, FF, FK, FN, FS, FM, FZ, fnd, mv, aN, aF, aK, aH, aT, aS, aW, aZ, aU, c_2, b_8, b_29, up_at, eq_self, ne_eq, not_true_eq_false, not_false_eq_true, Classical.not_not, decide_true, decide_false, and_true, true_and, and_false, false_and, and_self, or_true, true_or, or_false, false_or, or_self, if_true, if_false, ite_true, ite_false, Bool.eq_false_iff, Bool.not_eq_eq_eq_not, Bool.true_eq_false, Bool.false_eq_true, reduceCtorEq]; rfl) | (simp [mv_now, mv_fnd, up_at, sN, becS, bitS, sp_ask, FB, FF, FK, FN, FS, FM, FZ, fnd, mv, aN, c_2, b_8, b_29, up_at]; done)
        · repeat first | exact (fun _ _ => rfl) | refine frU (by decide) ?_
        · repeat first | exact id | refine mtU (by decide) ?_
      · refine g_if_eq (pc := 32) (tgt := 86) C dX12_ask_32 (by decide) (fun _ => ?_) (fun c => absurd c (by decide))
        refine g_al0n (pc := 86) C dX12_ask_86 ?_
        refine g_ldc (pc := 87) C dX12_ask_87 kX12_57 ?_
        refine s_VI (pc := 89) (st := []) C h135 rfl (c_X12_finding (d := d - 1) (by omega) σ (i := 0) (by decide) (w := ((-1000001))) (by decide)) (by omega) lX12_62 dX12_ask_89 rfl (Nat.le_of_ble_eq_true rfl) rfl ?_
        refine r_P C hr dX12_ask_92 ⟨?_, ?_, ?_, ?_⟩
        · first | (simp only [sp_ask, FB, FF, FK, FN, FS, FM, FZ, fnd, becS, bitS, sN, mv, aN, aF, aK, aH, aT, aS, aW, aZ, aU, c_2, b_8, b_29, up_at, eq_self, ne_eq, not_true_eq_false, not_false_eq_true, Classical.not_not, decide_true, decide_false, and_true, true_and, and_false, false_and, and_self, or_true, true_or, or_false, false_or, or_self, if_true, if_false, ite_true, ite_false, Bool.eq_false_iff, Bool.not_eq_eq_eq_not, Bool.true_eq_false, Bool.false_eq_true, reduceCtorEq]; done) | (simp only [sp_ask, FB, FF, FK, FN, FS, FM, FZ, fnd, becS, bitS, sN, mv, aN, aF, aK, aH, aT, aS, aW, aZ, aU, c_2, b_8, b_29, up_at, eq_self, ne_eq, not_true_eq_false, not_false_eq_true, Classical.not_not, decide_true, decide_false, and_true, true_and, and_false, false_and, and_self, or_true, true_or, or_false, false_or, or_self, if_true, if_false, ite_true, ite_false, Bool.eq_false_iff, Bool.not_eq_eq_eq_not, Bool.true_eq_false, Bool.false_eq_true, reduceCtorEq]; rfl) | (simp [becS, bitS, sp_ask, FB, FF, FK, FN, FS, FM, FZ, fnd, mv, aN, c_2, b_8, b_29, up_at]; done)
        · try simp only [mv_now, mv_fnd, mv_tap, mv_kep]
          first | (simp only [up_at, sN, becS, bitS, sp_ask, FB, FF, FK, FN, FS, FM, FZ, fnd, mv, aN, aF, aK, aH, aT, aS, aW, aZ, aU, c_2, b_8, b_29, up_at, eq_self, ne_eq, not_true_eq_false, not_false_eq_true, Classical.not_not, decide_true, decide_false, and_true, true_and, and_false, false_and, and_self, or_true, true_or, or_false, false_or, or_self, if_true, if_false, ite_true, ite_false, Bool.eq_false_iff, Bool.not_eq_eq_eq_not, Bool.true_eq_false, Bool.false_eq_true, reduceCtorEq]; done) | (simp only [up_at, sN, becS, bitS, sp_ask, FB, FF, FK, FN, FS, FM, FZ, fnd, mv, aN, aF, aK, aH, aT, aS, aW, aZ, aU, c_2, b_8, b_29, up_at, eq_self, ne_eq, not_true_eq_false, not_false_eq_true, Classical.not_not, decide_true, decide_false, and_true, true_and, and_false, false_and, and_self, or_true, true_or, or_false, false_or, or_self, if_true, if_false, ite_true, ite_false, Bool.eq_false_iff, Bool.not_eq_eq_eq_not, Bool.true_eq_false, Bool.false_eq_true, reduceCtorEq]; rfl) | (simp [mv_now, mv_fnd, up_at, sN, becS, bitS, sp_ask, FB, FF, FK, FN, FS, FM, FZ, fnd, mv, aN, c_2, b_8, b_29, up_at]; done)
        · repeat first | exact (fun _ _ => rfl) | refine frU (by decide) ?_
        · repeat first | exact id | refine mtU (by decide) ?_

theorem m_why {d : Nat} (hd : 6 ≤ d) (σ : Sg) (hI : INV (σ 136)) (a : Int32) : CP d mX12_why [.ref 135, .int a] σ (MPo σ (sp_why (mv σ) a)) := by
  refine con_of (by decide) (catL rfl) (Nat.le_of_ble_eq_true rfl) ?_
  intro μ ω C hr
  have C : Cx μ ω "TowFieldModel" cX12_why 2 d := C
  have hr : (mH μ).sig.returnType = some .int := hr
  show G μ ω (RQ μ ω (pP (MPo σ (sp_why (mv σ) a)))) 0 [some (.ref 135), some (.int a)] [] (mk σ) 0 0
  refine g_al0n (pc := 0) C dX12_why_0 ?_
  refine g_il1n (pc := 1) C dX12_why_1 ?_
  refine g_bipush (pc := 2) (v := 7) C dX12_why_2 (by decide) ?_
  refine s_VB (pc := 4) (st := []) C h135 rfl (c_X12_isE (d := d - 1) (by omega) σ a (c := 7) (by decide) rfl) (by omega) lX12_71 dX12_why_4 rfl (Nat.le_of_ble_eq_true rfl) rfl (fun b_4 => ?_) (fun b_4 => ?_)
  · have hn7 := hI.n7.2
    obtain ⟨j, hj, rfl⟩ := (is_iff hI.n7.1 (by have := hI.n7.2; omega)).mp b_4
    have kj : (nI j).toNatClampNeg = j := nI_clamp (by omega)
    refine g_if_ne (pc := 7) (tgt := 17) C dX12_why_7 (by decide) (fun _ => ?_) (fun c => absurd c (by decide))
    refine g_al0n (pc := 17) C dX12_why_17 ?_
    refine g_il1n (pc := 18) C dX12_why_18 ?_
    refine g_bipush (pc := 19) (v := 6) C dX12_why_19 (by decide) ?_
    refine s_VI (pc := 21) (st := []) C h135 rfl (c_X12_askOf (d := d - 1) (by omega) σ (a := j) (f := 6) (by omega) (by omega) rfl rfl) (by omega) lX12_67 dX12_why_21 rfl (Nat.le_of_ble_eq_true rfl) rfl ?_
    refine g_if_ne (pc := 24) (tgt := 35) C dX12_why_24 (by decide) (fun c_24 => ?_) (fun c_24 => ?_)
    · refine g_al0n (pc := 35) C dX12_why_35 ?_
      refine g_ldc (pc := 36) C dX12_why_36 kX12_95 ?_
      refine s_VI (pc := 38) (st := []) C h135 rfl (c_X12_finding (d := d - 1) (by omega) σ (i := 4) (by decide) (w := ((-1000005))) (by decide)) (by omega) lX12_62 dX12_why_38 rfl (Nat.le_of_ble_eq_true rfl) rfl ?_
      refine r_P C hr dX12_why_41 ⟨?_, ?_, ?_, ?_⟩
      · first | (simp only [sp_why, FB, FF, FK, FN, FS, FM, FZ, fnd, becS, bitS, sN, mv, aN, aF, aK, aH, aT, aS, aW, aZ, aU, b_4, c_24, kj, eq_self, ne_eq, not_true_eq_false, not_false_eq_true, Classical.not_not, decide_true, decide_false, and_true, true_and, and_false, false_and, and_self, or_true, true_or, or_false, false_or, or_self, if_true, if_false, ite_true, ite_false, Bool.eq_false_iff, Bool.not_eq_eq_eq_not, Bool.true_eq_false, Bool.false_eq_true, reduceCtorEq]; done) | (simp only [sp_why, FB, FF, FK, FN, FS, FM, FZ, fnd, becS, bitS, sN, mv, aN, aF, aK, aH, aT, aS, aW, aZ, aU, b_4, c_24, kj, eq_self, ne_eq, not_true_eq_false, not_false_eq_true, Classical.not_not, decide_true, decide_false, and_true, true_and, and_false, false_and, and_self, or_true, true_or, or_false, false_or, or_self, if_true, if_false, ite_true, ite_false, Bool.eq_false_iff, Bool.not_eq_eq_eq_not, Bool.true_eq_false, Bool.false_eq_true, reduceCtorEq]; rfl) | (simp [becS, bitS, sp_why, FB, FF, FK, FN, FS, FM, FZ, fnd, mv, aN, b_4, c_24, kj]; done)
      · try simp only [mv_now, mv_fnd, mv_tap, mv_kep]
        first | (simp only [up_at, sN, becS, bitS, sp_why, FB, FF, FK, FN, FS, FM, FZ, fnd, mv, aN, aF, aK, aH, aT, aS, aW, aZ, aU, b_4, c_24, kj, eq_self, ne_eq, not_true_eq_false, not_false_eq_true, Classical.not_not, decide_true, decide_false, and_true, true_and, and_false, false_and, and_self, or_true, true_or, or_false, false_or, or_self, if_true, if_false, ite_true, ite_false, Bool.eq_false_iff, Bool.not_eq_eq_eq_not, Bool.true_eq_false, Bool.false_eq_true, reduceCtorEq]; done) | (simp only [up_at, sN, becS, bitS, sp_why, FB, FF, FK, FN, FS, FM, FZ, fnd, mv, aN, aF, aK, aH, aT, aS, aW, aZ, aU, b_4, c_24, kj, eq_self, ne_eq, not_true_eq_false, not_false_eq_true, Classical.not_not, decide_true, decide_false, and_true, true_and, and_false, false_and, and_self, or_true, true_or, or_false, false_or, or_self, if_true, if_false, ite_true, ite_false, Bool.eq_false_iff, Bool.not_eq_eq_eq_not, Bool.true_eq_false, Bool.false_eq_true, reduceCtorEq]; rfl) | (simp [mv_now, mv_fnd, up_at, sN, becS, bitS, sp_why, FB, FF, FK, FN, FS, FM, FZ, fnd, mv, aN, b_4, c_24, kj]; done)
      · repeat first | exact (fun _ _ => rfl) | refine frU (by decide) ?_
      · repeat first | exact id | refine mtU (by decide) ?_
    · refine g_al0n (pc := 27) C dX12_why_27 ?_
      refine g_il1n (pc := 28) C dX12_why_28 ?_
      refine s_VP (pc := 29) (st := []) C h135 rfl (c_X12_whyNot (d := d - 1) (by omega) σ hI (by omega)) (by omega) lX12_159 dX12_why_29 rfl (Nat.le_of_ble_eq_true rfl) rfl (fun v_29 τ2 hw_29 => ?_)
      obtain ⟨hv_29, hE2⟩ := hw_29
      refine g_goto (pc := 32) (tgt := 41) C dX12_why_32 (by decide) ?_
      refine r_P C hr dX12_why_41 ⟨?_, ?_, frX hE2, mtX hE2⟩
      · rw [hv_29]; simp only [sp_why, mv, aN, aF, aK, aH, aT, aS, aW, aZ, aU, b_4, c_24, kj, eq_self, ne_eq, not_true_eq_false, not_false_eq_true, Classical.not_not, decide_true, decide_false, and_true, true_and, and_false, false_and, and_self, or_true, true_or, or_false, false_or, or_self, if_true, if_false, ite_true, ite_false, Bool.eq_false_iff, Bool.not_eq_eq_eq_not, Bool.true_eq_false, Bool.false_eq_true, reduceCtorEq]
      · rw [mvE hE2]; simp only [sp_why, mv, aN, aF, aK, aH, aT, aS, aW, aZ, aU, b_4, c_24, kj, eq_self, ne_eq, not_true_eq_false, not_false_eq_true, Classical.not_not, decide_true, decide_false, and_true, true_and, and_false, false_and, and_self, or_true, true_or, or_false, false_or, or_self, if_true, if_false, ite_true, ite_false, Bool.eq_false_iff, Bool.not_eq_eq_eq_not, Bool.true_eq_false, Bool.false_eq_true, reduceCtorEq]
  · refine g_if_ne (pc := 7) (tgt := 17) C dX12_why_7 (by decide) (fun c => absurd c (by decide)) (fun _ => ?_)
    refine g_al0n (pc := 10) C dX12_why_10 ?_
    refine g_ldc (pc := 11) C dX12_why_11 kX12_57 ?_
    refine s_VI (pc := 13) (st := []) C h135 rfl (c_X12_finding (d := d - 1) (by omega) σ (i := 0) (by decide) (w := ((-1000001))) (by decide)) (by omega) lX12_62 dX12_why_13 rfl (Nat.le_of_ble_eq_true rfl) rfl ?_
    refine r_P C hr dX12_why_16 ⟨?_, ?_, ?_, ?_⟩
    · first | (simp only [sp_why, FB, FF, FK, FN, FS, FM, FZ, fnd, becS, bitS, sN, mv, aN, aF, aK, aH, aT, aS, aW, aZ, aU, b_4, eq_self, ne_eq, not_true_eq_false, not_false_eq_true, Classical.not_not, decide_true, decide_false, and_true, true_and, and_false, false_and, and_self, or_true, true_or, or_false, false_or, or_self, if_true, if_false, ite_true, ite_false, Bool.eq_false_iff, Bool.not_eq_eq_eq_not, Bool.true_eq_false, Bool.false_eq_true, reduceCtorEq]; done) | (simp only [sp_why, FB, FF, FK, FN, FS, FM, FZ, fnd, becS, bitS, sN, mv, aN, aF, aK, aH, aT, aS, aW, aZ, aU, b_4, eq_self, ne_eq, not_true_eq_false, not_false_eq_true, Classical.not_not, decide_true, decide_false, and_true, true_and, and_false, false_and, and_self, or_true, true_or, or_false, false_or, or_self, if_true, if_false, ite_true, ite_false, Bool.eq_false_iff, Bool.not_eq_eq_eq_not, Bool.true_eq_false, Bool.false_eq_true, reduceCtorEq]; rfl) | (simp [becS, bitS, sp_why, FB, FF, FK, FN, FS, FM, FZ, fnd, mv, aN, b_4]; done)
    · try simp only [mv_now, mv_fnd, mv_tap, mv_kep]
      first | (simp only [up_at, sN, becS, bitS, sp_why, FB, FF, FK, FN, FS, FM, FZ, fnd, mv, aN, aF, aK, aH, aT, aS, aW, aZ, aU, b_4, eq_self, ne_eq, not_true_eq_false, not_false_eq_true, Classical.not_not, decide_true, decide_false, and_true, true_and, and_false, false_and, and_self, or_true, true_or, or_false, false_or, or_self, if_true, if_false, ite_true, ite_false, Bool.eq_false_iff, Bool.not_eq_eq_eq_not, Bool.true_eq_false, Bool.false_eq_true, reduceCtorEq]; done) | (simp only [up_at, sN, becS, bitS, sp_why, FB, FF, FK, FN, FS, FM, FZ, fnd, mv, aN, aF, aK, aH, aT, aS, aW, aZ, aU, b_4, eq_self, ne_eq, not_true_eq_false, not_false_eq_true, Classical.not_not, decide_true, decide_false, and_true, true_and, and_false, false_and, and_self, or_true, true_or, or_false, false_or, or_self, if_true, if_false, ite_true, ite_false, Bool.eq_false_iff, Bool.not_eq_eq_eq_not, Bool.true_eq_false, Bool.false_eq_true, reduceCtorEq]; rfl) | (simp [mv_now, mv_fnd, up_at, sN, becS, bitS, sp_why, FB, FF, FK, FN, FS, FM, FZ, fnd, mv, aN, b_4]; done)
    · repeat first | exact (fun _ _ => rfl) | refine frU (by decide) ?_
    · repeat first | exact id | refine mtU (by decide) ?_

theorem m_clear {d : Nat} (hd : 4 ≤ d) (σ : Sg) (hI : INV (σ 136)) (l n : Int32) : CP d mX12_clear [.ref 135, .int l, .int n] σ (MPo σ (sp_clear (mv σ) l n)) := by
  refine con_of (by decide) (catL rfl) (Nat.le_of_ble_eq_true rfl) ?_
  intro μ ω C hr
  have C : Cx μ ω "TowFieldModel" cX12_clear 3 d := C
  have hr : (mH μ).sig.returnType = some .int := hr
  show G μ ω (RQ μ ω (pP (MPo σ (sp_clear (mv σ) l n)))) 0 [some (.ref 135), some (.int l), some (.int n)] [] (mk σ) 0 0
  refine g_il1n (pc := 0) C dX12_clear_0 ?_
  refine s_SB (pc := 1) (st := []) C (c_X12_isLane (d := d - 1) (by omega) σ l) (by omega) lX12_100 dX12_clear_1 rfl (Nat.le_of_ble_eq_true rfl) rfl (fun b_1 => ?_) (fun b_1 => ?_)
  · obtain ⟨j, hj, rfl⟩ := rg b_1 (B := 5) (by decide)
    have kj : (nI j).toNatClampNeg = j := nI_clamp (by omega)
    refine g_if_eq (pc := 4) (tgt := 34) C dX12_clear_4 (by decide) (fun c => absurd c (by decide)) (fun _ => ?_)
    refine g_il2n (pc := 7) C dX12_clear_7 ?_
    refine g_iconst (pc := 8) (v := 1) C dX12_clear_8 (by decide) ?_
    refine g_bipush (pc := 9) (v := 60) C dX12_clear_9 (by decide) ?_
    refine s_SB (pc := 11) (st := []) C (c_X12_within (d := d - 1) (by omega) σ n 1 60) (by omega) lX12_58 dX12_clear_11 rfl (Nat.le_of_ble_eq_true rfl) rfl (fun b_11 => ?_) (fun b_11 => ?_)
    · refine g_if_eq (pc := 14) (tgt := 34) C dX12_clear_14 (by decide) (fun c => absurd c (by decide)) (fun _ => ?_)
      refine g_al0n (pc := 17) C dX12_clear_17 ?_
      refine g_il1n (pc := 18) C dX12_clear_18 ?_
      refine g_il2n (pc := 19) C dX12_clear_19 ?_
      refine s_VB (pc := 20) (st := []) C h135 rfl (c_X12_isClear (d := d - 1) (by omega) σ (l := j) (by omega) n) (by omega) lX12_156 dX12_clear_20 rfl (Nat.le_of_ble_eq_true rfl) rfl (fun b_20 => ?_) (fun b_20 => ?_)
      · refine g_if_eq (pc := 23) (tgt := 30) C dX12_clear_23 (by decide) (fun c => absurd c (by decide)) (fun _ => ?_)
        refine g_iconst (pc := 26) (v := 1) C dX12_clear_26 (by decide) ?_
        refine g_goto (pc := 27) (tgt := 40) C dX12_clear_27 (by decide) ?_
        refine r_P C hr dX12_clear_40 ⟨?_, ?_, ?_, ?_⟩
        · first | (simp only [sp_clear, FB, FF, FK, FN, FS, FM, FZ, fnd, becS, bitS, sN, mv, aN, aF, aK, aH, aT, aS, aW, aZ, aU, b_1, b_11, b_20, kj, eq_self, ne_eq, not_true_eq_false, not_false_eq_true, Classical.not_not, decide_true, decide_false, and_true, true_and, and_false, false_and, and_self, or_true, true_or, or_false, false_or, or_self, if_true, if_false, ite_true, ite_false, Bool.eq_false_iff, Bool.not_eq_eq_eq_not, Bool.true_eq_false, Bool.false_eq_true, reduceCtorEq]; done) | (simp only [sp_clear, FB, FF, FK, FN, FS, FM, FZ, fnd, becS, bitS, sN, mv, aN, aF, aK, aH, aT, aS, aW, aZ, aU, b_1, b_11, b_20, kj, eq_self, ne_eq, not_true_eq_false, not_false_eq_true, Classical.not_not, decide_true, decide_false, and_true, true_and, and_false, false_and, and_self, or_true, true_or, or_false, false_or, or_self, if_true, if_false, ite_true, ite_false, Bool.eq_false_iff, Bool.not_eq_eq_eq_not, Bool.true_eq_false, Bool.false_eq_true, reduceCtorEq]; rfl) | (simp [becS, bitS, sp_clear, FB, FF, FK, FN, FS, FM, FZ, fnd, mv, aN, b_1, b_11, b_20, kj]; done)
        · try simp only [mv_now, mv_fnd, mv_tap, mv_kep]
          first | (simp only [up_at, sN, becS, bitS, sp_clear, FB, FF, FK, FN, FS, FM, FZ, fnd, mv, aN, aF, aK, aH, aT, aS, aW, aZ, aU, b_1, b_11, b_20, kj, eq_self, ne_eq, not_true_eq_false, not_false_eq_true, Classical.not_not, decide_true, decide_false, and_true, true_and, and_false, false_and, and_self, or_true, true_or, or_false, false_or, or_self, if_true, if_false, ite_true, ite_false, Bool.eq_false_iff, Bool.not_eq_eq_eq_not, Bool.true_eq_false, Bool.false_eq_true, reduceCtorEq]; done) | (simp only [up_at, sN, becS, bitS, sp_clear, FB, FF, FK, FN, FS, FM, FZ, fnd, mv, aN, aF, aK, aH, aT, aS, aW, aZ, aU, b_1, b_11, b_20, kj, eq_self, ne_eq, not_true_eq_false, not_false_eq_true, Classical.not_not, decide_true, decide_false, and_true, true_and, and_false, false_and, and_self, or_true, true_or, or_false, false_or, or_self, if_true, if_false, ite_true, ite_false, Bool.eq_false_iff, Bool.not_eq_eq_eq_not, Bool.true_eq_false, Bool.false_eq_true, reduceCtorEq]; rfl) | (simp [mv_now, mv_fnd, up_at, sN, becS, bitS, sp_clear, FB, FF, FK, FN, FS, FM, FZ, fnd, mv, aN, b_1, b_11, b_20, kj]; done)
        · repeat first | exact (fun _ _ => rfl) | refine frU (by decide) ?_
        · repeat first | exact id | refine mtU (by decide) ?_
      · refine g_if_eq (pc := 23) (tgt := 30) C dX12_clear_23 (by decide) (fun _ => ?_) (fun c => absurd c (by decide))
        refine g_iconst (pc := 30) (v := 0) C dX12_clear_30 (by decide) ?_
        refine g_goto (pc := 31) (tgt := 40) C dX12_clear_31 (by decide) ?_
        refine r_P C hr dX12_clear_40 ⟨?_, ?_, ?_, ?_⟩
        · first | (simp only [sp_clear, FB, FF, FK, FN, FS, FM, FZ, fnd, becS, bitS, sN, mv, aN, aF, aK, aH, aT, aS, aW, aZ, aU, b_1, b_11, b_20, kj, eq_self, ne_eq, not_true_eq_false, not_false_eq_true, Classical.not_not, decide_true, decide_false, and_true, true_and, and_false, false_and, and_self, or_true, true_or, or_false, false_or, or_self, if_true, if_false, ite_true, ite_false, Bool.eq_false_iff, Bool.not_eq_eq_eq_not, Bool.true_eq_false, Bool.false_eq_true, reduceCtorEq]; done) | (simp only [sp_clear, FB, FF, FK, FN, FS, FM, FZ, fnd, becS, bitS, sN, mv, aN, aF, aK, aH, aT, aS, aW, aZ, aU, b_1, b_11, b_20, kj, eq_self, ne_eq, not_true_eq_false, not_false_eq_true, Classical.not_not, decide_true, decide_false, and_true, true_and, and_false, false_and, and_self, or_true, true_or, or_false, false_or, or_self, if_true, if_false, ite_true, ite_false, Bool.eq_false_iff, Bool.not_eq_eq_eq_not, Bool.true_eq_false, Bool.false_eq_true, reduceCtorEq]; rfl) | (simp [becS, bitS, sp_clear, FB, FF, FK, FN, FS, FM, FZ, fnd, mv, aN, b_1, b_11, b_20, kj]; done)
        · try simp only [mv_now, mv_fnd, mv_tap, mv_kep]
          first | (simp only [up_at, sN, becS, bitS, sp_clear, FB, FF, FK, FN, FS, FM, FZ, fnd, mv, aN, aF, aK, aH, aT, aS, aW, aZ, aU, b_1, b_11, b_20, kj, eq_self, ne_eq, not_true_eq_false, not_false_eq_true, Classical.not_not, decide_true, decide_false, and_true, true_and, and_false, false_and, and_self, or_true, true_or, or_false, false_or, or_self, if_true, if_false, ite_true, ite_false, Bool.eq_false_iff, Bool.not_eq_eq_eq_not, Bool.true_eq_false, Bool.false_eq_true, reduceCtorEq]; done) | (simp only [up_at, sN, becS, bitS, sp_clear, FB, FF, FK, FN, FS, FM, FZ, fnd, mv, aN, aF, aK, aH, aT, aS, aW, aZ, aU, b_1, b_11, b_20, kj, eq_self, ne_eq, not_true_eq_false, not_false_eq_true, Classical.not_not, decide_true, decide_false, and_true, true_and, and_false, false_and, and_self, or_true, true_or, or_false, false_or, or_self, if_true, if_false, ite_true, ite_false, Bool.eq_false_iff, Bool.not_eq_eq_eq_not, Bool.true_eq_false, Bool.false_eq_true, reduceCtorEq]; rfl) | (simp [mv_now, mv_fnd, up_at, sN, becS, bitS, sp_clear, FB, FF, FK, FN, FS, FM, FZ, fnd, mv, aN, b_1, b_11, b_20, kj]; done)
        · repeat first | exact (fun _ _ => rfl) | refine frU (by decide) ?_
        · repeat first | exact id | refine mtU (by decide) ?_
    · refine g_if_eq (pc := 14) (tgt := 34) C dX12_clear_14 (by decide) (fun _ => ?_) (fun c => absurd c (by decide))
      refine g_al0n (pc := 34) C dX12_clear_34 ?_
      refine g_ldc (pc := 35) C dX12_clear_35 kX12_57 ?_
      refine s_VI (pc := 37) (st := []) C h135 rfl (c_X12_finding (d := d - 1) (by omega) σ (i := 0) (by decide) (w := ((-1000001))) (by decide)) (by omega) lX12_62 dX12_clear_37 rfl (Nat.le_of_ble_eq_true rfl) rfl ?_
      refine r_P C hr dX12_clear_40 ⟨?_, ?_, ?_, ?_⟩
      · first | (simp only [sp_clear, FB, FF, FK, FN, FS, FM, FZ, fnd, becS, bitS, sN, mv, aN, aF, aK, aH, aT, aS, aW, aZ, aU, b_1, b_11, kj, eq_self, ne_eq, not_true_eq_false, not_false_eq_true, Classical.not_not, decide_true, decide_false, and_true, true_and, and_false, false_and, and_self, or_true, true_or, or_false, false_or, or_self, if_true, if_false, ite_true, ite_false, Bool.eq_false_iff, Bool.not_eq_eq_eq_not, Bool.true_eq_false, Bool.false_eq_true, reduceCtorEq]; done) | (simp only [sp_clear, FB, FF, FK, FN, FS, FM, FZ, fnd, becS, bitS, sN, mv, aN, aF, aK, aH, aT, aS, aW, aZ, aU, b_1, b_11, kj, eq_self, ne_eq, not_true_eq_false, not_false_eq_true, Classical.not_not, decide_true, decide_false, and_true, true_and, and_false, false_and, and_self, or_true, true_or, or_false, false_or, or_self, if_true, if_false, ite_true, ite_false, Bool.eq_false_iff, Bool.not_eq_eq_eq_not, Bool.true_eq_false, Bool.false_eq_true, reduceCtorEq]; rfl) | (simp [becS, bitS, sp_clear, FB, FF, FK, FN, FS, FM, FZ, fnd, mv, aN, b_1, b_11, kj]; done)
      · try simp only [mv_now, mv_fnd, mv_tap, mv_kep]
        first | (simp only [up_at, sN, becS, bitS, sp_clear, FB, FF, FK, FN, FS, FM, FZ, fnd, mv, aN, aF, aK, aH, aT, aS, aW, aZ, aU, b_1, b_11, kj, eq_self, ne_eq, not_true_eq_false, not_false_eq_true, Classical.not_not, decide_true, decide_false, and_true, true_and, and_false, false_and, and_self, or_true, true_or, or_false, false_or, or_self, if_true, if_false, ite_true, ite_false, Bool.eq_false_iff, Bool.not_eq_eq_eq_not, Bool.true_eq_false, Bool.false_eq_true, reduceCtorEq]; done) | (simp only [up_at, sN, becS, bitS, sp_clear, FB, FF, FK, FN, FS, FM, FZ, fnd, mv, aN, aF, aK, aH, aT, aS, aW, aZ, aU, b_1, b_11, kj, eq_self, ne_eq, not_true_eq_false, not_false_eq_true, Classical.not_not, decide_true, decide_false, and_true, true_and, and_false, false_and, and_self, or_true, true_or, or_false, false_or, or_self, if_true, if_false, ite_true, ite_false, Bool.eq_false_iff, Bool.not_eq_eq_eq_not, Bool.true_eq_false, Bool.false_eq_true, reduceCtorEq]; rfl) | (simp [mv_now, mv_fnd, up_at, sN, becS, bitS, sp_clear, FB, FF, FK, FN, FS, FM, FZ, fnd, mv, aN, b_1, b_11, kj]; done)
      · repeat first | exact (fun _ _ => rfl) | refine frU (by decide) ?_
      · repeat first | exact id | refine mtU (by decide) ?_
  · refine g_if_eq (pc := 4) (tgt := 34) C dX12_clear_4 (by decide) (fun _ => ?_) (fun c => absurd c (by decide))
    refine g_al0n (pc := 34) C dX12_clear_34 ?_
    refine g_ldc (pc := 35) C dX12_clear_35 kX12_57 ?_
    refine s_VI (pc := 37) (st := []) C h135 rfl (c_X12_finding (d := d - 1) (by omega) σ (i := 0) (by decide) (w := ((-1000001))) (by decide)) (by omega) lX12_62 dX12_clear_37 rfl (Nat.le_of_ble_eq_true rfl) rfl ?_
    refine r_P C hr dX12_clear_40 ⟨?_, ?_, ?_, ?_⟩
    · first | (simp only [sp_clear, FB, FF, FK, FN, FS, FM, FZ, fnd, becS, bitS, sN, mv, aN, aF, aK, aH, aT, aS, aW, aZ, aU, b_1, eq_self, ne_eq, not_true_eq_false, not_false_eq_true, Classical.not_not, decide_true, decide_false, and_true, true_and, and_false, false_and, and_self, or_true, true_or, or_false, false_or, or_self, if_true, if_false, ite_true, ite_false, Bool.eq_false_iff, Bool.not_eq_eq_eq_not, Bool.true_eq_false, Bool.false_eq_true, reduceCtorEq]; done) | (simp only [sp_clear, FB, FF, FK, FN, FS, FM, FZ, fnd, becS, bitS, sN, mv, aN, aF, aK, aH, aT, aS, aW, aZ, aU, b_1, eq_self, ne_eq, not_true_eq_false, not_false_eq_true, Classical.not_not, decide_true, decide_false, and_true, true_and, and_false, false_and, and_self, or_true, true_or, or_false, false_or, or_self, if_true, if_false, ite_true, ite_false, Bool.eq_false_iff, Bool.not_eq_eq_eq_not, Bool.true_eq_false, Bool.false_eq_true, reduceCtorEq]; rfl) | (simp [becS, bitS, sp_clear, FB, FF, FK, FN, FS, FM, FZ, fnd, mv, aN, b_1]; done)
    · try simp only [mv_now, mv_fnd, mv_tap, mv_kep]
      first | (simp only [up_at, sN, becS, bitS, sp_clear, FB, FF, FK, FN, FS, FM, FZ, fnd, mv, aN, aF, aK, aH, aT, aS, aW, aZ, aU, b_1, eq_self, ne_eq, not_true_eq_false, not_false_eq_true, Classical.not_not, decide_true, decide_false, and_true, true_and, and_false, false_and, and_self, or_true, true_or, or_false, false_or, or_self, if_true, if_false, ite_true, ite_false, Bool.eq_false_iff, Bool.not_eq_eq_eq_not, Bool.true_eq_false, Bool.false_eq_true, reduceCtorEq]; done) | (simp only [up_at, sN, becS, bitS, sp_clear, FB, FF, FK, FN, FS, FM, FZ, fnd, mv, aN, aF, aK, aH, aT, aS, aW, aZ, aU, b_1, eq_self, ne_eq, not_true_eq_false, not_false_eq_true, Classical.not_not, decide_true, decide_false, and_true, true_and, and_false, false_and, and_self, or_true, true_or, or_false, false_or, or_self, if_true, if_false, ite_true, ite_false, Bool.eq_false_iff, Bool.not_eq_eq_eq_not, Bool.true_eq_false, Bool.false_eq_true, reduceCtorEq]; rfl) | (simp [mv_now, mv_fnd, up_at, sN, becS, bitS, sp_clear, FB, FF, FK, FN, FS, FM, FZ, fnd, mv, aN, b_1]; done)
    · repeat first | exact (fun _ _ => rfl) | refine frU (by decide) ?_
    · repeat first | exact id | refine mtU (by decide) ?_

theorem m_says {d : Nat} (hd : 4 ≤ d) (σ : Sg) (hI : INV (σ 136)) (t h m k : Int32) : CP d mX12_says [.ref 135, .int t, .int h, .int m, .int k] σ (MPo σ (sp_says (mv σ) t h m k)) := by
  refine con_of (by decide) (catL rfl) (Nat.le_of_ble_eq_true rfl) ?_
  intro μ ω C hr
  have C : Cx μ ω "TowFieldModel" cX12_says 5 d := C
  have hr : (mH μ).sig.returnType = some .int := hr
  show G μ ω (RQ μ ω (pP (MPo σ (sp_says (mv σ) t h m k)))) 0 [some (.ref 135), some (.int t), some (.int h), some (.int m), some (.int k)] [] (mk σ) 0 0
  refine g_al0n (pc := 0) C dX12_says_0 ?_
  refine g_il1n (pc := 1) C dX12_says_1 ?_
  refine g_bipush (pc := 2) (v := 8) C dX12_says_2 (by decide) ?_
  refine s_VB (pc := 4) (st := []) C h135 rfl (c_X12_isE (d := d - 1) (by omega) σ t (c := 8) (by decide) rfl) (by omega) lX12_71 dX12_says_4 rfl (Nat.le_of_ble_eq_true rfl) rfl (fun b_4 => ?_) (fun b_4 => ?_)
  · have hn8 := hI.n8.2
    obtain ⟨j, hj, rfl⟩ := (is_iff hI.n8.1 (by have := hI.n8.2; omega)).mp b_4
    have kj : (nI j).toNatClampNeg = j := nI_clamp (by omega)
    refine g_if_eq (pc := 7) (tgt := 22) C dX12_says_7 (by decide) (fun c => absurd c (by decide)) (fun _ => ?_)
    refine g_al0n (pc := 10) C dX12_says_10 ?_
    refine g_il1n (pc := 11) C dX12_says_11 ?_
    refine g_il2n (pc := 12) C dX12_says_12 ?_
    refine g_il3n (pc := 13) C dX12_says_13 ?_
    refine g_il4 (pc := 14) C dX12_says_14 ?_
    refine s_VP (pc := 16) (st := []) C h135 rfl (c_X12_worked (d := d - 1) (by omega) σ hI (t := j) hj h m k) (by omega) lX12_143 dX12_says_16 rfl (Nat.le_of_ble_eq_true rfl) rfl (fun v_16 τ hw_16 => ?_)
    obtain ⟨hv_16, hE⟩ := hw_16
    refine g_goto (pc := 19) (tgt := 28) C dX12_says_19 (by decide) ?_
    refine r_P C hr dX12_says_28 ⟨?_, ?_, frX hE, mtX hE⟩
    · rw [hv_16]; simp only [sp_says, mv, aN, aF, aK, aH, aT, aS, aW, aZ, aU, b_4, kj, eq_self, ne_eq, not_true_eq_false, not_false_eq_true, Classical.not_not, decide_true, decide_false, and_true, true_and, and_false, false_and, and_self, or_true, true_or, or_false, false_or, or_self, if_true, if_false, ite_true, ite_false, Bool.eq_false_iff, Bool.not_eq_eq_eq_not, Bool.true_eq_false, Bool.false_eq_true, reduceCtorEq]
    · rw [mvE hE]; simp only [sp_says, mv, aN, aF, aK, aH, aT, aS, aW, aZ, aU, b_4, kj, eq_self, ne_eq, not_true_eq_false, not_false_eq_true, Classical.not_not, decide_true, decide_false, and_true, true_and, and_false, false_and, and_self, or_true, true_or, or_false, false_or, or_self, if_true, if_false, ite_true, ite_false, Bool.eq_false_iff, Bool.not_eq_eq_eq_not, Bool.true_eq_false, Bool.false_eq_true, reduceCtorEq]
  · refine g_if_eq (pc := 7) (tgt := 22) C dX12_says_7 (by decide) (fun _ => ?_) (fun c => absurd c (by decide))
    refine g_al0n (pc := 22) C dX12_says_22 ?_
    refine g_ldc (pc := 23) C dX12_says_23 kX12_57 ?_
    refine s_VI (pc := 25) (st := []) C h135 rfl (c_X12_finding (d := d - 1) (by omega) σ (i := 0) (by decide) (w := ((-1000001))) (by decide)) (by omega) lX12_62 dX12_says_25 rfl (Nat.le_of_ble_eq_true rfl) rfl ?_
    refine r_P C hr dX12_says_28 ⟨?_, ?_, ?_, ?_⟩
    · first | (simp only [sp_says, FB, FF, FK, FN, FS, FM, FZ, fnd, becS, bitS, sN, mv, aN, aF, aK, aH, aT, aS, aW, aZ, aU, b_4, eq_self, ne_eq, not_true_eq_false, not_false_eq_true, Classical.not_not, decide_true, decide_false, and_true, true_and, and_false, false_and, and_self, or_true, true_or, or_false, false_or, or_self, if_true, if_false, ite_true, ite_false, Bool.eq_false_iff, Bool.not_eq_eq_eq_not, Bool.true_eq_false, Bool.false_eq_true, reduceCtorEq]; done) | (simp only [sp_says, FB, FF, FK, FN, FS, FM, FZ, fnd, becS, bitS, sN, mv, aN, aF, aK, aH, aT, aS, aW, aZ, aU, b_4, eq_self, ne_eq, not_true_eq_false, not_false_eq_true, Classical.not_not, decide_true, decide_false, and_true, true_and, and_false, false_and, and_self, or_true, true_or, or_false, false_or, or_self, if_true, if_false, ite_true, ite_false, Bool.eq_false_iff, Bool.not_eq_eq_eq_not, Bool.true_eq_false, Bool.false_eq_true, reduceCtorEq]; rfl) | (simp [becS, bitS, sp_says, FB, FF, FK, FN, FS, FM, FZ, fnd, mv, aN, b_4]; done)
    · try simp only [mv_now, mv_fnd, mv_tap, mv_kep]
      first | (simp only [up_at, sN, becS, bitS, sp_says, FB, FF, FK, FN, FS, FM, FZ, fnd, mv, aN, aF, aK, aH, aT, aS, aW, aZ, aU, b_4, eq_self, ne_eq, not_true_eq_false, not_false_eq_true, Classical.not_not, decide_true, decide_false, and_true, true_and, and_false, false_and, and_self, or_true, true_or, or_false, false_or, or_self, if_true, if_false, ite_true, ite_false, Bool.eq_false_iff, Bool.not_eq_eq_eq_not, Bool.true_eq_false, Bool.false_eq_true, reduceCtorEq]; done) | (simp only [up_at, sN, becS, bitS, sp_says, FB, FF, FK, FN, FS, FM, FZ, fnd, mv, aN, aF, aK, aH, aT, aS, aW, aZ, aU, b_4, eq_self, ne_eq, not_true_eq_false, not_false_eq_true, Classical.not_not, decide_true, decide_false, and_true, true_and, and_false, false_and, and_self, or_true, true_or, or_false, false_or, or_self, if_true, if_false, ite_true, ite_false, Bool.eq_false_iff, Bool.not_eq_eq_eq_not, Bool.true_eq_false, Bool.false_eq_true, reduceCtorEq]; rfl) | (simp [mv_now, mv_fnd, up_at, sN, becS, bitS, sp_says, FB, FF, FK, FN, FS, FM, FZ, fnd, mv, aN, b_4]; done)
    · repeat first | exact (fun _ _ => rfl) | refine frU (by decide) ?_
    · repeat first | exact id | refine mtU (by decide) ?_

theorem m_wipe {d : Nat} (hd : 3 ≤ d) (σ : Sg) : CP d mX12_wipe [.ref 135] σ (MPo σ (sp_wipe (mv σ))) := by
  refine con_of (by decide) (catL rfl) (Nat.le_of_ble_eq_true rfl) ?_
  intro μ ω C hr
  have C : Cx μ ω "TowFieldModel" cX12_wipe 2 d := C
  have hr : (mH μ).sig.returnType = some .int := hr
  show G μ ω (RQ μ ω (pP (MPo σ (sp_wipe (mv σ))))) 0 [some (.ref 135), none] [] (mk σ) 0 0
  refine g_al0n (pc := 0) C dX12_wipe_0 ?_
  refine s_getI (pc := 1) C fX12_223 h135 rfl dX12_wipe_1 ?_
  refine g_is1n (pc := 4) C dX12_wipe_4 ?_
  refine g_al0n (pc := 5) C dX12_wipe_5 ?_
  refine g_iconst (pc := 6) (v := 0) C dX12_wipe_6 (by decide) ?_
  refine s_putI (pc := 7) C pX12_223 h135 rfl dX12_wipe_7 ?_
  refine g_il1n (pc := 10) C dX12_wipe_10 ?_
  exact r_P C hr dX12_wipe_11 ⟨rfl, rfl, frU (by decide) (fun _ _ => rfl), mtU (by decide) id⟩

theorem m_tear {d : Nat} (hd : 3 ≤ d) (σ : Sg) : CP d mX12_tear [.ref 135] σ (MPo σ (sp_tear (mv σ))) := by
  refine con_of (by decide) (catL rfl) (Nat.le_of_ble_eq_true rfl) ?_
  intro μ ω C hr
  have C : Cx μ ω "TowFieldModel" cX12_tear 2 d := C
  have hr : (mH μ).sig.returnType = some .int := hr
  show G μ ω (RQ μ ω (pP (MPo σ (sp_tear (mv σ))))) 0 [some (.ref 135), none] [] (mk σ) 0 0
  refine g_al0n (pc := 0) C dX12_tear_0 ?_
  refine s_getI (pc := 1) C fX12_304 h135 rfl dX12_tear_1 ?_
  refine g_if_eq (pc := 4) (tgt := 11) C dX12_tear_4 (by decide) (fun c_4 => ?_) (fun c_4 => ?_)
  · refine g_iconst (pc := 11) (v := 0) C dX12_tear_11 (by decide) ?_
    refine g_is1n (pc := 12) C dX12_tear_12 ?_
    refine g_al0n (pc := 13) C dX12_tear_13 ?_
    refine g_iconst (pc := 14) (v := 0) C dX12_tear_14 (by decide) ?_
    refine s_putZ (pc := 15) C (by decide) pX12_304 h135 rfl dX12_tear_15 ?_
    refine g_il1n (pc := 18) C dX12_tear_18 ?_
    exact r_P C hr dX12_tear_19 ⟨by simp only [sp_tear, mv, aH, c_4, if_true, if_false], rfl, frU (by decide) (fun _ _ => rfl), mtU (by decide) id⟩
  · refine g_iconst (pc := 7) (v := 1) C dX12_tear_7 (by decide) ?_
    refine g_goto (pc := 8) (tgt := 12) C dX12_tear_8 (by decide) ?_
    refine g_is1n (pc := 12) C dX12_tear_12 ?_
    refine g_al0n (pc := 13) C dX12_tear_13 ?_
    refine g_iconst (pc := 14) (v := 0) C dX12_tear_14 (by decide) ?_
    refine s_putZ (pc := 15) C (by decide) pX12_304 h135 rfl dX12_tear_15 ?_
    refine g_il1n (pc := 18) C dX12_tear_18 ?_
    exact r_P C hr dX12_tear_19 ⟨by simp only [sp_tear, mv, aH, c_4, if_true, if_false], rfl, frU (by decide) (fun _ _ => rfl), mtU (by decide) id⟩

theorem m_rule {d : Nat} (hd : 3 ≤ d) (σ : Sg) (hI : INV (σ 136)) (w v : Int32) : CP d mX12_rule [.ref 135, .int w, .int v] σ (MPo σ (sp_rule (mv σ) w v)) := by
  refine con_of (by decide) (catL rfl) (Nat.le_of_ble_eq_true rfl) ?_
  intro μ ω C hr
  have C : Cx μ ω "TowFieldModel" cX12_rule 4 d := C
  have hr : (mH μ).sig.returnType = some .int := hr
  show G μ ω (RQ μ ω (pP (MPo σ (sp_rule (mv σ) w v)))) 0 [some (.ref 135), some (.int w), some (.int v), none] [] (mk σ) 0 0
  refine g_il1n (pc := 0) C dX12_rule_0 ?_
  refine g_if_ne (pc := 1) (tgt := 14) C dX12_rule_1 (by decide) (fun c_1 => ?_) (fun c_1 => ?_)
  · refine g_il1n (pc := 14) C dX12_rule_14 ?_
    refine g_iconst (pc := 15) (v := 1) C dX12_rule_15 (by decide) ?_
    refine g_icmp_ne (pc := 16) (tgt := 30) C dX12_rule_16 (by decide) (fun c_16 => ?_) (fun c_16 => ?_)
    · refine g_il1n (pc := 30) C dX12_rule_30 ?_
      refine g_iconst (pc := 31) (v := 2) C dX12_rule_31 (by decide) ?_
      refine g_icmp_ne (pc := 32) (tgt := 45) C dX12_rule_32 (by decide) (fun c_32 => ?_) (fun c_32 => ?_)
      · refine g_il1n (pc := 45) C dX12_rule_45 ?_
        refine g_iconst (pc := 46) (v := 3) C dX12_rule_46 (by decide) ?_
        refine g_icmp_ne (pc := 47) (tgt := 64) C dX12_rule_47 (by decide) (fun c_47 => ?_) (fun c_47 => ?_)
        · refine g_iconst (pc := 64) (v := 0) C dX12_rule_64 (by decide) ?_
          refine g_is3n (pc := 65) C dX12_rule_65 ?_
          refine g_il3n (pc := 66) C dX12_rule_66 ?_
          refine g_if_eq (pc := 67) (tgt := 82) C dX12_rule_67 (by decide) (fun _ => ?_) (fun c => absurd c (by decide))
          refine g_al0n (pc := 82) C dX12_rule_82 ?_
          refine g_ldc (pc := 83) C dX12_rule_83 kX12_57 ?_
          refine s_VI (pc := 85) (st := []) C h135 rfl (c_X12_finding (d := d - 1) (by omega) σ (i := 0) (by decide) (w := ((-1000001))) (by decide)) (by omega) lX12_62 dX12_rule_85 rfl (Nat.le_of_ble_eq_true rfl) rfl ?_
          refine r_P C hr dX12_rule_88 ⟨?_, ?_, ?_, ?_⟩
          · first | (simp only [sp_rule, mv, aN, aF, aK, aH, aT, aS, aW, aZ, aU, FB, fnd, becS, sN, c_1, c_16, c_32, c_47, eq_self, ne_eq, not_true_eq_false, not_false_eq_true, Classical.not_not, decide_true, decide_false, and_true, true_and, and_false, false_and, and_self, or_true, true_or, or_false, false_or, or_self, if_true, if_false, ite_true, ite_false, Bool.eq_false_iff, Bool.not_eq_eq_eq_not, Bool.true_eq_false, Bool.false_eq_true, reduceCtorEq]; done) | (simp only [sp_rule, mv, aN, aF, aK, aH, aT, aS, aW, aZ, aU, FB, fnd, becS, sN, c_1, c_16, c_32, c_47, eq_self, ne_eq, not_true_eq_false, not_false_eq_true, Classical.not_not, decide_true, decide_false, and_true, true_and, and_false, false_and, and_self, or_true, true_or, or_false, false_or, or_self, if_true, if_false, ite_true, ite_false, Bool.eq_false_iff, Bool.not_eq_eq_eq_not, Bool.true_eq_false, Bool.false_eq_true, reduceCtorEq]; skip; done) | (simp only [sp_rule, mv, aN, aF, aK, aH, aT, aS, aW, aZ, aU, FB, fnd, becS, sN, c_1, c_16, c_32, c_47, eq_self, ne_eq, not_true_eq_false, not_false_eq_true, Classical.not_not, decide_true, decide_false, and_true, true_and, and_false, false_and, and_self, or_true, true_or, or_false, false_or, or_self, if_true, if_false, ite_true, ite_false, Bool.eq_false_iff, Bool.not_eq_eq_eq_not, Bool.true_eq_false, Bool.false_eq_true, reduceCtorEq]; rfl)
          · try simp only [mv_now, mv_fnd]
            first | (simp only [sp_rule, mv, aN, aF, aK, aH, aT, aS, aW, aZ, aU, FB, fnd, becS, sN, c_1, c_16, c_32, c_47, eq_self, ne_eq, not_true_eq_false, not_false_eq_true, Classical.not_not, decide_true, decide_false, and_true, true_and, and_false, false_and, and_self, or_true, true_or, or_false, false_or, or_self, if_true, if_false, ite_true, ite_false, Bool.eq_false_iff, Bool.not_eq_eq_eq_not, Bool.true_eq_false, Bool.false_eq_true, reduceCtorEq]; done) | (simp only [sp_rule, mv, aN, aF, aK, aH, aT, aS, aW, aZ, aU, FB, fnd, becS, sN, c_1, c_16, c_32, c_47, eq_self, ne_eq, not_true_eq_false, not_false_eq_true, Classical.not_not, decide_true, decide_false, and_true, true_and, and_false, false_and, and_self, or_true, true_or, or_false, false_or, or_self, if_true, if_false, ite_true, ite_false, Bool.eq_false_iff, Bool.not_eq_eq_eq_not, Bool.true_eq_false, Bool.false_eq_true, reduceCtorEq]; skip; done) | (simp only [sp_rule, mv, aN, aF, aK, aH, aT, aS, aW, aZ, aU, FB, fnd, becS, sN, c_1, c_16, c_32, c_47, eq_self, ne_eq, not_true_eq_false, not_false_eq_true, Classical.not_not, decide_true, decide_false, and_true, true_and, and_false, false_and, and_self, or_true, true_or, or_false, false_or, or_self, if_true, if_false, ite_true, ite_false, Bool.eq_false_iff, Bool.not_eq_eq_eq_not, Bool.true_eq_false, Bool.false_eq_true, reduceCtorEq]; rfl)
          · repeat first | exact (fun _ _ => rfl) | refine frU (by decide) ?_
          · repeat first | exact id | refine mtU (by decide) ?_
        · subst c_47
          refine g_il2n (pc := 50) C dX12_rule_50 ?_
          refine g_iconst (pc := 51) (v := 0) C dX12_rule_51 (by decide) ?_
          refine g_bipush (pc := 52) (v := 20) C dX12_rule_52 (by decide) ?_
          refine s_SB (pc := 54) (st := []) C (c_X12_within (d := d - 1) (by omega) σ v 0 20) (by omega) lX12_58 dX12_rule_54 rfl (Nat.le_of_ble_eq_true rfl) rfl (fun b_54 => ?_) (fun b_54 => ?_)
          · refine g_if_eq (pc := 57) (tgt := 64) C dX12_rule_57 (by decide) (fun c => absurd c (by decide)) (fun _ => ?_)
            refine g_iconst (pc := 60) (v := 1) C dX12_rule_60 (by decide) ?_
            refine g_goto (pc := 61) (tgt := 65) C dX12_rule_61 (by decide) ?_
            refine g_is3n (pc := 65) C dX12_rule_65 ?_
            refine g_il3n (pc := 66) C dX12_rule_66 ?_
            refine g_if_eq (pc := 67) (tgt := 82) C dX12_rule_67 (by decide) (fun c => absurd c (by decide)) (fun _ => ?_)
            refine g_al0n (pc := 70) C dX12_rule_70 ?_
            refine g_bipush (pc := 71) (v := 26) C dX12_rule_71 (by decide) ?_
            refine g_il1n (pc := 73) C dX12_rule_73 ?_
            refine g_iadd (pc := 74) C dX12_rule_74 ?_
            refine g_il2n (pc := 75) C dX12_rule_75 ?_
            refine s_VI (pc := 76) (st := []) C h135 rfl (c_X12_becomeE (d := d - 1) (by omega) σ (q := 29) (by omega) (by first | (simp only [ixl, nI_add, pk_mul]; done) | rfl | decide) v) (by omega) lX12_103 dX12_rule_76 rfl (Nat.le_of_ble_eq_true rfl) rfl ?_
            refine g_goto (pc := 79) (tgt := 88) C dX12_rule_79 (by decide) ?_
            refine r_P C hr dX12_rule_88 ⟨?_, ?_, ?_, ?_⟩
            · first | (simp only [sp_rule, mv, aN, aF, aK, aH, aT, aS, aW, aZ, aU, FB, fnd, becS, sN, b_54, if_neg (show ¬ (3 : Int32) = 0 by decide), if_neg (show ¬ (3 : Int32) = 1 by decide), if_neg (show ¬ (3 : Int32) = 2 by decide), eq_self, ne_eq, not_true_eq_false, not_false_eq_true, Classical.not_not, decide_true, decide_false, and_true, true_and, and_false, false_and, and_self, or_true, true_or, or_false, false_or, or_self, if_true, if_false, ite_true, ite_false, Bool.eq_false_iff, Bool.not_eq_eq_eq_not, Bool.true_eq_false, Bool.false_eq_true, reduceCtorEq]; done) | (simp only [sp_rule, mv, aN, aF, aK, aH, aT, aS, aW, aZ, aU, FB, fnd, becS, sN, b_54, if_neg (show ¬ (3 : Int32) = 0 by decide), if_neg (show ¬ (3 : Int32) = 1 by decide), if_neg (show ¬ (3 : Int32) = 2 by decide), eq_self, ne_eq, not_true_eq_false, not_false_eq_true, Classical.not_not, decide_true, decide_false, and_true, true_and, and_false, false_and, and_self, or_true, true_or, or_false, false_or, or_self, if_true, if_false, ite_true, ite_false, Bool.eq_false_iff, Bool.not_eq_eq_eq_not, Bool.true_eq_false, Bool.false_eq_true, reduceCtorEq]; rw [show ((3 : Int32).toNatClampNeg) = 3 by decide]; done) | (simp only [sp_rule, mv, aN, aF, aK, aH, aT, aS, aW, aZ, aU, FB, fnd, becS, sN, b_54, if_neg (show ¬ (3 : Int32) = 0 by decide), if_neg (show ¬ (3 : Int32) = 1 by decide), if_neg (show ¬ (3 : Int32) = 2 by decide), eq_self, ne_eq, not_true_eq_false, not_false_eq_true, Classical.not_not, decide_true, decide_false, and_true, true_and, and_false, false_and, and_self, or_true, true_or, or_false, false_or, or_self, if_true, if_false, ite_true, ite_false, Bool.eq_false_iff, Bool.not_eq_eq_eq_not, Bool.true_eq_false, Bool.false_eq_true, reduceCtorEq]; rfl)
            · try simp only [mv_now, mv_fnd]
              first | (simp only [sp_rule, mv, aN, aF, aK, aH, aT, aS, aW, aZ, aU, FB, fnd, becS, sN, b_54, if_neg (show ¬ (3 : Int32) = 0 by decide), if_neg (show ¬ (3 : Int32) = 1 by decide), if_neg (show ¬ (3 : Int32) = 2 by decide), eq_self, ne_eq, not_true_eq_false, not_false_eq_true, Classical.not_not, decide_true, decide_false, and_true, true_and, and_false, false_and, and_self, or_true, true_or, or_false, false_or, or_self, if_true, if_false, ite_true, ite_false, Bool.eq_false_iff, Bool.not_eq_eq_eq_not, Bool.true_eq_false, Bool.false_eq_true, reduceCtorEq]; done) | (simp only [sp_rule, mv, aN, aF, aK, aH, aT, aS, aW, aZ, aU, FB, fnd, becS, sN, b_54, if_neg (show ¬ (3 : Int32) = 0 by decide), if_neg (show ¬ (3 : Int32) = 1 by decide), if_neg (show ¬ (3 : Int32) = 2 by decide), eq_self, ne_eq, not_true_eq_false, not_false_eq_true, Classical.not_not, decide_true, decide_false, and_true, true_and, and_false, false_and, and_self, or_true, true_or, or_false, false_or, or_self, if_true, if_false, ite_true, ite_false, Bool.eq_false_iff, Bool.not_eq_eq_eq_not, Bool.true_eq_false, Bool.false_eq_true, reduceCtorEq]; rw [show ((3 : Int32).toNatClampNeg) = 3 by decide]; done) | (simp only [sp_rule, mv, aN, aF, aK, aH, aT, aS, aW, aZ, aU, FB, fnd, becS, sN, b_54, if_neg (show ¬ (3 : Int32) = 0 by decide), if_neg (show ¬ (3 : Int32) = 1 by decide), if_neg (show ¬ (3 : Int32) = 2 by decide), eq_self, ne_eq, not_true_eq_false, not_false_eq_true, Classical.not_not, decide_true, decide_false, and_true, true_and, and_false, false_and, and_self, or_true, true_or, or_false, false_or, or_self, if_true, if_false, ite_true, ite_false, Bool.eq_false_iff, Bool.not_eq_eq_eq_not, Bool.true_eq_false, Bool.false_eq_true, reduceCtorEq]; rfl)
            · repeat first | exact (fun _ _ => rfl) | refine frU (by decide) ?_
            · repeat first | exact id | refine mtU (by decide) ?_
          · refine g_if_eq (pc := 57) (tgt := 64) C dX12_rule_57 (by decide) (fun _ => ?_) (fun c => absurd c (by decide))
            refine g_iconst (pc := 64) (v := 0) C dX12_rule_64 (by decide) ?_
            refine g_is3n (pc := 65) C dX12_rule_65 ?_
            refine g_il3n (pc := 66) C dX12_rule_66 ?_
            refine g_if_eq (pc := 67) (tgt := 82) C dX12_rule_67 (by decide) (fun _ => ?_) (fun c => absurd c (by decide))
            refine g_al0n (pc := 82) C dX12_rule_82 ?_
            refine g_ldc (pc := 83) C dX12_rule_83 kX12_57 ?_
            refine s_VI (pc := 85) (st := []) C h135 rfl (c_X12_finding (d := d - 1) (by omega) σ (i := 0) (by decide) (w := ((-1000001))) (by decide)) (by omega) lX12_62 dX12_rule_85 rfl (Nat.le_of_ble_eq_true rfl) rfl ?_
            refine r_P C hr dX12_rule_88 ⟨?_, ?_, ?_, ?_⟩
            · first | (simp only [sp_rule, mv, aN, aF, aK, aH, aT, aS, aW, aZ, aU, FB, fnd, becS, sN, b_54, if_neg (show ¬ (3 : Int32) = 0 by decide), if_neg (show ¬ (3 : Int32) = 1 by decide), if_neg (show ¬ (3 : Int32) = 2 by decide), eq_self, ne_eq, not_true_eq_false, not_false_eq_true, Classical.not_not, decide_true, decide_false, and_true, true_and, and_false, false_and, and_self, or_true, true_or, or_false, false_or, or_self, if_true, if_false, ite_true, ite_false, Bool.eq_false_iff, Bool.not_eq_eq_eq_not, Bool.true_eq_false, Bool.false_eq_true, reduceCtorEq]; done) | (simp only [sp_rule, mv, aN, aF, aK, aH, aT, aS, aW, aZ, aU, FB, fnd, becS, sN, b_54, if_neg (show ¬ (3 : Int32) = 0 by decide), if_neg (show ¬ (3 : Int32) = 1 by decide), if_neg (show ¬ (3 : Int32) = 2 by decide), eq_self, ne_eq, not_true_eq_false, not_false_eq_true, Classical.not_not, decide_true, decide_false, and_true, true_and, and_false, false_and, and_self, or_true, true_or, or_false, false_or, or_self, if_true, if_false, ite_true, ite_false, Bool.eq_false_iff, Bool.not_eq_eq_eq_not, Bool.true_eq_false, Bool.false_eq_true, reduceCtorEq]; rw [show ((3 : Int32).toNatClampNeg) = 3 by decide]; done) | (simp only [sp_rule, mv, aN, aF, aK, aH, aT, aS, aW, aZ, aU, FB, fnd, becS, sN, b_54, if_neg (show ¬ (3 : Int32) = 0 by decide), if_neg (show ¬ (3 : Int32) = 1 by decide), if_neg (show ¬ (3 : Int32) = 2 by decide), eq_self, ne_eq, not_true_eq_false, not_false_eq_true, Classical.not_not, decide_true, decide_false, and_true, true_and, and_false, false_and, and_self, or_true, true_or, or_false, false_or, or_self, if_true, if_false, ite_true, ite_false, Bool.eq_false_iff, Bool.not_eq_eq_eq_not, Bool.true_eq_false, Bool.false_eq_true, reduceCtorEq]; rfl)
            · try simp only [mv_now, mv_fnd]
              first | (simp only [sp_rule, mv, aN, aF, aK, aH, aT, aS, aW, aZ, aU, FB, fnd, becS, sN, b_54, if_neg (show ¬ (3 : Int32) = 0 by decide), if_neg (show ¬ (3 : Int32) = 1 by decide), if_neg (show ¬ (3 : Int32) = 2 by decide), eq_self, ne_eq, not_true_eq_false, not_false_eq_true, Classical.not_not, decide_true, decide_false, and_true, true_and, and_false, false_and, and_self, or_true, true_or, or_false, false_or, or_self, if_true, if_false, ite_true, ite_false, Bool.eq_false_iff, Bool.not_eq_eq_eq_not, Bool.true_eq_false, Bool.false_eq_true, reduceCtorEq]; done) | (simp only [sp_rule, mv, aN, aF, aK, aH, aT, aS, aW, aZ, aU, FB, fnd, becS, sN, b_54, if_neg (show ¬ (3 : Int32) = 0 by decide), if_neg (show ¬ (3 : Int32) = 1 by decide), if_neg (show ¬ (3 : Int32) = 2 by decide), eq_self, ne_eq, not_true_eq_false, not_false_eq_true, Classical.not_not, decide_true, decide_false, and_true, true_and, and_false, false_and, and_self, or_true, true_or, or_false, false_or, or_self, if_true, if_false, ite_true, ite_false, Bool.eq_false_iff, Bool.not_eq_eq_eq_not, Bool.true_eq_false, Bool.false_eq_true, reduceCtorEq]; rw [show ((3 : Int32).toNatClampNeg) = 3 by decide]; done) | (simp only [sp_rule, mv, aN, aF, aK, aH, aT, aS, aW, aZ, aU, FB, fnd, becS, sN, b_54, if_neg (show ¬ (3 : Int32) = 0 by decide), if_neg (show ¬ (3 : Int32) = 1 by decide), if_neg (show ¬ (3 : Int32) = 2 by decide), eq_self, ne_eq, not_true_eq_false, not_false_eq_true, Classical.not_not, decide_true, decide_false, and_true, true_and, and_false, false_and, and_self, or_true, true_or, or_false, false_or, or_self, if_true, if_false, ite_true, ite_false, Bool.eq_false_iff, Bool.not_eq_eq_eq_not, Bool.true_eq_false, Bool.false_eq_true, reduceCtorEq]; rfl)
            · repeat first | exact (fun _ _ => rfl) | refine frU (by decide) ?_
            · repeat first | exact id | refine mtU (by decide) ?_
      · subst c_32
        refine g_il2n (pc := 35) C dX12_rule_35 ?_
        refine g_iconst (pc := 36) (v := 1) C dX12_rule_36 (by decide) ?_
        refine g_bipush (pc := 37) (v := 60) C dX12_rule_37 (by decide) ?_
        refine s_SB (pc := 39) (st := []) C (c_X12_within (d := d - 1) (by omega) σ v 1 60) (by omega) lX12_58 dX12_rule_39 rfl (Nat.le_of_ble_eq_true rfl) rfl (fun b_39 => ?_) (fun b_39 => ?_)
        · refine g_goto (pc := 42) (tgt := 65) C dX12_rule_42 (by decide) ?_
          refine g_is3n (pc := 65) C dX12_rule_65 ?_
          refine g_il3n (pc := 66) C dX12_rule_66 ?_
          refine g_if_eq (pc := 67) (tgt := 82) C dX12_rule_67 (by decide) (fun c => absurd c (by decide)) (fun _ => ?_)
          refine g_al0n (pc := 70) C dX12_rule_70 ?_
          refine g_bipush (pc := 71) (v := 26) C dX12_rule_71 (by decide) ?_
          refine g_il1n (pc := 73) C dX12_rule_73 ?_
          refine g_iadd (pc := 74) C dX12_rule_74 ?_
          refine g_il2n (pc := 75) C dX12_rule_75 ?_
          refine s_VI (pc := 76) (st := []) C h135 rfl (c_X12_becomeE (d := d - 1) (by omega) σ (q := 28) (by omega) (by first | (simp only [ixl, nI_add, pk_mul]; done) | rfl | decide) v) (by omega) lX12_103 dX12_rule_76 rfl (Nat.le_of_ble_eq_true rfl) rfl ?_
          refine g_goto (pc := 79) (tgt := 88) C dX12_rule_79 (by decide) ?_
          refine r_P C hr dX12_rule_88 ⟨?_, ?_, ?_, ?_⟩
          · first | (simp only [sp_rule, mv, aN, aF, aK, aH, aT, aS, aW, aZ, aU, FB, fnd, becS, sN, b_39, if_neg (show ¬ (2 : Int32) = 0 by decide), if_neg (show ¬ (2 : Int32) = 1 by decide), eq_self, ne_eq, not_true_eq_false, not_false_eq_true, Classical.not_not, decide_true, decide_false, and_true, true_and, and_false, false_and, and_self, or_true, true_or, or_false, false_or, or_self, if_true, if_false, ite_true, ite_false, Bool.eq_false_iff, Bool.not_eq_eq_eq_not, Bool.true_eq_false, Bool.false_eq_true, reduceCtorEq]; done) | (simp only [sp_rule, mv, aN, aF, aK, aH, aT, aS, aW, aZ, aU, FB, fnd, becS, sN, b_39, if_neg (show ¬ (2 : Int32) = 0 by decide), if_neg (show ¬ (2 : Int32) = 1 by decide), eq_self, ne_eq, not_true_eq_false, not_false_eq_true, Classical.not_not, decide_true, decide_false, and_true, true_and, and_false, false_and, and_self, or_true, true_or, or_false, false_or, or_self, if_true, if_false, ite_true, ite_false, Bool.eq_false_iff, Bool.not_eq_eq_eq_not, Bool.true_eq_false, Bool.false_eq_true, reduceCtorEq]; rw [show ((2 : Int32).toNatClampNeg) = 2 by decide]; done) | (simp only [sp_rule, mv, aN, aF, aK, aH, aT, aS, aW, aZ, aU, FB, fnd, becS, sN, b_39, if_neg (show ¬ (2 : Int32) = 0 by decide), if_neg (show ¬ (2 : Int32) = 1 by decide), eq_self, ne_eq, not_true_eq_false, not_false_eq_true, Classical.not_not, decide_true, decide_false, and_true, true_and, and_false, false_and, and_self, or_true, true_or, or_false, false_or, or_self, if_true, if_false, ite_true, ite_false, Bool.eq_false_iff, Bool.not_eq_eq_eq_not, Bool.true_eq_false, Bool.false_eq_true, reduceCtorEq]; rfl)
          · try simp only [mv_now, mv_fnd]
            first | (simp only [sp_rule, mv, aN, aF, aK, aH, aT, aS, aW, aZ, aU, FB, fnd, becS, sN, b_39, if_neg (show ¬ (2 : Int32) = 0 by decide), if_neg (show ¬ (2 : Int32) = 1 by decide), eq_self, ne_eq, not_true_eq_false, not_false_eq_true, Classical.not_not, decide_true, decide_false, and_true, true_and, and_false, false_and, and_self, or_true, true_or, or_false, false_or, or_self, if_true, if_false, ite_true, ite_false, Bool.eq_false_iff, Bool.not_eq_eq_eq_not, Bool.true_eq_false, Bool.false_eq_true, reduceCtorEq]; done) | (simp only [sp_rule, mv, aN, aF, aK, aH, aT, aS, aW, aZ, aU, FB, fnd, becS, sN, b_39, if_neg (show ¬ (2 : Int32) = 0 by decide), if_neg (show ¬ (2 : Int32) = 1 by decide), eq_self, ne_eq, not_true_eq_false, not_false_eq_true, Classical.not_not, decide_true, decide_false, and_true, true_and, and_false, false_and, and_self, or_true, true_or, or_false, false_or, or_self, if_true, if_false, ite_true, ite_false, Bool.eq_false_iff, Bool.not_eq_eq_eq_not, Bool.true_eq_false, Bool.false_eq_true, reduceCtorEq]; rw [show ((2 : Int32).toNatClampNeg) = 2 by decide]; done) | (simp only [sp_rule, mv, aN, aF, aK, aH, aT, aS, aW, aZ, aU, FB, fnd, becS, sN, b_39, if_neg (show ¬ (2 : Int32) = 0 by decide), if_neg (show ¬ (2 : Int32) = 1 by decide), eq_self, ne_eq, not_true_eq_false, not_false_eq_true, Classical.not_not, decide_true, decide_false, and_true, true_and, and_false, false_and, and_self, or_true, true_or, or_false, false_or, or_self, if_true, if_false, ite_true, ite_false, Bool.eq_false_iff, Bool.not_eq_eq_eq_not, Bool.true_eq_false, Bool.false_eq_true, reduceCtorEq]; rfl)
          · repeat first | exact (fun _ _ => rfl) | refine frU (by decide) ?_
          · repeat first | exact id | refine mtU (by decide) ?_
        · refine g_goto (pc := 42) (tgt := 65) C dX12_rule_42 (by decide) ?_
          refine g_is3n (pc := 65) C dX12_rule_65 ?_
          refine g_il3n (pc := 66) C dX12_rule_66 ?_
          refine g_if_eq (pc := 67) (tgt := 82) C dX12_rule_67 (by decide) (fun _ => ?_) (fun c => absurd c (by decide))
          refine g_al0n (pc := 82) C dX12_rule_82 ?_
          refine g_ldc (pc := 83) C dX12_rule_83 kX12_57 ?_
          refine s_VI (pc := 85) (st := []) C h135 rfl (c_X12_finding (d := d - 1) (by omega) σ (i := 0) (by decide) (w := ((-1000001))) (by decide)) (by omega) lX12_62 dX12_rule_85 rfl (Nat.le_of_ble_eq_true rfl) rfl ?_
          refine r_P C hr dX12_rule_88 ⟨?_, ?_, ?_, ?_⟩
          · first | (simp only [sp_rule, mv, aN, aF, aK, aH, aT, aS, aW, aZ, aU, FB, fnd, becS, sN, b_39, if_neg (show ¬ (2 : Int32) = 0 by decide), if_neg (show ¬ (2 : Int32) = 1 by decide), eq_self, ne_eq, not_true_eq_false, not_false_eq_true, Classical.not_not, decide_true, decide_false, and_true, true_and, and_false, false_and, and_self, or_true, true_or, or_false, false_or, or_self, if_true, if_false, ite_true, ite_false, Bool.eq_false_iff, Bool.not_eq_eq_eq_not, Bool.true_eq_false, Bool.false_eq_true, reduceCtorEq]; done) | (simp only [sp_rule, mv, aN, aF, aK, aH, aT, aS, aW, aZ, aU, FB, fnd, becS, sN, b_39, if_neg (show ¬ (2 : Int32) = 0 by decide), if_neg (show ¬ (2 : Int32) = 1 by decide), eq_self, ne_eq, not_true_eq_false, not_false_eq_true, Classical.not_not, decide_true, decide_false, and_true, true_and, and_false, false_and, and_self, or_true, true_or, or_false, false_or, or_self, if_true, if_false, ite_true, ite_false, Bool.eq_false_iff, Bool.not_eq_eq_eq_not, Bool.true_eq_false, Bool.false_eq_true, reduceCtorEq]; rw [show ((2 : Int32).toNatClampNeg) = 2 by decide]; done) | (simp only [sp_rule, mv, aN, aF, aK, aH, aT, aS, aW, aZ, aU, FB, fnd, becS, sN, b_39, if_neg (show ¬ (2 : Int32) = 0 by decide), if_neg (show ¬ (2 : Int32) = 1 by decide), eq_self, ne_eq, not_true_eq_false, not_false_eq_true, Classical.not_not, decide_true, decide_false, and_true, true_and, and_false, false_and, and_self, or_true, true_or, or_false, false_or, or_self, if_true, if_false, ite_true, ite_false, Bool.eq_false_iff, Bool.not_eq_eq_eq_not, Bool.true_eq_false, Bool.false_eq_true, reduceCtorEq]; rfl)
          · try simp only [mv_now, mv_fnd]
            first | (simp only [sp_rule, mv, aN, aF, aK, aH, aT, aS, aW, aZ, aU, FB, fnd, becS, sN, b_39, if_neg (show ¬ (2 : Int32) = 0 by decide), if_neg (show ¬ (2 : Int32) = 1 by decide), eq_self, ne_eq, not_true_eq_false, not_false_eq_true, Classical.not_not, decide_true, decide_false, and_true, true_and, and_false, false_and, and_self, or_true, true_or, or_false, false_or, or_self, if_true, if_false, ite_true, ite_false, Bool.eq_false_iff, Bool.not_eq_eq_eq_not, Bool.true_eq_false, Bool.false_eq_true, reduceCtorEq]; done) | (simp only [sp_rule, mv, aN, aF, aK, aH, aT, aS, aW, aZ, aU, FB, fnd, becS, sN, b_39, if_neg (show ¬ (2 : Int32) = 0 by decide), if_neg (show ¬ (2 : Int32) = 1 by decide), eq_self, ne_eq, not_true_eq_false, not_false_eq_true, Classical.not_not, decide_true, decide_false, and_true, true_and, and_false, false_and, and_self, or_true, true_or, or_false, false_or, or_self, if_true, if_false, ite_true, ite_false, Bool.eq_false_iff, Bool.not_eq_eq_eq_not, Bool.true_eq_false, Bool.false_eq_true, reduceCtorEq]; rw [show ((2 : Int32).toNatClampNeg) = 2 by decide]; done) | (simp only [sp_rule, mv, aN, aF, aK, aH, aT, aS, aW, aZ, aU, FB, fnd, becS, sN, b_39, if_neg (show ¬ (2 : Int32) = 0 by decide), if_neg (show ¬ (2 : Int32) = 1 by decide), eq_self, ne_eq, not_true_eq_false, not_false_eq_true, Classical.not_not, decide_true, decide_false, and_true, true_and, and_false, false_and, and_self, or_true, true_or, or_false, false_or, or_self, if_true, if_false, ite_true, ite_false, Bool.eq_false_iff, Bool.not_eq_eq_eq_not, Bool.true_eq_false, Bool.false_eq_true, reduceCtorEq]; rfl)
          · repeat first | exact (fun _ _ => rfl) | refine frU (by decide) ?_
          · repeat first | exact id | refine mtU (by decide) ?_
    · subst c_16
      refine g_il2n (pc := 19) C dX12_rule_19 ?_
      refine g_iconst (pc := 20) (v := 0) C dX12_rule_20 (by decide) ?_
      refine g_sipush (pc := 21) (v := 900) C dX12_rule_21 (by decide) ?_
      refine s_SB (pc := 24) (st := []) C (c_X12_within (d := d - 1) (by omega) σ v 0 900) (by omega) lX12_58 dX12_rule_24 rfl (Nat.le_of_ble_eq_true rfl) rfl (fun b_24 => ?_) (fun b_24 => ?_)
      · refine g_goto (pc := 27) (tgt := 65) C dX12_rule_27 (by decide) ?_
        refine g_is3n (pc := 65) C dX12_rule_65 ?_
        refine g_il3n (pc := 66) C dX12_rule_66 ?_
        refine g_if_eq (pc := 67) (tgt := 82) C dX12_rule_67 (by decide) (fun c => absurd c (by decide)) (fun _ => ?_)
        refine g_al0n (pc := 70) C dX12_rule_70 ?_
        refine g_bipush (pc := 71) (v := 26) C dX12_rule_71 (by decide) ?_
        refine g_il1n (pc := 73) C dX12_rule_73 ?_
        refine g_iadd (pc := 74) C dX12_rule_74 ?_
        refine g_il2n (pc := 75) C dX12_rule_75 ?_
        refine s_VI (pc := 76) (st := []) C h135 rfl (c_X12_becomeE (d := d - 1) (by omega) σ (q := 27) (by omega) (by first | (simp only [ixl, nI_add, pk_mul]; done) | rfl | decide) v) (by omega) lX12_103 dX12_rule_76 rfl (Nat.le_of_ble_eq_true rfl) rfl ?_
        refine g_goto (pc := 79) (tgt := 88) C dX12_rule_79 (by decide) ?_
        refine r_P C hr dX12_rule_88 ⟨?_, ?_, ?_, ?_⟩
        · first | (simp only [sp_rule, mv, aN, aF, aK, aH, aT, aS, aW, aZ, aU, FB, fnd, becS, sN, b_24, if_neg (show ¬ (1 : Int32) = 0 by decide), eq_self, ne_eq, not_true_eq_false, not_false_eq_true, Classical.not_not, decide_true, decide_false, and_true, true_and, and_false, false_and, and_self, or_true, true_or, or_false, false_or, or_self, if_true, if_false, ite_true, ite_false, Bool.eq_false_iff, Bool.not_eq_eq_eq_not, Bool.true_eq_false, Bool.false_eq_true, reduceCtorEq]; done) | (simp only [sp_rule, mv, aN, aF, aK, aH, aT, aS, aW, aZ, aU, FB, fnd, becS, sN, b_24, if_neg (show ¬ (1 : Int32) = 0 by decide), eq_self, ne_eq, not_true_eq_false, not_false_eq_true, Classical.not_not, decide_true, decide_false, and_true, true_and, and_false, false_and, and_self, or_true, true_or, or_false, false_or, or_self, if_true, if_false, ite_true, ite_false, Bool.eq_false_iff, Bool.not_eq_eq_eq_not, Bool.true_eq_false, Bool.false_eq_true, reduceCtorEq]; rw [show ((1 : Int32).toNatClampNeg) = 1 by decide]; done) | (simp only [sp_rule, mv, aN, aF, aK, aH, aT, aS, aW, aZ, aU, FB, fnd, becS, sN, b_24, if_neg (show ¬ (1 : Int32) = 0 by decide), eq_self, ne_eq, not_true_eq_false, not_false_eq_true, Classical.not_not, decide_true, decide_false, and_true, true_and, and_false, false_and, and_self, or_true, true_or, or_false, false_or, or_self, if_true, if_false, ite_true, ite_false, Bool.eq_false_iff, Bool.not_eq_eq_eq_not, Bool.true_eq_false, Bool.false_eq_true, reduceCtorEq]; rfl)
        · try simp only [mv_now, mv_fnd]
          first | (simp only [sp_rule, mv, aN, aF, aK, aH, aT, aS, aW, aZ, aU, FB, fnd, becS, sN, b_24, if_neg (show ¬ (1 : Int32) = 0 by decide), eq_self, ne_eq, not_true_eq_false, not_false_eq_true, Classical.not_not, decide_true, decide_false, and_true, true_and, and_false, false_and, and_self, or_true, true_or, or_false, false_or, or_self, if_true, if_false, ite_true, ite_false, Bool.eq_false_iff, Bool.not_eq_eq_eq_not, Bool.true_eq_false, Bool.false_eq_true, reduceCtorEq]; done) | (simp only [sp_rule, mv, aN, aF, aK, aH, aT, aS, aW, aZ, aU, FB, fnd, becS, sN, b_24, if_neg (show ¬ (1 : Int32) = 0 by decide), eq_self, ne_eq, not_true_eq_false, not_false_eq_true, Classical.not_not, decide_true, decide_false, and_true, true_and, and_false, false_and, and_self, or_true, true_or, or_false, false_or, or_self, if_true, if_false, ite_true, ite_false, Bool.eq_false_iff, Bool.not_eq_eq_eq_not, Bool.true_eq_false, Bool.false_eq_true, reduceCtorEq]; rw [show ((1 : Int32).toNatClampNeg) = 1 by decide]; done) | (simp only [sp_rule, mv, aN, aF, aK, aH, aT, aS, aW, aZ, aU, FB, fnd, becS, sN, b_24, if_neg (show ¬ (1 : Int32) = 0 by decide), eq_self, ne_eq, not_true_eq_false, not_false_eq_true, Classical.not_not, decide_true, decide_false, and_true, true_and, and_false, false_and, and_self, or_true, true_or, or_false, false_or, or_self, if_true, if_false, ite_true, ite_false, Bool.eq_false_iff, Bool.not_eq_eq_eq_not, Bool.true_eq_false, Bool.false_eq_true, reduceCtorEq]; rfl)
        · repeat first | exact (fun _ _ => rfl) | refine frU (by decide) ?_
        · repeat first | exact id | refine mtU (by decide) ?_
      · refine g_goto (pc := 27) (tgt := 65) C dX12_rule_27 (by decide) ?_
        refine g_is3n (pc := 65) C dX12_rule_65 ?_
        refine g_il3n (pc := 66) C dX12_rule_66 ?_
        refine g_if_eq (pc := 67) (tgt := 82) C dX12_rule_67 (by decide) (fun _ => ?_) (fun c => absurd c (by decide))
        refine g_al0n (pc := 82) C dX12_rule_82 ?_
        refine g_ldc (pc := 83) C dX12_rule_83 kX12_57 ?_
        refine s_VI (pc := 85) (st := []) C h135 rfl (c_X12_finding (d := d - 1) (by omega) σ (i := 0) (by decide) (w := ((-1000001))) (by decide)) (by omega) lX12_62 dX12_rule_85 rfl (Nat.le_of_ble_eq_true rfl) rfl ?_
        refine r_P C hr dX12_rule_88 ⟨?_, ?_, ?_, ?_⟩
        · first | (simp only [sp_rule, mv, aN, aF, aK, aH, aT, aS, aW, aZ, aU, FB, fnd, becS, sN, b_24, if_neg (show ¬ (1 : Int32) = 0 by decide), eq_self, ne_eq, not_true_eq_false, not_false_eq_true, Classical.not_not, decide_true, decide_false, and_true, true_and, and_false, false_and, and_self, or_true, true_or, or_false, false_or, or_self, if_true, if_false, ite_true, ite_false, Bool.eq_false_iff, Bool.not_eq_eq_eq_not, Bool.true_eq_false, Bool.false_eq_true, reduceCtorEq]; done) | (simp only [sp_rule, mv, aN, aF, aK, aH, aT, aS, aW, aZ, aU, FB, fnd, becS, sN, b_24, if_neg (show ¬ (1 : Int32) = 0 by decide), eq_self, ne_eq, not_true_eq_false, not_false_eq_true, Classical.not_not, decide_true, decide_false, and_true, true_and, and_false, false_and, and_self, or_true, true_or, or_false, false_or, or_self, if_true, if_false, ite_true, ite_false, Bool.eq_false_iff, Bool.not_eq_eq_eq_not, Bool.true_eq_false, Bool.false_eq_true, reduceCtorEq]; rw [show ((1 : Int32).toNatClampNeg) = 1 by decide]; done) | (simp only [sp_rule, mv, aN, aF, aK, aH, aT, aS, aW, aZ, aU, FB, fnd, becS, sN, b_24, if_neg (show ¬ (1 : Int32) = 0 by decide), eq_self, ne_eq, not_true_eq_false, not_false_eq_true, Classical.not_not, decide_true, decide_false, and_true, true_and, and_false, false_and, and_self, or_true, true_or, or_false, false_or, or_self, if_true, if_false, ite_true, ite_false, Bool.eq_false_iff, Bool.not_eq_eq_eq_not, Bool.true_eq_false, Bool.false_eq_true, reduceCtorEq]; rfl)
        · try simp only [mv_now, mv_fnd]
          first | (simp only [sp_rule, mv, aN, aF, aK, aH, aT, aS, aW, aZ, aU, FB, fnd, becS, sN, b_24, if_neg (show ¬ (1 : Int32) = 0 by decide), eq_self, ne_eq, not_true_eq_false, not_false_eq_true, Classical.not_not, decide_true, decide_false, and_true, true_and, and_false, false_and, and_self, or_true, true_or, or_false, false_or, or_self, if_true, if_false, ite_true, ite_false, Bool.eq_false_iff, Bool.not_eq_eq_eq_not, Bool.true_eq_false, Bool.false_eq_true, reduceCtorEq]; done) | (simp only [sp_rule, mv, aN, aF, aK, aH, aT, aS, aW, aZ, aU, FB, fnd, becS, sN, b_24, if_neg (show ¬ (1 : Int32) = 0 by decide), eq_self, ne_eq, not_true_eq_false, not_false_eq_true, Classical.not_not, decide_true, decide_false, and_true, true_and, and_false, false_and, and_self, or_true, true_or, or_false, false_or, or_self, if_true, if_false, ite_true, ite_false, Bool.eq_false_iff, Bool.not_eq_eq_eq_not, Bool.true_eq_false, Bool.false_eq_true, reduceCtorEq]; rw [show ((1 : Int32).toNatClampNeg) = 1 by decide]; done) | (simp only [sp_rule, mv, aN, aF, aK, aH, aT, aS, aW, aZ, aU, FB, fnd, becS, sN, b_24, if_neg (show ¬ (1 : Int32) = 0 by decide), eq_self, ne_eq, not_true_eq_false, not_false_eq_true, Classical.not_not, decide_true, decide_false, and_true, true_and, and_false, false_and, and_self, or_true, true_or, or_false, false_or, or_self, if_true, if_false, ite_true, ite_false, Bool.eq_false_iff, Bool.not_eq_eq_eq_not, Bool.true_eq_false, Bool.false_eq_true, reduceCtorEq]; rfl)
        · repeat first | exact (fun _ _ => rfl) | refine frU (by decide) ?_
        · repeat first | exact id | refine mtU (by decide) ?_
  · subst c_1
    refine g_il2n (pc := 4) C dX12_rule_4 ?_
    refine g_iconst (pc := 5) (v := 1) C dX12_rule_5 (by decide) ?_
    refine g_bipush (pc := 6) (v := 20) C dX12_rule_6 (by decide) ?_
    refine s_SB (pc := 8) (st := []) C (c_X12_within (d := d - 1) (by omega) σ v 1 20) (by omega) lX12_58 dX12_rule_8 rfl (Nat.le_of_ble_eq_true rfl) rfl (fun b_8 => ?_) (fun b_8 => ?_)
    · refine g_goto (pc := 11) (tgt := 65) C dX12_rule_11 (by decide) ?_
      refine g_is3n (pc := 65) C dX12_rule_65 ?_
      refine g_il3n (pc := 66) C dX12_rule_66 ?_
      refine g_if_eq (pc := 67) (tgt := 82) C dX12_rule_67 (by decide) (fun c => absurd c (by decide)) (fun _ => ?_)
      refine g_al0n (pc := 70) C dX12_rule_70 ?_
      refine g_bipush (pc := 71) (v := 26) C dX12_rule_71 (by decide) ?_
      refine g_il1n (pc := 73) C dX12_rule_73 ?_
      refine g_iadd (pc := 74) C dX12_rule_74 ?_
      refine g_il2n (pc := 75) C dX12_rule_75 ?_
      refine s_VI (pc := 76) (st := []) C h135 rfl (c_X12_becomeE (d := d - 1) (by omega) σ (q := 26) (by omega) (by first | (simp only [ixl, nI_add, pk_mul]; done) | rfl | decide) v) (by omega) lX12_103 dX12_rule_76 rfl (Nat.le_of_ble_eq_true rfl) rfl ?_
      refine g_goto (pc := 79) (tgt := 88) C dX12_rule_79 (by decide) ?_
      refine r_P C hr dX12_rule_88 ⟨?_, ?_, ?_, ?_⟩
      · first | (simp only [sp_rule, mv, aN, aF, aK, aH, aT, aS, aW, aZ, aU, FB, fnd, becS, sN, b_8, eq_self, ne_eq, not_true_eq_false, not_false_eq_true, Classical.not_not, decide_true, decide_false, and_true, true_and, and_false, false_and, and_self, or_true, true_or, or_false, false_or, or_self, if_true, if_false, ite_true, ite_false, Bool.eq_false_iff, Bool.not_eq_eq_eq_not, Bool.true_eq_false, Bool.false_eq_true, reduceCtorEq]; done) | (simp only [sp_rule, mv, aN, aF, aK, aH, aT, aS, aW, aZ, aU, FB, fnd, becS, sN, b_8, eq_self, ne_eq, not_true_eq_false, not_false_eq_true, Classical.not_not, decide_true, decide_false, and_true, true_and, and_false, false_and, and_self, or_true, true_or, or_false, false_or, or_self, if_true, if_false, ite_true, ite_false, Bool.eq_false_iff, Bool.not_eq_eq_eq_not, Bool.true_eq_false, Bool.false_eq_true, reduceCtorEq]; rw [show ((0 : Int32).toNatClampNeg) = 0 by decide]; done) | (simp only [sp_rule, mv, aN, aF, aK, aH, aT, aS, aW, aZ, aU, FB, fnd, becS, sN, b_8, eq_self, ne_eq, not_true_eq_false, not_false_eq_true, Classical.not_not, decide_true, decide_false, and_true, true_and, and_false, false_and, and_self, or_true, true_or, or_false, false_or, or_self, if_true, if_false, ite_true, ite_false, Bool.eq_false_iff, Bool.not_eq_eq_eq_not, Bool.true_eq_false, Bool.false_eq_true, reduceCtorEq]; rfl)
      · try simp only [mv_now, mv_fnd]
        first | (simp only [sp_rule, mv, aN, aF, aK, aH, aT, aS, aW, aZ, aU, FB, fnd, becS, sN, b_8, eq_self, ne_eq, not_true_eq_false, not_false_eq_true, Classical.not_not, decide_true, decide_false, and_true, true_and, and_false, false_and, and_self, or_true, true_or, or_false, false_or, or_self, if_true, if_false, ite_true, ite_false, Bool.eq_false_iff, Bool.not_eq_eq_eq_not, Bool.true_eq_false, Bool.false_eq_true, reduceCtorEq]; done) | (simp only [sp_rule, mv, aN, aF, aK, aH, aT, aS, aW, aZ, aU, FB, fnd, becS, sN, b_8, eq_self, ne_eq, not_true_eq_false, not_false_eq_true, Classical.not_not, decide_true, decide_false, and_true, true_and, and_false, false_and, and_self, or_true, true_or, or_false, false_or, or_self, if_true, if_false, ite_true, ite_false, Bool.eq_false_iff, Bool.not_eq_eq_eq_not, Bool.true_eq_false, Bool.false_eq_true, reduceCtorEq]; rw [show ((0 : Int32).toNatClampNeg) = 0 by decide]; done) | (simp only [sp_rule, mv, aN, aF, aK, aH, aT, aS, aW, aZ, aU, FB, fnd, becS, sN, b_8, eq_self, ne_eq, not_true_eq_false, not_false_eq_true, Classical.not_not, decide_true, decide_false, and_true, true_and, and_false, false_and, and_self, or_true, true_or, or_false, false_or, or_self, if_true, if_false, ite_true, ite_false, Bool.eq_false_iff, Bool.not_eq_eq_eq_not, Bool.true_eq_false, Bool.false_eq_true, reduceCtorEq]; rfl)
      · repeat first | exact (fun _ _ => rfl) | refine frU (by decide) ?_
      · repeat first | exact id | refine mtU (by decide) ?_
    · refine g_goto (pc := 11) (tgt := 65) C dX12_rule_11 (by decide) ?_
      refine g_is3n (pc := 65) C dX12_rule_65 ?_
      refine g_il3n (pc := 66) C dX12_rule_66 ?_
      refine g_if_eq (pc := 67) (tgt := 82) C dX12_rule_67 (by decide) (fun _ => ?_) (fun c => absurd c (by decide))
      refine g_al0n (pc := 82) C dX12_rule_82 ?_
      refine g_ldc (pc := 83) C dX12_rule_83 kX12_57 ?_
      refine s_VI (pc := 85) (st := []) C h135 rfl (c_X12_finding (d := d - 1) (by omega) σ (i := 0) (by decide) (w := ((-1000001))) (by decide)) (by omega) lX12_62 dX12_rule_85 rfl (Nat.le_of_ble_eq_true rfl) rfl ?_
      refine r_P C hr dX12_rule_88 ⟨?_, ?_, ?_, ?_⟩
      · first | (simp only [sp_rule, mv, aN, aF, aK, aH, aT, aS, aW, aZ, aU, FB, fnd, becS, sN, b_8, eq_self, ne_eq, not_true_eq_false, not_false_eq_true, Classical.not_not, decide_true, decide_false, and_true, true_and, and_false, false_and, and_self, or_true, true_or, or_false, false_or, or_self, if_true, if_false, ite_true, ite_false, Bool.eq_false_iff, Bool.not_eq_eq_eq_not, Bool.true_eq_false, Bool.false_eq_true, reduceCtorEq]; done) | (simp only [sp_rule, mv, aN, aF, aK, aH, aT, aS, aW, aZ, aU, FB, fnd, becS, sN, b_8, eq_self, ne_eq, not_true_eq_false, not_false_eq_true, Classical.not_not, decide_true, decide_false, and_true, true_and, and_false, false_and, and_self, or_true, true_or, or_false, false_or, or_self, if_true, if_false, ite_true, ite_false, Bool.eq_false_iff, Bool.not_eq_eq_eq_not, Bool.true_eq_false, Bool.false_eq_true, reduceCtorEq]; rw [show ((0 : Int32).toNatClampNeg) = 0 by decide]; done) | (simp only [sp_rule, mv, aN, aF, aK, aH, aT, aS, aW, aZ, aU, FB, fnd, becS, sN, b_8, eq_self, ne_eq, not_true_eq_false, not_false_eq_true, Classical.not_not, decide_true, decide_false, and_true, true_and, and_false, false_and, and_self, or_true, true_or, or_false, false_or, or_self, if_true, if_false, ite_true, ite_false, Bool.eq_false_iff, Bool.not_eq_eq_eq_not, Bool.true_eq_false, Bool.false_eq_true, reduceCtorEq]; rfl)
      · try simp only [mv_now, mv_fnd]
        first | (simp only [sp_rule, mv, aN, aF, aK, aH, aT, aS, aW, aZ, aU, FB, fnd, becS, sN, b_8, eq_self, ne_eq, not_true_eq_false, not_false_eq_true, Classical.not_not, decide_true, decide_false, and_true, true_and, and_false, false_and, and_self, or_true, true_or, or_false, false_or, or_self, if_true, if_false, ite_true, ite_false, Bool.eq_false_iff, Bool.not_eq_eq_eq_not, Bool.true_eq_false, Bool.false_eq_true, reduceCtorEq]; done) | (simp only [sp_rule, mv, aN, aF, aK, aH, aT, aS, aW, aZ, aU, FB, fnd, becS, sN, b_8, eq_self, ne_eq, not_true_eq_false, not_false_eq_true, Classical.not_not, decide_true, decide_false, and_true, true_and, and_false, false_and, and_self, or_true, true_or, or_false, false_or, or_self, if_true, if_false, ite_true, ite_false, Bool.eq_false_iff, Bool.not_eq_eq_eq_not, Bool.true_eq_false, Bool.false_eq_true, reduceCtorEq]; rw [show ((0 : Int32).toNatClampNeg) = 0 by decide]; done) | (simp only [sp_rule, mv, aN, aF, aK, aH, aT, aS, aW, aZ, aU, FB, fnd, becS, sN, b_8, eq_self, ne_eq, not_true_eq_false, not_false_eq_true, Classical.not_not, decide_true, decide_false, and_true, true_and, and_false, false_and, and_self, or_true, true_or, or_false, false_or, or_self, if_true, if_false, ite_true, ite_false, Bool.eq_false_iff, Bool.not_eq_eq_eq_not, Bool.true_eq_false, Bool.false_eq_true, reduceCtorEq]; rfl)
      · repeat first | exact (fun _ _ => rfl) | refine frU (by decide) ?_
      · repeat first | exact id | refine mtU (by decide) ?_

theorem cp_end_136_137 {σ : Sg} (ht : ∀ j, 970 ≤ j → σ 136 j = σ 137 j) : sup σ 137 (fun j => if j < 970 then σ 136 j else σ 137 j) = sup σ 137 (σ 136) := by
  have e : (fun j => if j < 970 then σ 136 j else σ 137 j) = σ 136 := by
    funext j
    by_cases hj : j < 970
    · rw [if_pos hj]
    · rw [if_neg hj]; exact (ht j (by omega)).symm
  rw [e]
theorem cp_step_136_137 {σ : Sg} (i : Nat) : up (sup σ 137 (fun j => if j < i then σ 136 j else σ 137 j)) 137 i (sup σ 137 (fun j => if j < i then σ 136 j else σ 137 j) 136 i) = sup σ 137 (fun j => if j < i + 1 then σ 136 j else σ 137 j) := by
  funext k
  by_cases hk : k = 137
  · subst hk
    rw [up_at, sup_apply, if_pos rfl, sup_apply, if_neg (by decide), sup_apply, if_pos rfl]
    funext j
    rw [upd_apply]
    by_cases hj : j = i
    · rw [if_pos hj, if_pos (by omega), hj]
    · rw [if_neg hj]
      by_cases h2 : j < i
      · rw [if_pos h2, if_pos (by omega)]
      · rw [if_neg h2, if_neg (by omega)]
  · rw [up_ne _ _ _ hk, sup_apply, if_neg hk, sup_apply, if_neg hk]
theorem cp_0_136_137 {σ : Sg} : σ = sup σ 137 (fun j => if j < 0 then σ 136 j else σ 137 j) := by
  funext k
  by_cases hk : k = 137
  · subst hk
    rw [sup_apply, if_pos rfl]
    funext j
    rw [if_neg (by omega)]
  · rw [sup_apply, if_neg hk]
theorem lp_copy_136_137 {μ : Mx} {ω : Om} {d : Nat} (hd : 1 ≤ d) (C : Cx μ ω "TowFieldModel" cX12_copyRow 3 d) (hr : (mH μ).sig.returnType = none) (σ : Sg) (ht : ∀ j, 970 ≤ j → σ 136 j = σ 137 j) : ∀ (f i : Nat) (τ : Sg), i + f = 970 → (τ = sup σ 137 (fun j => if j < i then σ 136 j else σ 137 j)) → G μ ω (RQ μ ω (pU (sup σ 137 (σ 136)))) 2 [some (.ref 136), some (.ref 137), some (.int (nI i))] [] (mk τ) 0 0 := by
  intro f
  induction f with
  | zero =>
    intro i τ hif hv
    have hin : i = 970 := by omega
    refine g_il2n (pc := 2) C dX12_copyRow_2 ?_
    refine g_sipush (pc := 3) (v := 970) C dX12_copyRow_3 (by decide) ?_
    refine g_icmp_geL (pc := 6) (tgt := 21) C dX12_copyRow_6 (by decide) (fun c_6 => ?_) (fun c_6 => absurd c_6 (by rw [hin]; decide))
    exact r_U C hr dX12_copyRow_21 (by rw [hv, hin]; exact cp_end_136_137 ht)
  | succ f ih =>
    intro i τ hif hv
    refine g_il2n (pc := 2) C dX12_copyRow_2 ?_
    refine g_sipush (pc := 3) (v := 970) C dX12_copyRow_3 (by decide) ?_
    refine g_icmp_geL (pc := 6) (tgt := 21) C dX12_copyRow_6 (by decide) (fun c_6 => absurd (show nI i < nI 970 from nI_lt (by omega) (by decide)) c_6) (fun c_6 => ?_)
    refine g_al1n (pc := 9) C dX12_copyRow_9 ?_
    refine g_il2n (pc := 10) C dX12_copyRow_10 ?_
    refine g_al0n (pc := 11) C dX12_copyRow_11 ?_
    refine g_il2n (pc := 12) C dX12_copyRow_12 ?_
    refine s_iald (pc := 13) (q := i) C h136 rfl (by omega) (Nat.le_of_ble_eq_true rfl) dX12_copyRow_13 ?_
    refine s_iast (pc := 14) (q := i) C h137 rfl (by omega) (Nat.le_of_ble_eq_true rfl) dX12_copyRow_14 ?_
    refine g_ii2 (pc := 15) (v := nI (i + 1)) C dX12_copyRow_15 (nI_inc1 _) ?_
    refine g_goto (pc := 18) (tgt := 2) C dX12_copyRow_18 (by decide) ?_
    exact ih (i + 1) (up τ 137 i (τ 136 i)) (by omega) (by rw [hv]; exact cp_step_136_137 i)

theorem c_copy_136_137 {d : Nat} (hd : 1 ≤ d) (σ : Sg) (ht : ∀ j, 970 ≤ j → σ 136 j = σ 137 j) : CU d mX12_copyRow [.ref 136, .ref 137] σ (sup σ 137 (σ 136)) := by
  refine con_of (by decide) (catL rfl) (Nat.le_of_ble_eq_true rfl) ?_
  intro μ ω C hr
  have C : Cx μ ω "TowFieldModel" cX12_copyRow 3 d := C
  have hr : (mH μ).sig.returnType = none := hr
  show G μ ω (RQ μ ω (pU (sup σ 137 (σ 136)))) 0 [some (.ref 136), some (.ref 137), none] [] (mk σ) 0 0
  refine g_iconst (pc := 0) (v := 0) C dX12_copyRow_0 (by decide) ?_
  refine g_is2n (pc := 1) C dX12_copyRow_1 ?_
  exact lp_copy_136_137 hd C hr σ ht 970 0 σ (by omega) cp_0_136_137

theorem cp_end_137_136 {σ : Sg} (ht : ∀ j, 970 ≤ j → σ 137 j = σ 136 j) : sup σ 136 (fun j => if j < 970 then σ 137 j else σ 136 j) = sup σ 136 (σ 137) := by
  have e : (fun j => if j < 970 then σ 137 j else σ 136 j) = σ 137 := by
    funext j
    by_cases hj : j < 970
    · rw [if_pos hj]
    · rw [if_neg hj]; exact (ht j (by omega)).symm
  rw [e]
theorem cp_step_137_136 {σ : Sg} (i : Nat) : up (sup σ 136 (fun j => if j < i then σ 137 j else σ 136 j)) 136 i (sup σ 136 (fun j => if j < i then σ 137 j else σ 136 j) 137 i) = sup σ 136 (fun j => if j < i + 1 then σ 137 j else σ 136 j) := by
  funext k
  by_cases hk : k = 136
  · subst hk
    rw [up_at, sup_apply, if_pos rfl, sup_apply, if_neg (by decide), sup_apply, if_pos rfl]
    funext j
    rw [upd_apply]
    by_cases hj : j = i
    · rw [if_pos hj, if_pos (by omega), hj]
    · rw [if_neg hj]
      by_cases h2 : j < i
      · rw [if_pos h2, if_pos (by omega)]
      · rw [if_neg h2, if_neg (by omega)]
  · rw [up_ne _ _ _ hk, sup_apply, if_neg hk, sup_apply, if_neg hk]
theorem cp_0_137_136 {σ : Sg} : σ = sup σ 136 (fun j => if j < 0 then σ 137 j else σ 136 j) := by
  funext k
  by_cases hk : k = 136
  · subst hk
    rw [sup_apply, if_pos rfl]
    funext j
    rw [if_neg (by omega)]
  · rw [sup_apply, if_neg hk]
theorem lp_copy_137_136 {μ : Mx} {ω : Om} {d : Nat} (hd : 1 ≤ d) (C : Cx μ ω "TowFieldModel" cX12_copyRow 3 d) (hr : (mH μ).sig.returnType = none) (σ : Sg) (ht : ∀ j, 970 ≤ j → σ 137 j = σ 136 j) : ∀ (f i : Nat) (τ : Sg), i + f = 970 → (τ = sup σ 136 (fun j => if j < i then σ 137 j else σ 136 j)) → G μ ω (RQ μ ω (pU (sup σ 136 (σ 137)))) 2 [some (.ref 137), some (.ref 136), some (.int (nI i))] [] (mk τ) 0 0 := by
  intro f
  induction f with
  | zero =>
    intro i τ hif hv
    have hin : i = 970 := by omega
    refine g_il2n (pc := 2) C dX12_copyRow_2 ?_
    refine g_sipush (pc := 3) (v := 970) C dX12_copyRow_3 (by decide) ?_
    refine g_icmp_geL (pc := 6) (tgt := 21) C dX12_copyRow_6 (by decide) (fun c_6 => ?_) (fun c_6 => absurd c_6 (by rw [hin]; decide))
    exact r_U C hr dX12_copyRow_21 (by rw [hv, hin]; exact cp_end_137_136 ht)
  | succ f ih =>
    intro i τ hif hv
    refine g_il2n (pc := 2) C dX12_copyRow_2 ?_
    refine g_sipush (pc := 3) (v := 970) C dX12_copyRow_3 (by decide) ?_
    refine g_icmp_geL (pc := 6) (tgt := 21) C dX12_copyRow_6 (by decide) (fun c_6 => absurd (show nI i < nI 970 from nI_lt (by omega) (by decide)) c_6) (fun c_6 => ?_)
    refine g_al1n (pc := 9) C dX12_copyRow_9 ?_
    refine g_il2n (pc := 10) C dX12_copyRow_10 ?_
    refine g_al0n (pc := 11) C dX12_copyRow_11 ?_
    refine g_il2n (pc := 12) C dX12_copyRow_12 ?_
    refine s_iald (pc := 13) (q := i) C h137 rfl (by omega) (Nat.le_of_ble_eq_true rfl) dX12_copyRow_13 ?_
    refine s_iast (pc := 14) (q := i) C h136 rfl (by omega) (Nat.le_of_ble_eq_true rfl) dX12_copyRow_14 ?_
    refine g_ii2 (pc := 15) (v := nI (i + 1)) C dX12_copyRow_15 (nI_inc1 _) ?_
    refine g_goto (pc := 18) (tgt := 2) C dX12_copyRow_18 (by decide) ?_
    exact ih (i + 1) (up τ 136 i (τ 137 i)) (by omega) (by rw [hv]; exact cp_step_137_136 i)

theorem c_copy_137_136 {d : Nat} (hd : 1 ≤ d) (σ : Sg) (ht : ∀ j, 970 ≤ j → σ 137 j = σ 136 j) : CU d mX12_copyRow [.ref 137, .ref 136] σ (sup σ 136 (σ 137)) := by
  refine con_of (by decide) (catL rfl) (Nat.le_of_ble_eq_true rfl) ?_
  intro μ ω C hr
  have C : Cx μ ω "TowFieldModel" cX12_copyRow 3 d := C
  have hr : (mH μ).sig.returnType = none := hr
  show G μ ω (RQ μ ω (pU (sup σ 136 (σ 137)))) 0 [some (.ref 137), some (.ref 136), none] [] (mk σ) 0 0
  refine g_iconst (pc := 0) (v := 0) C dX12_copyRow_0 (by decide) ?_
  refine g_is2n (pc := 1) C dX12_copyRow_1 ?_
  exact lp_copy_137_136 hd C hr σ ht 970 0 σ (by omega) cp_0_137_136

theorem cp_end_136_138 {σ : Sg} (ht : ∀ j, 970 ≤ j → σ 136 j = σ 138 j) : sup σ 138 (fun j => if j < 970 then σ 136 j else σ 138 j) = sup σ 138 (σ 136) := by
  have e : (fun j => if j < 970 then σ 136 j else σ 138 j) = σ 136 := by
    funext j
    by_cases hj : j < 970
    · rw [if_pos hj]
    · rw [if_neg hj]; exact (ht j (by omega)).symm
  rw [e]
theorem cp_step_136_138 {σ : Sg} (i : Nat) : up (sup σ 138 (fun j => if j < i then σ 136 j else σ 138 j)) 138 i (sup σ 138 (fun j => if j < i then σ 136 j else σ 138 j) 136 i) = sup σ 138 (fun j => if j < i + 1 then σ 136 j else σ 138 j) := by
  funext k
  by_cases hk : k = 138
  · subst hk
    rw [up_at, sup_apply, if_pos rfl, sup_apply, if_neg (by decide), sup_apply, if_pos rfl]
    funext j
    rw [upd_apply]
    by_cases hj : j = i
    · rw [if_pos hj, if_pos (by omega), hj]
    · rw [if_neg hj]
      by_cases h2 : j < i
      · rw [if_pos h2, if_pos (by omega)]
      · rw [if_neg h2, if_neg (by omega)]
  · rw [up_ne _ _ _ hk, sup_apply, if_neg hk, sup_apply, if_neg hk]
theorem cp_0_136_138 {σ : Sg} : σ = sup σ 138 (fun j => if j < 0 then σ 136 j else σ 138 j) := by
  funext k
  by_cases hk : k = 138
  · subst hk
    rw [sup_apply, if_pos rfl]
    funext j
    rw [if_neg (by omega)]
  · rw [sup_apply, if_neg hk]
theorem lp_copy_136_138 {μ : Mx} {ω : Om} {d : Nat} (hd : 1 ≤ d) (C : Cx μ ω "TowFieldModel" cX12_copyRow 3 d) (hr : (mH μ).sig.returnType = none) (σ : Sg) (ht : ∀ j, 970 ≤ j → σ 136 j = σ 138 j) : ∀ (f i : Nat) (τ : Sg), i + f = 970 → (τ = sup σ 138 (fun j => if j < i then σ 136 j else σ 138 j)) → G μ ω (RQ μ ω (pU (sup σ 138 (σ 136)))) 2 [some (.ref 136), some (.ref 138), some (.int (nI i))] [] (mk τ) 0 0 := by
  intro f
  induction f with
  | zero =>
    intro i τ hif hv
    have hin : i = 970 := by omega
    refine g_il2n (pc := 2) C dX12_copyRow_2 ?_
    refine g_sipush (pc := 3) (v := 970) C dX12_copyRow_3 (by decide) ?_
    refine g_icmp_geL (pc := 6) (tgt := 21) C dX12_copyRow_6 (by decide) (fun c_6 => ?_) (fun c_6 => absurd c_6 (by rw [hin]; decide))
    exact r_U C hr dX12_copyRow_21 (by rw [hv, hin]; exact cp_end_136_138 ht)
  | succ f ih =>
    intro i τ hif hv
    refine g_il2n (pc := 2) C dX12_copyRow_2 ?_
    refine g_sipush (pc := 3) (v := 970) C dX12_copyRow_3 (by decide) ?_
    refine g_icmp_geL (pc := 6) (tgt := 21) C dX12_copyRow_6 (by decide) (fun c_6 => absurd (show nI i < nI 970 from nI_lt (by omega) (by decide)) c_6) (fun c_6 => ?_)
    refine g_al1n (pc := 9) C dX12_copyRow_9 ?_
    refine g_il2n (pc := 10) C dX12_copyRow_10 ?_
    refine g_al0n (pc := 11) C dX12_copyRow_11 ?_
    refine g_il2n (pc := 12) C dX12_copyRow_12 ?_
    refine s_iald (pc := 13) (q := i) C h136 rfl (by omega) (Nat.le_of_ble_eq_true rfl) dX12_copyRow_13 ?_
    refine s_iast (pc := 14) (q := i) C h138 rfl (by omega) (Nat.le_of_ble_eq_true rfl) dX12_copyRow_14 ?_
    refine g_ii2 (pc := 15) (v := nI (i + 1)) C dX12_copyRow_15 (nI_inc1 _) ?_
    refine g_goto (pc := 18) (tgt := 2) C dX12_copyRow_18 (by decide) ?_
    exact ih (i + 1) (up τ 138 i (τ 136 i)) (by omega) (by rw [hv]; exact cp_step_136_138 i)

theorem c_copy_136_138 {d : Nat} (hd : 1 ≤ d) (σ : Sg) (ht : ∀ j, 970 ≤ j → σ 136 j = σ 138 j) : CU d mX12_copyRow [.ref 136, .ref 138] σ (sup σ 138 (σ 136)) := by
  refine con_of (by decide) (catL rfl) (Nat.le_of_ble_eq_true rfl) ?_
  intro μ ω C hr
  have C : Cx μ ω "TowFieldModel" cX12_copyRow 3 d := C
  have hr : (mH μ).sig.returnType = none := hr
  show G μ ω (RQ μ ω (pU (sup σ 138 (σ 136)))) 0 [some (.ref 136), some (.ref 138), none] [] (mk σ) 0 0
  refine g_iconst (pc := 0) (v := 0) C dX12_copyRow_0 (by decide) ?_
  refine g_is2n (pc := 1) C dX12_copyRow_1 ?_
  exact lp_copy_136_138 hd C hr σ ht 970 0 σ (by omega) cp_0_136_138

theorem cp_end_138_136 {σ : Sg} (ht : ∀ j, 970 ≤ j → σ 138 j = σ 136 j) : sup σ 136 (fun j => if j < 970 then σ 138 j else σ 136 j) = sup σ 136 (σ 138) := by
  have e : (fun j => if j < 970 then σ 138 j else σ 136 j) = σ 138 := by
    funext j
    by_cases hj : j < 970
    · rw [if_pos hj]
    · rw [if_neg hj]; exact (ht j (by omega)).symm
  rw [e]
theorem cp_step_138_136 {σ : Sg} (i : Nat) : up (sup σ 136 (fun j => if j < i then σ 138 j else σ 136 j)) 136 i (sup σ 136 (fun j => if j < i then σ 138 j else σ 136 j) 138 i) = sup σ 136 (fun j => if j < i + 1 then σ 138 j else σ 136 j) := by
  funext k
  by_cases hk : k = 136
  · subst hk
    rw [up_at, sup_apply, if_pos rfl, sup_apply, if_neg (by decide), sup_apply, if_pos rfl]
    funext j
    rw [upd_apply]
    by_cases hj : j = i
    · rw [if_pos hj, if_pos (by omega), hj]
    · rw [if_neg hj]
      by_cases h2 : j < i
      · rw [if_pos h2, if_pos (by omega)]
      · rw [if_neg h2, if_neg (by omega)]
  · rw [up_ne _ _ _ hk, sup_apply, if_neg hk, sup_apply, if_neg hk]
theorem cp_0_138_136 {σ : Sg} : σ = sup σ 136 (fun j => if j < 0 then σ 138 j else σ 136 j) := by
  funext k
  by_cases hk : k = 136
  · subst hk
    rw [sup_apply, if_pos rfl]
    funext j
    rw [if_neg (by omega)]
  · rw [sup_apply, if_neg hk]
theorem lp_copy_138_136 {μ : Mx} {ω : Om} {d : Nat} (hd : 1 ≤ d) (C : Cx μ ω "TowFieldModel" cX12_copyRow 3 d) (hr : (mH μ).sig.returnType = none) (σ : Sg) (ht : ∀ j, 970 ≤ j → σ 138 j = σ 136 j) : ∀ (f i : Nat) (τ : Sg), i + f = 970 → (τ = sup σ 136 (fun j => if j < i then σ 138 j else σ 136 j)) → G μ ω (RQ μ ω (pU (sup σ 136 (σ 138)))) 2 [some (.ref 138), some (.ref 136), some (.int (nI i))] [] (mk τ) 0 0 := by
  intro f
  induction f with
  | zero =>
    intro i τ hif hv
    have hin : i = 970 := by omega
    refine g_il2n (pc := 2) C dX12_copyRow_2 ?_
    refine g_sipush (pc := 3) (v := 970) C dX12_copyRow_3 (by decide) ?_
    refine g_icmp_geL (pc := 6) (tgt := 21) C dX12_copyRow_6 (by decide) (fun c_6 => ?_) (fun c_6 => absurd c_6 (by rw [hin]; decide))
    exact r_U C hr dX12_copyRow_21 (by rw [hv, hin]; exact cp_end_138_136 ht)
  | succ f ih =>
    intro i τ hif hv
    refine g_il2n (pc := 2) C dX12_copyRow_2 ?_
    refine g_sipush (pc := 3) (v := 970) C dX12_copyRow_3 (by decide) ?_
    refine g_icmp_geL (pc := 6) (tgt := 21) C dX12_copyRow_6 (by decide) (fun c_6 => absurd (show nI i < nI 970 from nI_lt (by omega) (by decide)) c_6) (fun c_6 => ?_)
    refine g_al1n (pc := 9) C dX12_copyRow_9 ?_
    refine g_il2n (pc := 10) C dX12_copyRow_10 ?_
    refine g_al0n (pc := 11) C dX12_copyRow_11 ?_
    refine g_il2n (pc := 12) C dX12_copyRow_12 ?_
    refine s_iald (pc := 13) (q := i) C h138 rfl (by omega) (Nat.le_of_ble_eq_true rfl) dX12_copyRow_13 ?_
    refine s_iast (pc := 14) (q := i) C h136 rfl (by omega) (Nat.le_of_ble_eq_true rfl) dX12_copyRow_14 ?_
    refine g_ii2 (pc := 15) (v := nI (i + 1)) C dX12_copyRow_15 (nI_inc1 _) ?_
    refine g_goto (pc := 18) (tgt := 2) C dX12_copyRow_18 (by decide) ?_
    exact ih (i + 1) (up τ 136 i (τ 138 i)) (by omega) (by rw [hv]; exact cp_step_138_136 i)

theorem c_copy_138_136 {d : Nat} (hd : 1 ≤ d) (σ : Sg) (ht : ∀ j, 970 ≤ j → σ 138 j = σ 136 j) : CU d mX12_copyRow [.ref 138, .ref 136] σ (sup σ 136 (σ 138)) := by
  refine con_of (by decide) (catL rfl) (Nat.le_of_ble_eq_true rfl) ?_
  intro μ ω C hr
  have C : Cx μ ω "TowFieldModel" cX12_copyRow 3 d := C
  have hr : (mH μ).sig.returnType = none := hr
  show G μ ω (RQ μ ω (pU (sup σ 136 (σ 138)))) 0 [some (.ref 138), some (.ref 136), none] [] (mk σ) 0 0
  refine g_iconst (pc := 0) (v := 0) C dX12_copyRow_0 (by decide) ?_
  refine g_is2n (pc := 1) C dX12_copyRow_1 ?_
  exact lp_copy_138_136 hd C hr σ ht 970 0 σ (by omega) cp_0_138_136

