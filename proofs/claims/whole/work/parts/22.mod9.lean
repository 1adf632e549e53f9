/-! ===== the model: a launch, a fetching, the next minute ===== -/
theorem c_X12_planeThereN {d : Nat} (hd : 1 ≤ d) (σ : Sg) {n : Nat} (hn : σ 136 6 = nI n) (hn2 : n ≤ 3) : CI d mX12_planeThere [.ref 135] σ (o2i (planeT (σ 136))) σ := by
  have hc : cnt (σ 136) 6 = n := cnt_of hn (by omega)
  refine con_of (by decide) (catL rfl) (Nat.le_of_ble_eq_true rfl) ?_
  intro μ ω C hr
  have C : Cx μ ω "TowFieldModel" cX12_planeThere 2 d := C
  have hr : (mH μ).sig.returnType = some .int := hr
  show G μ ω (RQ μ ω (pI (o2i (planeT (σ 136))) σ)) 0 [some (.ref 135), none] [] (mk σ) 0 0
  refine g_iconst (pc := 0) (v := 0) C dX12_planeThere_0 (by decide) ?_
  refine g_is1n (pc := 1) C dX12_planeThere_1 ?_
  exact lp_X12_planeThere hd C hr σ hn hn2 (by unfold planeT; rw [hc]) n 0 (by omega) rfl

theorem c_X12_winchForN {d : Nat} (hd : 2 ≤ d) (σ : Sg) {n : Nat} (hn : σ 136 5 = nI n) (hn2 : n ≤ 3) (k : Int32) : CI d mX12_winchFor [.ref 135, .int k] σ (o2i (winchF (σ 136) k)) σ := by
  have hc : cnt (σ 136) 5 = n := cnt_of hn (by omega)
  refine con_of (by decide) (catL rfl) (Nat.le_of_ble_eq_true rfl) ?_
  intro μ ω C hr
  have C : Cx μ ω "TowFieldModel" cX12_winchFor 5 d := C
  have hr : (mH μ).sig.returnType = some .int := hr
  show G μ ω (RQ μ ω (pI (o2i (winchF (σ 136) k)) σ)) 0 [some (.ref 135), some (.int k), none, none, none] [] (mk σ) 0 0
  refine g_iconst (pc := 0) (v := 0) C dX12_winchFor_0 (by decide) ?_
  refine g_is2n (pc := 1) C dX12_winchFor_1 ?_
  exact lp_X12_winchFor hd C hr σ k hn hn2 (by unfold winchF; rw [hc]) n 0 _ _ (by omega) rfl

theorem c_X12_goesUp {d : Nat} (hd : 6 ≤ d) (σ : Sg) (hI : INV (σ 136)) {a : Nat} (ha : a < cnt (σ 136) 7) (hh : helpK (upS3 (σ 136) a) (σ 136 (146 + 10 * a + 3)) = true) : CQ d mX12_goesUp [.ref 135, .int (nI a)] σ (fun τ' => τ' 136 = upS (σ 136) a ∧ Eqx [136, 143] σ τ') := by
  have hna := hI.n7.2
  have hk := hI.kind ha
  obtain ⟨hl1, hl2⟩ := laneA_ok hI a
  refine con_of (by decide) (catL rfl) (Nat.le_of_ble_eq_true rfl) ?_
  intro μ ω C hr
  have C : Cx μ ω "TowFieldModel" cX12_goesUp 6 d := C
  have hr : (mH μ).sig.returnType = none := hr
  show G μ ω (RQ μ ω (pQ (fun τ' => τ' 136 = upS (σ 136) a ∧ Eqx [136, 143] σ τ'))) 0 [some (.ref 135), some (.int (nI a)), none, none, none, none] [] (mk σ) 0 0
  refine g_al0n (pc := 0) C dX12_goesUp_0 ?_
  refine g_il1n (pc := 1) C dX12_goesUp_1 ?_
  refine g_iconst (pc := 2) (v := 3) C dX12_goesUp_2 (by decide) ?_
  refine s_VI (pc := 3) (st := []) C h135 rfl (c_X12_askOf (d := d - 1) (by omega) σ (a := a) (f := 3) (by omega) (by omega) rfl rfl) (by omega) lX12_67 dX12_goesUp_3 rfl (Nat.le_of_ble_eq_true rfl) rfl ?_
  refine g_is2n (pc := 6) C dX12_goesUp_6 ?_
  refine g_al0n (pc := 7) C dX12_goesUp_7 ?_
  refine g_il1n (pc := 8) C dX12_goesUp_8 ?_
  refine s_VI (pc := 9) (st := []) C h135 rfl (c_X12_spanOfAsk (d := d - 1) (by omega) σ hI (by omega)) (by omega) lX12_153 dX12_goesUp_9 rfl (Nat.le_of_ble_eq_true rfl) rfl ?_
  refine g_is3n (pc := 12) C dX12_goesUp_12 ?_
  refine g_al0n (pc := 13) C dX12_goesUp_13 ?_
  refine g_al0n (pc := 14) C dX12_goesUp_14 ?_
  refine g_il1n (pc := 15) C dX12_goesUp_15 ?_
  refine s_VI (pc := 16) (st := [(.ref 135)]) C h135 rfl (c_X12_laneOf (d := d - 1) (by omega) σ hI (by omega)) (by omega) lX12_150 dX12_goesUp_16 rfl (Nat.le_of_ble_eq_true rfl) rfl ?_
  refine g_il3n (pc := 19) C dX12_goesUp_19 ?_
  refine s_VUN (pc := 20) (st := []) C h135 rfl (c_X12_movesE (d := d - 1) (by omega) σ hl2 hl1 (spanA (σ 136) a)) (by omega) lX12_180 dX12_goesUp_20 rfl (Nat.le_of_ble_eq_true rfl) rfl (fun s_20 hs_20 => ?_)
  refine g_al0n (pc := 23) C dX12_goesUp_23 ?_
  refine s_getR (pc := 24) C fX12_9 h135 rfl dX12_goesUp_24 ?_
  refine g_sipush (pc := 27) (v := 146) C dX12_goesUp_27 (by decide) ?_
  refine g_bipush (pc := 30) (v := 10) C dX12_goesUp_30 (by decide) ?_
  refine g_il1n (pc := 32) C dX12_goesUp_32 ?_
  refine g_imul (pc := 33) C dX12_goesUp_33 ?_
  refine g_iadd (pc := 34) C dX12_goesUp_34 ?_
  refine g_bipush (pc := 35) (v := 6) C dX12_goesUp_35 (by decide) ?_
  refine g_iadd (pc := 37) C dX12_goesUp_37 ?_
  refine g_iconst (pc := 38) (v := 1) C dX12_goesUp_38 (by decide) ?_
  refine s_iastN (pc := 39) (q := (146 + (10 * a)) + 6) C h136 (by first | (simp only [ixl, nI_add, pk_mul]; done) | rfl | decide) (by omega) (Nat.le_of_ble_eq_true rfl) dX12_goesUp_39 (fun s_39 hs_39 => ?_)
  refine g_al0n (pc := 40) C dX12_goesUp_40 ?_
  refine s_getR (pc := 41) C fX12_9 h135 rfl dX12_goesUp_41 ?_
  refine g_sipush (pc := 44) (v := 146) C dX12_goesUp_44 (by decide) ?_
  refine g_bipush (pc := 47) (v := 10) C dX12_goesUp_47 (by decide) ?_
  refine g_il1n (pc := 49) C dX12_goesUp_49 ?_
  refine g_imul (pc := 50) C dX12_goesUp_50 ?_
  refine g_iadd (pc := 51) C dX12_goesUp_51 ?_
  refine g_bipush (pc := 52) (v := 7) C dX12_goesUp_52 (by decide) ?_
  refine g_iadd (pc := 54) C dX12_goesUp_54 ?_
  refine g_al0n (pc := 55) C dX12_goesUp_55 ?_
  refine s_getR (pc := 56) C fX12_9 h135 rfl dX12_goesUp_56 ?_
  refine g_iconst (pc := 59) (v := 0) C dX12_goesUp_59 (by decide) ?_
  refine s_iald (pc := 60) (q := 0) C h136 rfl (by omega) (Nat.le_of_ble_eq_true rfl) dX12_goesUp_60 ?_
  refine s_iastN (pc := 61) (q := (146 + (10 * a)) + 7) C h136 (by first | (simp only [ixl, nI_add, pk_mul]; done) | rfl | decide) (by omega) (Nat.le_of_ble_eq_true rfl) dX12_goesUp_61 (fun s_61 hs_61 => ?_)
  have u61 : s_61 136 = upS3 (σ 136) a := by simp only [hs_61, hs_39, hs_20, up_at, upS3]
  have n6 : s_61 136 6 = σ 136 6 := by simp (disch := omega) only [hs_61, hs_39, hs_20, up_at, upd_ne, upd_at]
  have n5 : s_61 136 5 = σ 136 5 := by simp (disch := omega) only [hs_61, hs_39, hs_20, up_at, upd_ne, upd_at]
  have c6 : cnt (s_61 136) 6 ≤ 3 := by have := hI.n6.2; unfold cnt at *; rw [n6]; exact this
  have c5 : cnt (s_61 136) 5 ≤ 3 := by have := hI.n5.2; unfold cnt at *; rw [n5]; exact this
  refine g_il2n (pc := 62) C dX12_goesUp_62 ?_
  refine g_iconst (pc := 63) (v := 4) C dX12_goesUp_63 (by decide) ?_
  refine g_icmp_ne (pc := 64) (tgt := 68) C dX12_goesUp_64 (by decide) (fun c_64 => ?_) (fun c_64 => ?_)
  · refine g_il2n (pc := 68) C dX12_goesUp_68 ?_
    refine g_iconst (pc := 69) (v := 1) C dX12_goesUp_69 (by decide) ?_
    refine s_SB (pc := 70) (st := []) C (c_X12_isUnder (d := d - 1) (by omega) s_61 (σ 136 (146 + 10 * a + 3)) 1 (by assumption)) (by omega) lX12_123 dX12_goesUp_70 rfl (Nat.le_of_ble_eq_true rfl) rfl (fun b_70 => ?_) (fun b_70 => ?_)
    · refine g_if_ne (pc := 73) (tgt := 99) C dX12_goesUp_73 (by decide) (fun _ => ?_) (fun c => absurd c (by decide))
      refine g_al0n (pc := 99) C dX12_goesUp_99 ?_
      refine g_il2n (pc := 100) C dX12_goesUp_100 ?_
      refine s_VI (pc := 101) (st := []) C h135 rfl (c_X12_winchForN (d := d - 1) (by omega) s_61 (n5.trans hI.n5.1) hI.n5.2 (σ 136 (146 + 10 * a + 3))) (by omega) lX12_130 dX12_goesUp_101 rfl (Nat.le_of_ble_eq_true rfl) rfl ?_
      refine g_is4 (pc := 104) C dX12_goesUp_104 ?_
      rcases hw : winchF (s_61 136) (σ 136 (146 + 10 * a + 3)) with _ | w
      · exfalso; rw [← u61] at hh; simp [helpK, hw, c_64, b_70] at hh
      · simp only [o2i]
        have hw3 := fstL_lt hw
        refine g_al0n (pc := 106) C dX12_goesUp_106 ?_
        refine s_getR (pc := 107) C fX12_9 h135 rfl dX12_goesUp_107 ?_
        refine g_il4 (pc := 110) C dX12_goesUp_110 ?_
        refine g_iconst (pc := 112) (v := 0) C dX12_goesUp_112 (by decide) ?_
        refine s_SI (pc := 113) (st := [(.ref 136)]) C (c_X12_ropeAt (d := d - 1) (by omega) s_61 w 0) (by omega) lX12_92 dX12_goesUp_113 rfl (Nat.le_of_ble_eq_true rfl) rfl ?_
        refine s_iald (pc := 116) (q := 33 + 4 * w + 2 * 0) C h136 rfl (by omega) (Nat.le_of_ble_eq_true rfl) dX12_goesUp_116 ?_
        refine g_iconst (pc := 117) (v := 2) C dX12_goesUp_117 (by decide) ?_
        refine g_icmp_ne (pc := 118) (tgt := 125) C dX12_goesUp_118 (by decide) (fun c_118 => ?_) (fun c_118 => ?_)
        · refine g_iconst (pc := 125) (v := 1) C dX12_goesUp_125 (by decide) ?_
          refine g_is5 (pc := 126) C dX12_goesUp_126 ?_
          refine g_al0n (pc := 128) C dX12_goesUp_128 ?_
          refine g_il4 (pc := 129) C dX12_goesUp_129 ?_
          refine g_il5 (pc := 131) C dX12_goesUp_131 ?_
          refine g_iconst (pc := 133) (v := 0) C dX12_goesUp_133 (by decide) ?_
          refine g_iconst (pc := 134) (v := (-1)) C dX12_goesUp_134 (by decide) ?_
          refine s_VUN (pc := 135) (st := []) C h135 rfl (c_X12_ropeIs (d := d - 1) (by omega) s_61 (w := w) (r := 1) (by omega) (by omega) 0 ((-1))) (by omega) lX12_96 dX12_goesUp_135 rfl (Nat.le_of_ble_eq_true rfl) rfl (fun s_135 hs_135 => ?_)
          refine g_il2n (pc := 138) C dX12_goesUp_138 ?_
          refine g_iconst (pc := 139) (v := 3) C dX12_goesUp_139 (by decide) ?_
          refine g_icmp_ne (pc := 140) (tgt := 152) C dX12_goesUp_140 (by decide) (fun c_140 => ?_) (fun c_140 => ?_)
          · refine r_Q C hr dX12_goesUp_152 ⟨?_, ?_⟩
            · simp only [hs_135, upS, ← u61, hw, ropeS, up_at, c_64, b_70, c_118, c_140, eq_self, ne_eq, not_true_eq_false, not_false_eq_true, Classical.not_not, decide_true, decide_false, and_true, true_and, and_false, false_and, and_self, or_true, true_or, or_false, false_or, or_self, if_true, if_false, ite_true, ite_false, Bool.eq_false_iff, Bool.not_eq_eq_eq_not, Bool.true_eq_false, Bool.false_eq_true, reduceCtorEq]
            · rw [hs_135, hs_61, hs_39, hs_20]; exact eqx_u (eqx_u (eqx_u (eqx_u (eqx_u (Eqx.rf)))))
          · refine g_al0n (pc := 143) C dX12_goesUp_143 ?_
            refine g_il4 (pc := 144) C dX12_goesUp_144 ?_
            refine g_iconst (pc := 146) (v := 1) C dX12_goesUp_146 (by decide) ?_
            refine g_iconst (pc := 147) (v := 0) C dX12_goesUp_147 (by decide) ?_
            refine g_iconst (pc := 148) (v := (-1)) C dX12_goesUp_148 (by decide) ?_
            refine s_VUN (pc := 149) (st := []) C h135 rfl (c_X12_ropeIs (d := d - 1) (by omega) s_135 (w := w) (r := 1) (by omega) (by omega) 0 ((-1))) (by omega) lX12_96 dX12_goesUp_149 rfl (Nat.le_of_ble_eq_true rfl) rfl (fun s_149 hs_149 => ?_)
            refine r_Q C hr dX12_goesUp_152 ⟨?_, ?_⟩
            · simp only [hs_149, hs_135, upS, ← u61, hw, ropeS, up_at, c_64, b_70, c_118, if_pos c_140, eq_self, ne_eq, not_true_eq_false, not_false_eq_true, Classical.not_not, decide_true, decide_false, and_true, true_and, and_false, false_and, and_self, or_true, true_or, or_false, false_or, or_self, if_true, if_false, ite_true, ite_false, Bool.eq_false_iff, Bool.not_eq_eq_eq_not, Bool.true_eq_false, Bool.false_eq_true, reduceCtorEq]
            · rw [hs_149, hs_135, hs_61, hs_39, hs_20]; exact eqx_u (eqx_u (eqx_u (eqx_u (eqx_u (eqx_u (eqx_u (Eqx.rf)))))))
        · refine g_iconst (pc := 121) (v := 0) C dX12_goesUp_121 (by decide) ?_
          refine g_goto (pc := 122) (tgt := 126) C dX12_goesUp_122 (by decide) ?_
          refine g_is5 (pc := 126) C dX12_goesUp_126 ?_
          refine g_al0n (pc := 128) C dX12_goesUp_128 ?_
          refine g_il4 (pc := 129) C dX12_goesUp_129 ?_
          refine g_il5 (pc := 131) C dX12_goesUp_131 ?_
          refine g_iconst (pc := 133) (v := 0) C dX12_goesUp_133 (by decide) ?_
          refine g_iconst (pc := 134) (v := (-1)) C dX12_goesUp_134 (by decide) ?_
          refine s_VUN (pc := 135) (st := []) C h135 rfl (c_X12_ropeIs (d := d - 1) (by omega) s_61 (w := w) (r := 0) (by omega) (by omega) 0 ((-1))) (by omega) lX12_96 dX12_goesUp_135 rfl (Nat.le_of_ble_eq_true rfl) rfl (fun s_135 hs_135 => ?_)
          refine g_il2n (pc := 138) C dX12_goesUp_138 ?_
          refine g_iconst (pc := 139) (v := 3) C dX12_goesUp_139 (by decide) ?_
          refine g_icmp_ne (pc := 140) (tgt := 152) C dX12_goesUp_140 (by decide) (fun c_140 => ?_) (fun c_140 => ?_)
          · refine r_Q C hr dX12_goesUp_152 ⟨?_, ?_⟩
            · simp only [hs_135, upS, ← u61, hw, ropeS, up_at, c_64, b_70, c_118, c_140, eq_self, ne_eq, not_true_eq_false, not_false_eq_true, Classical.not_not, decide_true, decide_false, and_true, true_and, and_false, false_and, and_self, or_true, true_or, or_false, false_or, or_self, if_true, if_false, ite_true, ite_false, Bool.eq_false_iff, Bool.not_eq_eq_eq_not, Bool.true_eq_false, Bool.false_eq_true, reduceCtorEq]
            · rw [hs_135, hs_61, hs_39, hs_20]; exact eqx_u (eqx_u (eqx_u (eqx_u (eqx_u (Eqx.rf)))))
          · refine g_al0n (pc := 143) C dX12_goesUp_143 ?_
            refine g_il4 (pc := 144) C dX12_goesUp_144 ?_
            refine g_iconst (pc := 146) (v := 1) C dX12_goesUp_146 (by decide) ?_
            refine g_iconst (pc := 147) (v := 0) C dX12_goesUp_147 (by decide) ?_
            refine g_iconst (pc := 148) (v := (-1)) C dX12_goesUp_148 (by decide) ?_
            refine s_VUN (pc := 149) (st := []) C h135 rfl (c_X12_ropeIs (d := d - 1) (by omega) s_135 (w := w) (r := 1) (by omega) (by omega) 0 ((-1))) (by omega) lX12_96 dX12_goesUp_149 rfl (Nat.le_of_ble_eq_true rfl) rfl (fun s_149 hs_149 => ?_)
            refine r_Q C hr dX12_goesUp_152 ⟨?_, ?_⟩
            · simp only [hs_149, hs_135, upS, ← u61, hw, ropeS, up_at, c_64, b_70, c_118, if_pos c_140, eq_self, ne_eq, not_true_eq_false, not_false_eq_true, Classical.not_not, decide_true, decide_false, and_true, true_and, and_false, false_and, and_self, or_true, true_or, or_false, false_or, or_self, if_true, if_false, ite_true, ite_false, Bool.eq_false_iff, Bool.not_eq_eq_eq_not, Bool.true_eq_false, Bool.false_eq_true, reduceCtorEq]
            · rw [hs_149, hs_135, hs_61, hs_39, hs_20]; exact eqx_u (eqx_u (eqx_u (eqx_u (eqx_u (eqx_u (eqx_u (Eqx.rf)))))))
    · refine g_if_ne (pc := 73) (tgt := 99) C dX12_goesUp_73 (by decide) (fun c => absurd c (by decide)) (fun _ => ?_)
      refine g_al0n (pc := 76) C dX12_goesUp_76 ?_
      refine s_getR (pc := 77) C fX12_9 h135 rfl dX12_goesUp_77 ?_
      refine g_bipush (pc := 80) (v := 30) C dX12_goesUp_80 (by decide) ?_
      refine g_al0n (pc := 82) C dX12_goesUp_82 ?_
      refine s_VI (pc := 83) (st := [(.int 30), (.ref 136)]) C h135 rfl (c_X12_planeThereN (d := d - 1) (by omega) s_61 (n6.trans hI.n6.1) hI.n6.2) (by omega) lX12_133 dX12_goesUp_83 rfl (Nat.le_of_ble_eq_true rfl) rfl ?_
      rcases hp : planeT (s_61 136) with _ | p
      · exfalso; rw [← u61] at hh; simp [helpK, hp, c_64, b_70] at hh
      · simp only [o2i]
        have hp3 := fstL_lt hp
        refine g_iadd (pc := 86) C dX12_goesUp_86 ?_
        refine g_al0n (pc := 87) C dX12_goesUp_87 ?_
        refine s_getR (pc := 88) C fX12_9 h135 rfl dX12_goesUp_88 ?_
        refine g_iconst (pc := 91) (v := 0) C dX12_goesUp_91 (by decide) ?_
        refine s_iald (pc := 92) (q := 0) C h136 rfl (by omega) (Nat.le_of_ble_eq_true rfl) dX12_goesUp_92 ?_
        refine g_iconst (pc := 93) (v := 2) C dX12_goesUp_93 (by decide) ?_
        refine g_il3n (pc := 94) C dX12_goesUp_94 ?_
        refine g_imul (pc := 95) C dX12_goesUp_95 ?_
        refine g_iadd (pc := 96) C dX12_goesUp_96 ?_
        refine s_iastN (pc := 97) (q := 30 + p) C h136 (by first | (simp only [ixl, nI_add, pk_mul]; done) | rfl | decide) (by omega) (Nat.le_of_ble_eq_true rfl) dX12_goesUp_97 (fun s_97 hs_97 => ?_)
        refine r_Q C hr dX12_goesUp_98 ⟨?_, ?_⟩
        · simp only [hs_97, upS, ← u61, hp, ropeS, up_at, c_64, b_70, eq_self, ne_eq, not_true_eq_false, not_false_eq_true, Classical.not_not, decide_true, decide_false, and_true, true_and, and_false, false_and, and_self, or_true, true_or, or_false, false_or, or_self, if_true, if_false, ite_true, ite_false, Bool.eq_false_iff, Bool.not_eq_eq_eq_not, Bool.true_eq_false, Bool.false_eq_true, reduceCtorEq]
        · rw [hs_97, hs_61, hs_39, hs_20]; exact eqx_u (eqx_u (eqx_u (eqx_u (Eqx.rf))))
  · refine r_Q C hr dX12_goesUp_67 ⟨?_, ?_⟩
    · simp only [upS, ← u61, ropeS, up_at, c_64, eq_self, ne_eq, not_true_eq_false, not_false_eq_true, Classical.not_not, decide_true, decide_false, and_true, true_and, and_false, false_and, and_self, or_true, true_or, or_false, false_or, or_self, if_true, if_false, ite_true, ite_false, Bool.eq_false_iff, Bool.not_eq_eq_eq_not, Bool.true_eq_false, Bool.false_eq_true, reduceCtorEq]
    · rw [hs_61, hs_39, hs_20]; exact eqx_u (eqx_u (eqx_u (Eqx.rf)))

theorem c_X12_isFetched {d : Nat} (hd : 3 ≤ d) (σ : Sg) (hI : INV (σ 136)) {w : Nat} (hw : w < 3) : CQ d mX12_isFetched [.ref 135, .int (nI w)] σ (fun τ' => τ' 136 = fetchedS (σ 136) w ∧ Eqx [136, 143] σ τ') := by
  obtain ⟨hl1, hl2⟩ := hI.lane (u := 3) (by decide)
  have hl1 : σ 136 19 = nI (σ 136 19).toNatClampNeg := hl1
  have hl2 : (σ 136 19).toNatClampNeg < 6 := hl2
  refine con_of (by decide) (catL rfl) (Nat.le_of_ble_eq_true rfl) ?_
  intro μ ω C hr
  have C : Cx μ ω "TowFieldModel" cX12_isFetched 3 d := C
  have hr : (mH μ).sig.returnType = none := hr
  show G μ ω (RQ μ ω (pQ (fun τ' => τ' 136 = fetchedS (σ 136) w ∧ Eqx [136, 143] σ τ'))) 0 [some (.ref 135), some (.int (nI w)), none] [] (mk σ) 0 0
  refine g_al0n (pc := 0) C dX12_isFetched_0 ?_
  refine g_al0n (pc := 1) C dX12_isFetched_1 ?_
  refine s_getR (pc := 2) C fX12_9 h135 rfl dX12_isFetched_2 ?_
  refine g_bipush (pc := 5) (v := 19) C dX12_isFetched_5 (by decide) ?_
  refine s_iald (pc := 7) (q := 19) C h136 rfl (by omega) (Nat.le_of_ble_eq_true rfl) dX12_isFetched_7 ?_
  refine g_al0n (pc := 8) C dX12_isFetched_8 ?_
  refine s_getR (pc := 9) C fX12_9 h135 rfl dX12_isFetched_9 ?_
  refine g_bipush (pc := 12) (v := 26) C dX12_isFetched_12 (by decide) ?_
  refine s_iald (pc := 14) (q := 26) C h136 rfl (by omega) (Nat.le_of_ble_eq_true rfl) dX12_isFetched_14 ?_
  refine s_VUN (pc := 15) (st := []) C h135 rfl (c_X12_movesE (d := d - 1) (by omega) σ hl2 hl1 (σ 136 26)) (by omega) lX12_180 dX12_isFetched_15 rfl (Nat.le_of_ble_eq_true rfl) rfl (fun s_15 hs_15 => ?_)
  refine g_iconst (pc := 18) (v := 0) C dX12_isFetched_18 (by decide) ?_
  refine g_is2n (pc := 19) C dX12_isFetched_19 ?_
  refine g_il2n (pc := 20) C dX12_isFetched_20 ?_
  refine g_iconst (pc := 21) (v := 2) C dX12_isFetched_21 (by decide) ?_
  refine g_icmp_geL (pc := 22) (tgt := 65) C dX12_isFetched_22 (by decide) (fun c => absurd c (by decide)) (fun _ => ?_)
  refine g_al0n (pc := 25) C dX12_isFetched_25 ?_
  refine s_getR (pc := 26) C fX12_9 h135 rfl dX12_isFetched_26 ?_
  refine g_il1n (pc := 29) C dX12_isFetched_29 ?_
  refine g_il2n (pc := 30) C dX12_isFetched_30 ?_
  refine s_SI (pc := 31) (st := [(.ref 136)]) C (c_X12_ropeAt (d := d - 1) (by omega) s_15 w 0) (by omega) lX12_92 dX12_isFetched_31 rfl (Nat.le_of_ble_eq_true rfl) rfl ?_
  refine s_iald (pc := 34) (q := 33 + 4 * w + 2 * 0) C h136 rfl (by omega) (Nat.le_of_ble_eq_true rfl) dX12_isFetched_34 ?_
  refine g_if_ne (pc := 35) (tgt := 59) C dX12_isFetched_35 (by decide) (fun c_35 => ?_) (fun c_35 => ?_)
  · refine g_ii2 (pc := 59) (v := 1) C dX12_isFetched_59 (by decide) ?_
    refine g_goto (pc := 62) (tgt := 20) C dX12_isFetched_62 (by decide) ?_
    refine g_il2n (pc := 20) C dX12_isFetched_20 ?_
    refine g_iconst (pc := 21) (v := 2) C dX12_isFetched_21 (by decide) ?_
    refine g_icmp_geL (pc := 22) (tgt := 65) C dX12_isFetched_22 (by decide) (fun c => absurd c (by decide)) (fun _ => ?_)
    refine g_al0n (pc := 25) C dX12_isFetched_25 ?_
    refine s_getR (pc := 26) C fX12_9 h135 rfl dX12_isFetched_26 ?_
    refine g_il1n (pc := 29) C dX12_isFetched_29 ?_
    refine g_il2n (pc := 30) C dX12_isFetched_30 ?_
    refine s_SI (pc := 31) (st := [(.ref 136)]) C (c_X12_ropeAt (d := d - 1) (by omega) s_15 w 1) (by omega) lX12_92 dX12_isFetched_31 rfl (Nat.le_of_ble_eq_true rfl) rfl ?_
    refine s_iald (pc := 34) (q := 33 + 4 * w + 2 * 1) C h136 rfl (by omega) (Nat.le_of_ble_eq_true rfl) dX12_isFetched_34 ?_
    refine g_if_ne (pc := 35) (tgt := 59) C dX12_isFetched_35 (by decide) (fun c_35_2 => ?_) (fun c_35_2 => ?_)
    · refine g_ii2 (pc := 59) (v := 2) C dX12_isFetched_59 (by decide) ?_
      refine g_goto (pc := 62) (tgt := 20) C dX12_isFetched_62 (by decide) ?_
      refine g_il2n (pc := 20) C dX12_isFetched_20 ?_
      refine g_iconst (pc := 21) (v := 2) C dX12_isFetched_21 (by decide) ?_
      refine g_icmp_geL (pc := 22) (tgt := 65) C dX12_isFetched_22 (by decide) (fun _ => ?_) (fun c => absurd c (by decide))
      refine r_Q C hr dX12_isFetched_65 ⟨?_, ?_⟩
      · simp only [hs_15, up_at] at c_35 c_35_2
        simp only [fetchedS, fetchR, ropeS, hs_15, up_at, c_35, c_35_2, eq_self, ne_eq, not_true_eq_false, not_false_eq_true, Classical.not_not, decide_true, decide_false, and_true, true_and, and_false, false_and, and_self, or_true, true_or, or_false, false_or, or_self, if_true, if_false, ite_true, ite_false, Bool.eq_false_iff, Bool.not_eq_eq_eq_not, Bool.true_eq_false, Bool.false_eq_true, reduceCtorEq]
      · rw [hs_15]; exact eqx_u (Eqx.rf)
    · refine g_al0n (pc := 38) C dX12_isFetched_38 ?_
      refine g_il1n (pc := 39) C dX12_isFetched_39 ?_
      refine g_il2n (pc := 40) C dX12_isFetched_40 ?_
      refine g_iconst (pc := 41) (v := 1) C dX12_isFetched_41 (by decide) ?_
      refine g_al0n (pc := 42) C dX12_isFetched_42 ?_
      refine s_getR (pc := 43) C fX12_9 h135 rfl dX12_isFetched_43 ?_
      refine g_iconst (pc := 46) (v := 0) C dX12_isFetched_46 (by decide) ?_
      refine s_iald (pc := 47) (q := 0) C h136 rfl (by omega) (Nat.le_of_ble_eq_true rfl) dX12_isFetched_47 ?_
      refine g_al0n (pc := 48) C dX12_isFetched_48 ?_
      refine s_getR (pc := 49) C fX12_9 h135 rfl dX12_isFetched_49 ?_
      refine g_bipush (pc := 52) (v := 26) C dX12_isFetched_52 (by decide) ?_
      refine s_iald (pc := 54) (q := 26) C h136 rfl (by omega) (Nat.le_of_ble_eq_true rfl) dX12_isFetched_54 ?_
      refine g_iadd (pc := 55) C dX12_isFetched_55 ?_
      refine s_VUN (pc := 56) (st := []) C h135 rfl (c_X12_ropeIs (d := d - 1) (by omega) s_15 (w := w) (r := 1) (by omega) (by omega) 1 ((s_15 136 0) + (s_15 136 26))) (by omega) lX12_96 dX12_isFetched_56 rfl (Nat.le_of_ble_eq_true rfl) rfl (fun s_56 hs_56 => ?_)
      refine g_ii2 (pc := 59) (v := 2) C dX12_isFetched_59 (by decide) ?_
      refine g_goto (pc := 62) (tgt := 20) C dX12_isFetched_62 (by decide) ?_
      refine g_il2n (pc := 20) C dX12_isFetched_20 ?_
      refine g_iconst (pc := 21) (v := 2) C dX12_isFetched_21 (by decide) ?_
      refine g_icmp_geL (pc := 22) (tgt := 65) C dX12_isFetched_22 (by decide) (fun _ => ?_) (fun c => absurd c (by decide))
      refine r_Q C hr dX12_isFetched_65 ⟨?_, ?_⟩
      · simp only [hs_56, hs_15, up_at] at c_35 c_35_2
        simp only [fetchedS, fetchR, ropeS, hs_56, hs_15, up_at, c_35, c_35_2, eq_self, ne_eq, not_true_eq_false, not_false_eq_true, Classical.not_not, decide_true, decide_false, and_true, true_and, and_false, false_and, and_self, or_true, true_or, or_false, false_or, or_self, if_true, if_false, ite_true, ite_false, Bool.eq_false_iff, Bool.not_eq_eq_eq_not, Bool.true_eq_false, Bool.false_eq_true, reduceCtorEq]
      · rw [hs_56, hs_15]; exact eqx_u (eqx_u (eqx_u (Eqx.rf)))
  · refine g_al0n (pc := 38) C dX12_isFetched_38 ?_
    refine g_il1n (pc := 39) C dX12_isFetched_39 ?_
    refine g_il2n (pc := 40) C dX12_isFetched_40 ?_
    refine g_iconst (pc := 41) (v := 1) C dX12_isFetched_41 (by decide) ?_
    refine g_al0n (pc := 42) C dX12_isFetched_42 ?_
    refine s_getR (pc := 43) C fX12_9 h135 rfl dX12_isFetched_43 ?_
    refine g_iconst (pc := 46) (v := 0) C dX12_isFetched_46 (by decide) ?_
    refine s_iald (pc := 47) (q := 0) C h136 rfl (by omega) (Nat.le_of_ble_eq_true rfl) dX12_isFetched_47 ?_
    refine g_al0n (pc := 48) C dX12_isFetched_48 ?_
    refine s_getR (pc := 49) C fX12_9 h135 rfl dX12_isFetched_49 ?_
    refine g_bipush (pc := 52) (v := 26) C dX12_isFetched_52 (by decide) ?_
    refine s_iald (pc := 54) (q := 26) C h136 rfl (by omega) (Nat.le_of_ble_eq_true rfl) dX12_isFetched_54 ?_
    refine g_iadd (pc := 55) C dX12_isFetched_55 ?_
    refine s_VUN (pc := 56) (st := []) C h135 rfl (c_X12_ropeIs (d := d - 1) (by omega) s_15 (w := w) (r := 0) (by omega) (by omega) 1 ((s_15 136 0) + (s_15 136 26))) (by omega) lX12_96 dX12_isFetched_56 rfl (Nat.le_of_ble_eq_true rfl) rfl (fun s_56 hs_56 => ?_)
    refine g_ii2 (pc := 59) (v := 1) C dX12_isFetched_59 (by decide) ?_
    refine g_goto (pc := 62) (tgt := 20) C dX12_isFetched_62 (by decide) ?_
    refine g_il2n (pc := 20) C dX12_isFetched_20 ?_
    refine g_iconst (pc := 21) (v := 2) C dX12_isFetched_21 (by decide) ?_
    refine g_icmp_geL (pc := 22) (tgt := 65) C dX12_isFetched_22 (by decide) (fun c => absurd c (by decide)) (fun _ => ?_)
    refine g_al0n (pc := 25) C dX12_isFetched_25 ?_
    refine s_getR (pc := 26) C fX12_9 h135 rfl dX12_isFetched_26 ?_
    refine g_il1n (pc := 29) C dX12_isFetched_29 ?_
    refine g_il2n (pc := 30) C dX12_isFetched_30 ?_
    refine s_SI (pc := 31) (st := [(.ref 136)]) C (c_X12_ropeAt (d := d - 1) (by omega) s_56 w 1) (by omega) lX12_92 dX12_isFetched_31 rfl (Nat.le_of_ble_eq_true rfl) rfl ?_
    refine s_iald (pc := 34) (q := 33 + 4 * w + 2 * 1) C h136 rfl (by omega) (Nat.le_of_ble_eq_true rfl) dX12_isFetched_34 ?_
    refine g_if_ne (pc := 35) (tgt := 59) C dX12_isFetched_35 (by decide) (fun c_35_2 => ?_) (fun c_35_2 => ?_)
    · refine g_ii2 (pc := 59) (v := 2) C dX12_isFetched_59 (by decide) ?_
      refine g_goto (pc := 62) (tgt := 20) C dX12_isFetched_62 (by decide) ?_
      refine g_il2n (pc := 20) C dX12_isFetched_20 ?_
      refine g_iconst (pc := 21) (v := 2) C dX12_isFetched_21 (by decide) ?_
      refine g_icmp_geL (pc := 22) (tgt := 65) C dX12_isFetched_22 (by decide) (fun _ => ?_) (fun c => absurd c (by decide))
      refine r_Q C hr dX12_isFetched_65 ⟨?_, ?_⟩
      · simp only [hs_56, hs_15, up_at] at c_35 c_35_2
        simp only [fetchedS, fetchR, ropeS, hs_56, hs_15, up_at, c_35, c_35_2, eq_self, ne_eq, not_true_eq_false, not_false_eq_true, Classical.not_not, decide_true, decide_false, and_true, true_and, and_false, false_and, and_self, or_true, true_or, or_false, false_or, or_self, if_true, if_false, ite_true, ite_false, Bool.eq_false_iff, Bool.not_eq_eq_eq_not, Bool.true_eq_false, Bool.false_eq_true, reduceCtorEq]
      · rw [hs_56, hs_15]; exact eqx_u (eqx_u (eqx_u (Eqx.rf)))
    · refine g_al0n (pc := 38) C dX12_isFetched_38 ?_
      refine g_il1n (pc := 39) C dX12_isFetched_39 ?_
      refine g_il2n (pc := 40) C dX12_isFetched_40 ?_
      refine g_iconst (pc := 41) (v := 1) C dX12_isFetched_41 (by decide) ?_
      refine g_al0n (pc := 42) C dX12_isFetched_42 ?_
      refine s_getR (pc := 43) C fX12_9 h135 rfl dX12_isFetched_43 ?_
      refine g_iconst (pc := 46) (v := 0) C dX12_isFetched_46 (by decide) ?_
      refine s_iald (pc := 47) (q := 0) C h136 rfl (by omega) (Nat.le_of_ble_eq_true rfl) dX12_isFetched_47 ?_
      refine g_al0n (pc := 48) C dX12_isFetched_48 ?_
      refine s_getR (pc := 49) C fX12_9 h135 rfl dX12_isFetched_49 ?_
      refine g_bipush (pc := 52) (v := 26) C dX12_isFetched_52 (by decide) ?_
      refine s_iald (pc := 54) (q := 26) C h136 rfl (by omega) (Nat.le_of_ble_eq_true rfl) dX12_isFetched_54 ?_
      refine g_iadd (pc := 55) C dX12_isFetched_55 ?_
      refine s_VUN (pc := 56) (st := []) C h135 rfl (c_X12_ropeIs (d := d - 1) (by omega) s_56 (w := w) (r := 1) (by omega) (by omega) 1 ((s_56 136 0) + (s_56 136 26))) (by omega) lX12_96 dX12_isFetched_56 rfl (Nat.le_of_ble_eq_true rfl) rfl (fun s_56_2 hs_56_2 => ?_)
      refine g_ii2 (pc := 59) (v := 2) C dX12_isFetched_59 (by decide) ?_
      refine g_goto (pc := 62) (tgt := 20) C dX12_isFetched_62 (by decide) ?_
      refine g_il2n (pc := 20) C dX12_isFetched_20 ?_
      refine g_iconst (pc := 21) (v := 2) C dX12_isFetched_21 (by decide) ?_
      refine g_icmp_geL (pc := 22) (tgt := 65) C dX12_isFetched_22 (by decide) (fun _ => ?_) (fun c => absurd c (by decide))
      refine r_Q C hr dX12_isFetched_65 ⟨?_, ?_⟩
      · simp only [hs_56_2, hs_56, hs_15, up_at] at c_35 c_35_2
        simp only [fetchedS, fetchR, ropeS, hs_56_2, hs_56, hs_15, up_at, c_35, c_35_2, eq_self, ne_eq, not_true_eq_false, not_false_eq_true, Classical.not_not, decide_true, decide_false, and_true, true_and, and_false, false_and, and_self, or_true, true_or, or_false, false_or, or_self, if_true, if_false, ite_true, ite_false, Bool.eq_false_iff, Bool.not_eq_eq_eq_not, Bool.true_eq_false, Bool.false_eq_true, reduceCtorEq]
      · rw [hs_56_2, hs_56, hs_15]; exact eqx_u (eqx_u (eqx_u (eqx_u (eqx_u (Eqx.rf)))))

