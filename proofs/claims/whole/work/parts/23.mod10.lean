/-! ===== the model: the next minute is open ===== -/
theorem ropeS_keep {ν : Nu} {w r j : Nat} {x y : Int32} (h : j ≠ 33 + 4 * w + 2 * r) (h2 : j ≠ 33 + 4 * w + 2 * r + 1) : ropeS ν w r x y j = ν j := by
  unfold ropeS
  rw [upd_ne _ _ h2, upd_ne _ _ h]
theorem openR_keep {ν : Nu} {w r j : Nat} (h : j ≠ 33 + 4 * w + 2 * r) (h2 : j ≠ 33 + 4 * w + 2 * r + 1) : openR ν w r j = ν j := by
  unfold openR
  split
  · exact ropeS_keep h h2
  · rfl
theorem openW_keep {ν : Nu} {n j : Nat} (hn : n ≤ 3) (h : j < 33 ∨ 45 ≤ j) : openW ν n j = ν j := by
  induction n with
  | zero => rfl
  | succ n ih =>
    show openR (openR (openW ν n) n 0) n 1 j = ν j
    rw [openR_keep (by omega) (by omega), openR_keep (by omega) (by omega)]
    exact ih (by omega)
theorem openP_keep {ν : Nu} {n j : Nat} (hn : n ≤ 3) (h : j < 30 ∨ 33 ≤ j) : openP ν n j = ν j := by
  induction n with
  | zero => rfl
  | succ n ih =>
    show upd (openP ν n) (30 + n) _ j = ν j
    rw [upd_ne _ _ (by omega)]
    exact ih (by omega)
theorem openW_s (ν : Nu) (n : Nat) : openW ν (n + 1) = openR (openR (openW ν n) n 0) n 1 := rfl
theorem openP_s (ν : Nu) (n : Nat) : openP ν (n + 1) = upd (openP ν n) (30 + n) (if openP ν n (30 + n) ≤ openP ν n 0 then -1 else openP ν n (30 + n)) := rfl
theorem lp_X12_opensP {μ : Mx} {ω : Om} {d : Nat} (hd : 3 ≤ d) (C : Cx μ ω "TowFieldModel" cX12_opens 4 d) (hr : (mH μ).sig.returnType = none) (σ : Sg) {n : Nat} (hn : σ 136 6 = nI n) (hn2 : n ≤ 3) (ν : Nu) (h6 : ν 6 = σ 136 6) (l2 l3 : Option Value) (hf : openP ν n = openS (σ 136)) : ∀ (f i : Nat) (τ : Sg), i + f = n → (τ 136 = openP ν i) → (Eqx [136, 143] σ τ) → G μ ω (RQ μ ω (pQ (fun τ' => τ' 136 = openS (σ 136) ∧ Eqx [136, 143] σ τ'))) 102 [some (.ref 135), some (.int (nI i)), l2, l3] [] (mk τ) 0 0 := by
  intro f
  induction f with
  | zero =>
    intro i τ hif hv hv1
    have hin : i = n := by omega
    have r6 : τ 136 6 = σ 136 6 := by rw [hv, openP_keep (by omega) (by omega)]; exact h6
    refine g_il1n (pc := 102) C dX12_opens_102 ?_
    refine g_al0n (pc := 103) C dX12_opens_103 ?_
    refine s_getR (pc := 104) C fX12_9 h135 rfl dX12_opens_104 ?_
    refine g_bipush (pc := 107) (v := 6) C dX12_opens_107 (by decide) ?_
    refine s_iald (pc := 109) (q := 6) C h136 rfl (by omega) (Nat.le_of_ble_eq_true rfl) dX12_opens_109 ?_
    refine g_icmp_geL (pc := 110) (tgt := 159) C dX12_opens_110 (by decide) (fun c_110 => ?_) (fun c_110 => absurd c_110 (by rw [r6, hn]; exact nI_nlt (by omega) (by omega)))
    exact r_Q C hr dX12_opens_159 ⟨by rw [hv, hin, hf], hv1⟩
  | succ f ih =>
    intro i τ hif hv hv1
    have r6 : τ 136 6 = σ 136 6 := by rw [hv, openP_keep (by omega) (by omega)]; exact h6
    refine g_il1n (pc := 102) C dX12_opens_102 ?_
    refine g_al0n (pc := 103) C dX12_opens_103 ?_
    refine s_getR (pc := 104) C fX12_9 h135 rfl dX12_opens_104 ?_
    refine g_bipush (pc := 107) (v := 6) C dX12_opens_107 (by decide) ?_
    refine s_iald (pc := 109) (q := 6) C h136 rfl (by omega) (Nat.le_of_ble_eq_true rfl) dX12_opens_109 ?_
    refine g_icmp_geL (pc := 110) (tgt := 159) C dX12_opens_110 (by decide) (fun c_110 => absurd (by rw [r6, hn]; exact nI_lt (by omega) (by omega)) c_110) (fun c_110 => ?_)
    refine g_al0n (pc := 113) C dX12_opens_113 ?_
    refine s_getR (pc := 114) C fX12_9 h135 rfl dX12_opens_114 ?_
    refine g_bipush (pc := 117) (v := 30) C dX12_opens_117 (by decide) ?_
    refine g_il1n (pc := 119) C dX12_opens_119 ?_
    refine g_iadd (pc := 120) C dX12_opens_120 ?_
    refine g_al0n (pc := 121) C dX12_opens_121 ?_
    refine s_getR (pc := 122) C fX12_9 h135 rfl dX12_opens_122 ?_
    refine g_bipush (pc := 125) (v := 30) C dX12_opens_125 (by decide) ?_
    refine g_il1n (pc := 127) C dX12_opens_127 ?_
    refine g_iadd (pc := 128) C dX12_opens_128 ?_
    refine s_iald (pc := 129) (q := 30 + i) C h136 (by first | (simp only [ixl, nI_add, pk_mul]; done) | rfl | decide) (by omega) (Nat.le_of_ble_eq_true rfl) dX12_opens_129 ?_
    refine g_al0n (pc := 130) C dX12_opens_130 ?_
    refine s_getR (pc := 131) C fX12_9 h135 rfl dX12_opens_131 ?_
    refine g_iconst (pc := 134) (v := 0) C dX12_opens_134 (by decide) ?_
    refine s_iald (pc := 135) (q := 0) C h136 rfl (by omega) (Nat.le_of_ble_eq_true rfl) dX12_opens_135 ?_
    refine g_icmp_gt (pc := 136) (tgt := 143) C dX12_opens_136 (by decide) (fun c_136 => ?_) (fun c_136 => ?_)
    · refine g_al0n (pc := 143) C dX12_opens_143 ?_
      refine s_getR (pc := 144) C fX12_9 h135 rfl dX12_opens_144 ?_
      refine g_bipush (pc := 147) (v := 30) C dX12_opens_147 (by decide) ?_
      refine g_il1n (pc := 149) C dX12_opens_149 ?_
      refine g_iadd (pc := 150) C dX12_opens_150 ?_
      refine s_iald (pc := 151) (q := 30 + i) C h136 (by first | (simp only [ixl, nI_add, pk_mul]; done) | rfl | decide) (by omega) (Nat.le_of_ble_eq_true rfl) dX12_opens_151 ?_
      refine s_iastN (pc := 152) (q := 30 + i) C h136 (by first | (simp only [ixl, nI_add, pk_mul]; done) | rfl | decide) (by omega) (Nat.le_of_ble_eq_true rfl) dX12_opens_152 (fun s_152 hs_152 => ?_)
      refine g_ii1 (pc := 153) (v := nI (i + 1)) C dX12_opens_153 (nI_inc1 _) ?_
      refine g_goto (pc := 156) (tgt := 102) C dX12_opens_156 (by decide) ?_
      exact ih (i + 1) s_152 (by omega) (by rw [hs_152, up_at, openP_s, ← hv]; simp only [← Int32.not_lt, c_136, eq_self, ne_eq, not_true_eq_false, not_false_eq_true, Classical.not_not, decide_true, decide_false, and_true, true_and, and_false, false_and, and_self, or_true, true_or, or_false, false_or, or_self, if_true, if_false, ite_true, ite_false, Bool.eq_false_iff, Bool.not_eq_eq_eq_not, Bool.true_eq_false, Bool.false_eq_true, reduceCtorEq]) (by rw [hs_152]; exact eqx_u hv1)
    · refine g_iconst (pc := 139) (v := (-1)) C dX12_opens_139 (by decide) ?_
      refine g_goto (pc := 140) (tgt := 152) C dX12_opens_140 (by decide) ?_
      refine s_iastN (pc := 152) (q := 30 + i) C h136 (by first | (simp only [ixl, nI_add, pk_mul]; done) | rfl | decide) (by omega) (Nat.le_of_ble_eq_true rfl) dX12_opens_152 (fun s_152 hs_152 => ?_)
      refine g_ii1 (pc := 153) (v := nI (i + 1)) C dX12_opens_153 (nI_inc1 _) ?_
      refine g_goto (pc := 156) (tgt := 102) C dX12_opens_156 (by decide) ?_
      exact ih (i + 1) s_152 (by omega) (by rw [hs_152, up_at, openP_s, ← hv]; simp only [← Int32.not_lt, c_136, eq_self, ne_eq, not_true_eq_false, not_false_eq_true, Classical.not_not, decide_true, decide_false, and_true, true_and, and_false, false_and, and_self, or_true, true_or, or_false, false_or, or_self, if_true, if_false, ite_true, ite_false, Bool.eq_false_iff, Bool.not_eq_eq_eq_not, Bool.true_eq_false, Bool.false_eq_true, reduceCtorEq]) (by rw [hs_152]; exact eqx_u hv1)

theorem y_opens_0 {μ : Mx} {ω : Om} {d : Nat} (hd : 3 ≤ d) (C : Cx μ ω "TowFieldModel" cX12_opens 4 d) (hr : (mH μ).sig.returnType = none) (σ : Sg) {i : Nat} (hi : i < 3) (l3 : Option Value) (τ : Sg) (hE : Eqx [136, 143] σ τ) (k : ∀ (l3 : Option Value) (τ' : Sg), τ' 136 = openR (τ 136) i 0 → Eqx [136, 143] σ τ' → G μ ω (RQ μ ω (pQ (fun τ' => τ' 136 = openS (σ 136) ∧ Eqx [136, 143] σ τ'))) 24 [some (.ref 135), some (.int (nI i)), some (.int 1), l3] [] (mk τ') 0 0) : G μ ω (RQ μ ω (pQ (fun τ' => τ' 136 = openS (σ 136) ∧ Eqx [136, 143] σ τ'))) 24 [some (.ref 135), some (.int (nI i)), some (.int 0), l3] [] (mk τ) 0 0 := by
  refine g_il2n (pc := 24) C dX12_opens_24 ?_
  refine g_iconst (pc := 25) (v := 2) C dX12_opens_25 (by decide) ?_
  refine g_icmp_geL (pc := 26) (tgt := 94) C dX12_opens_26 (by decide) (fun c => absurd c (by decide)) (fun _ => ?_)
  refine g_al0n (pc := 29) C dX12_opens_29 ?_
  refine s_getR (pc := 30) C fX12_9 h135 rfl dX12_opens_30 ?_
  refine g_il1n (pc := 33) C dX12_opens_33 ?_
  refine g_il2n (pc := 34) C dX12_opens_34 ?_
  refine s_SI (pc := 35) (st := [(.ref 136)]) C (c_X12_ropeAt (d := d - 1) (by omega) τ i 0) (by omega) lX12_92 dX12_opens_35 rfl (Nat.le_of_ble_eq_true rfl) rfl ?_
  refine s_iald (pc := 38) (q := 33 + 4 * i + 2 * 0) C h136 rfl (by omega) (Nat.le_of_ble_eq_true rfl) dX12_opens_38 ?_
  refine g_is3n (pc := 39) C dX12_opens_39 ?_
  refine g_il3n (pc := 40) C dX12_opens_40 ?_
  refine g_iconst (pc := 41) (v := 1) C dX12_opens_41 (by decide) ?_
  refine g_icmp_eq (pc := 42) (tgt := 50) C dX12_opens_42 (by decide) (fun c_42 => ?_) (fun c_42 => ?_)
  · refine g_al0n (pc := 50) C dX12_opens_50 ?_
    refine s_getR (pc := 51) C fX12_9 h135 rfl dX12_opens_51 ?_
    refine g_il1n (pc := 54) C dX12_opens_54 ?_
    refine g_il2n (pc := 55) C dX12_opens_55 ?_
    refine s_SI (pc := 56) (st := [(.ref 136)]) C (c_X12_ropeAt (d := d - 1) (by omega) τ i 0) (by omega) lX12_92 dX12_opens_56 rfl (Nat.le_of_ble_eq_true rfl) rfl ?_
    refine g_iconst (pc := 59) (v := 1) C dX12_opens_59 (by decide) ?_
    refine g_iadd (pc := 60) C dX12_opens_60 ?_
    refine s_iald (pc := 61) (q := 33 + 4 * i + 2 * 0 + 1) C h136 (by first | (simp only [ixl, nI_add, pk_mul]; done) | rfl | decide) (by omega) (Nat.le_of_ble_eq_true rfl) dX12_opens_61 ?_
    refine g_al0n (pc := 62) C dX12_opens_62 ?_
    refine s_getR (pc := 63) C fX12_9 h135 rfl dX12_opens_63 ?_
    refine g_iconst (pc := 66) (v := 0) C dX12_opens_66 (by decide) ?_
    refine s_iald (pc := 67) (q := 0) C h136 rfl (by omega) (Nat.le_of_ble_eq_true rfl) dX12_opens_67 ?_
    refine g_icmp_gt (pc := 68) (tgt := 88) C dX12_opens_68 (by decide) (fun c_68 => ?_) (fun c_68 => ?_)
    · refine g_ii2 (pc := 88) (v := 1) C dX12_opens_88 (by decide) ?_
      refine g_goto (pc := 91) (tgt := 24) C dX12_opens_91 (by decide) ?_
      exact k _ τ (by first | exact absurd c_42 c_76 | exact absurd c_76 c_42 | (rw [c_47] at c_76; exact absurd c_76 (by decide)) | (simp only [openR, ropeS, up_at, ← Int32.not_lt, c_42, c_68, eq_self, ne_eq, not_true_eq_false, not_false_eq_true, Classical.not_not, decide_true, decide_false, and_true, true_and, and_false, false_and, and_self, or_true, true_or, or_false, false_or, or_self, if_true, if_false, ite_true, ite_false, Bool.eq_false_iff, Bool.not_eq_eq_eq_not, Bool.true_eq_false, Bool.false_eq_true, reduceCtorEq]; done) | (simp only [openR, ropeS, up_at, ← Int32.not_lt, c_42, c_68, eq_self, ne_eq, not_true_eq_false, not_false_eq_true, Classical.not_not, decide_true, decide_false, and_true, true_and, and_false, false_and, and_self, or_true, true_or, or_false, false_or, or_self, if_true, if_false, ite_true, ite_false, Bool.eq_false_iff, Bool.not_eq_eq_eq_not, Bool.true_eq_false, Bool.false_eq_true, reduceCtorEq]; rw [if_neg (by decide)])) hE
    · refine g_al0n (pc := 71) C dX12_opens_71 ?_
      refine g_il1n (pc := 72) C dX12_opens_72 ?_
      refine g_il2n (pc := 73) C dX12_opens_73 ?_
      refine g_il3n (pc := 74) C dX12_opens_74 ?_
      refine g_iconst (pc := 75) (v := 1) C dX12_opens_75 (by decide) ?_
      refine g_icmp_ne (pc := 76) (tgt := 83) C dX12_opens_76 (by decide) (fun c_76 => ?_) (fun c_76 => ?_)
      · refine g_iconst (pc := 83) (v := 0) C dX12_opens_83 (by decide) ?_
        refine g_iconst (pc := 84) (v := (-1)) C dX12_opens_84 (by decide) ?_
        refine s_VUN (pc := 85) (st := []) C h135 rfl (c_X12_ropeIs (d := d - 1) (by omega) τ (w := i) (r := 0) (by omega) (by omega) 0 ((-1))) (by omega) lX12_96 dX12_opens_85 rfl (Nat.le_of_ble_eq_true rfl) rfl (fun s_85 hs_85 => ?_)
        refine g_ii2 (pc := 88) (v := 1) C dX12_opens_88 (by decide) ?_
        refine g_goto (pc := 91) (tgt := 24) C dX12_opens_91 (by decide) ?_
        exact k _ s_85 (by first | exact absurd c_42 c_76 | exact absurd c_76 c_42 | (rw [c_47] at c_76; exact absurd c_76 (by decide)) | (simp only [openR, ropeS, hs_85, up_at, ← Int32.not_lt, c_42, c_68, c_76, eq_self, ne_eq, not_true_eq_false, not_false_eq_true, Classical.not_not, decide_true, decide_false, and_true, true_and, and_false, false_and, and_self, or_true, true_or, or_false, false_or, or_self, if_true, if_false, ite_true, ite_false, Bool.eq_false_iff, Bool.not_eq_eq_eq_not, Bool.true_eq_false, Bool.false_eq_true, reduceCtorEq]; done) | (simp only [openR, ropeS, hs_85, up_at, ← Int32.not_lt, c_42, c_68, c_76, eq_self, ne_eq, not_true_eq_false, not_false_eq_true, Classical.not_not, decide_true, decide_false, and_true, true_and, and_false, false_and, and_self, or_true, true_or, or_false, false_or, or_self, if_true, if_false, ite_true, ite_false, Bool.eq_false_iff, Bool.not_eq_eq_eq_not, Bool.true_eq_false, Bool.false_eq_true, reduceCtorEq]; rw [if_neg (by decide)])) (by rw [hs_85]; exact eqx_u (eqx_u hE))
      · refine g_iconst (pc := 79) (v := 2) C dX12_opens_79 (by decide) ?_
        refine g_goto (pc := 80) (tgt := 84) C dX12_opens_80 (by decide) ?_
        refine g_iconst (pc := 84) (v := (-1)) C dX12_opens_84 (by decide) ?_
        refine s_VUN (pc := 85) (st := []) C h135 rfl (c_X12_ropeIs (d := d - 1) (by omega) τ (w := i) (r := 0) (by omega) (by omega) 2 ((-1))) (by omega) lX12_96 dX12_opens_85 rfl (Nat.le_of_ble_eq_true rfl) rfl (fun s_85 hs_85 => ?_)
        refine g_ii2 (pc := 88) (v := 1) C dX12_opens_88 (by decide) ?_
        refine g_goto (pc := 91) (tgt := 24) C dX12_opens_91 (by decide) ?_
        exact k _ s_85 (by first | exact absurd c_42 c_76 | exact absurd c_76 c_42 | (rw [c_47] at c_76; exact absurd c_76 (by decide)) | (simp only [openR, ropeS, hs_85, up_at, ← Int32.not_lt, c_42, c_68, c_76, eq_self, ne_eq, not_true_eq_false, not_false_eq_true, Classical.not_not, decide_true, decide_false, and_true, true_and, and_false, false_and, and_self, or_true, true_or, or_false, false_or, or_self, if_true, if_false, ite_true, ite_false, Bool.eq_false_iff, Bool.not_eq_eq_eq_not, Bool.true_eq_false, Bool.false_eq_true, reduceCtorEq]; done) | (simp only [openR, ropeS, hs_85, up_at, ← Int32.not_lt, c_42, c_68, c_76, eq_self, ne_eq, not_true_eq_false, not_false_eq_true, Classical.not_not, decide_true, decide_false, and_true, true_and, and_false, false_and, and_self, or_true, true_or, or_false, false_or, or_self, if_true, if_false, ite_true, ite_false, Bool.eq_false_iff, Bool.not_eq_eq_eq_not, Bool.true_eq_false, Bool.false_eq_true, reduceCtorEq]; rw [if_neg (by decide)])) (by rw [hs_85]; exact eqx_u (eqx_u hE))
  · refine g_il3n (pc := 45) C dX12_opens_45 ?_
    refine g_iconst (pc := 46) (v := 3) C dX12_opens_46 (by decide) ?_
    refine g_icmp_ne (pc := 47) (tgt := 88) C dX12_opens_47 (by decide) (fun c_47 => ?_) (fun c_47 => ?_)
    · refine g_ii2 (pc := 88) (v := 1) C dX12_opens_88 (by decide) ?_
      refine g_goto (pc := 91) (tgt := 24) C dX12_opens_91 (by decide) ?_
      exact k _ τ (by first | exact absurd c_42 c_76 | exact absurd c_76 c_42 | (rw [c_47] at c_76; exact absurd c_76 (by decide)) | (simp only [openR, ropeS, up_at, ← Int32.not_lt, c_42, c_47, eq_self, ne_eq, not_true_eq_false, not_false_eq_true, Classical.not_not, decide_true, decide_false, and_true, true_and, and_false, false_and, and_self, or_true, true_or, or_false, false_or, or_self, if_true, if_false, ite_true, ite_false, Bool.eq_false_iff, Bool.not_eq_eq_eq_not, Bool.true_eq_false, Bool.false_eq_true, reduceCtorEq]; done) | (simp only [openR, ropeS, up_at, ← Int32.not_lt, c_42, c_47, eq_self, ne_eq, not_true_eq_false, not_false_eq_true, Classical.not_not, decide_true, decide_false, and_true, true_and, and_false, false_and, and_self, or_true, true_or, or_false, false_or, or_self, if_true, if_false, ite_true, ite_false, Bool.eq_false_iff, Bool.not_eq_eq_eq_not, Bool.true_eq_false, Bool.false_eq_true, reduceCtorEq]; rw [if_neg (by decide)])) hE
    · refine g_al0n (pc := 50) C dX12_opens_50 ?_
      refine s_getR (pc := 51) C fX12_9 h135 rfl dX12_opens_51 ?_
      refine g_il1n (pc := 54) C dX12_opens_54 ?_
      refine g_il2n (pc := 55) C dX12_opens_55 ?_
      refine s_SI (pc := 56) (st := [(.ref 136)]) C (c_X12_ropeAt (d := d - 1) (by omega) τ i 0) (by omega) lX12_92 dX12_opens_56 rfl (Nat.le_of_ble_eq_true rfl) rfl ?_
      refine g_iconst (pc := 59) (v := 1) C dX12_opens_59 (by decide) ?_
      refine g_iadd (pc := 60) C dX12_opens_60 ?_
      refine s_iald (pc := 61) (q := 33 + 4 * i + 2 * 0 + 1) C h136 (by first | (simp only [ixl, nI_add, pk_mul]; done) | rfl | decide) (by omega) (Nat.le_of_ble_eq_true rfl) dX12_opens_61 ?_
      refine g_al0n (pc := 62) C dX12_opens_62 ?_
      refine s_getR (pc := 63) C fX12_9 h135 rfl dX12_opens_63 ?_
      refine g_iconst (pc := 66) (v := 0) C dX12_opens_66 (by decide) ?_
      refine s_iald (pc := 67) (q := 0) C h136 rfl (by omega) (Nat.le_of_ble_eq_true rfl) dX12_opens_67 ?_
      refine g_icmp_gt (pc := 68) (tgt := 88) C dX12_opens_68 (by decide) (fun c_68 => ?_) (fun c_68 => ?_)
      · refine g_ii2 (pc := 88) (v := 1) C dX12_opens_88 (by decide) ?_
        refine g_goto (pc := 91) (tgt := 24) C dX12_opens_91 (by decide) ?_
        exact k _ τ (by first | exact absurd c_42 c_76 | exact absurd c_76 c_42 | (rw [c_47] at c_76; exact absurd c_76 (by decide)) | (simp only [openR, ropeS, up_at, ← Int32.not_lt, c_42, c_47, c_68, eq_self, ne_eq, not_true_eq_false, not_false_eq_true, Classical.not_not, decide_true, decide_false, and_true, true_and, and_false, false_and, and_self, or_true, true_or, or_false, false_or, or_self, if_true, if_false, ite_true, ite_false, Bool.eq_false_iff, Bool.not_eq_eq_eq_not, Bool.true_eq_false, Bool.false_eq_true, reduceCtorEq]; done) | (simp only [openR, ropeS, up_at, ← Int32.not_lt, c_42, c_47, c_68, eq_self, ne_eq, not_true_eq_false, not_false_eq_true, Classical.not_not, decide_true, decide_false, and_true, true_and, and_false, false_and, and_self, or_true, true_or, or_false, false_or, or_self, if_true, if_false, ite_true, ite_false, Bool.eq_false_iff, Bool.not_eq_eq_eq_not, Bool.true_eq_false, Bool.false_eq_true, reduceCtorEq]; rw [if_neg (by decide)])) hE
      · refine g_al0n (pc := 71) C dX12_opens_71 ?_
        refine g_il1n (pc := 72) C dX12_opens_72 ?_
        refine g_il2n (pc := 73) C dX12_opens_73 ?_
        refine g_il3n (pc := 74) C dX12_opens_74 ?_
        refine g_iconst (pc := 75) (v := 1) C dX12_opens_75 (by decide) ?_
        refine g_icmp_ne (pc := 76) (tgt := 83) C dX12_opens_76 (by decide) (fun c_76 => ?_) (fun c_76 => ?_)
        · refine g_iconst (pc := 83) (v := 0) C dX12_opens_83 (by decide) ?_
          refine g_iconst (pc := 84) (v := (-1)) C dX12_opens_84 (by decide) ?_
          refine s_VUN (pc := 85) (st := []) C h135 rfl (c_X12_ropeIs (d := d - 1) (by omega) τ (w := i) (r := 0) (by omega) (by omega) 0 ((-1))) (by omega) lX12_96 dX12_opens_85 rfl (Nat.le_of_ble_eq_true rfl) rfl (fun s_85 hs_85 => ?_)
          refine g_ii2 (pc := 88) (v := 1) C dX12_opens_88 (by decide) ?_
          refine g_goto (pc := 91) (tgt := 24) C dX12_opens_91 (by decide) ?_
          exact k _ s_85 (by first | exact absurd c_42 c_76 | exact absurd c_76 c_42 | (rw [c_47] at c_76; exact absurd c_76 (by decide)) | (simp only [openR, ropeS, hs_85, up_at, ← Int32.not_lt, c_42, c_47, c_68, c_76, eq_self, ne_eq, not_true_eq_false, not_false_eq_true, Classical.not_not, decide_true, decide_false, and_true, true_and, and_false, false_and, and_self, or_true, true_or, or_false, false_or, or_self, if_true, if_false, ite_true, ite_false, Bool.eq_false_iff, Bool.not_eq_eq_eq_not, Bool.true_eq_false, Bool.false_eq_true, reduceCtorEq]; done) | (simp only [openR, ropeS, hs_85, up_at, ← Int32.not_lt, c_42, c_47, c_68, c_76, eq_self, ne_eq, not_true_eq_false, not_false_eq_true, Classical.not_not, decide_true, decide_false, and_true, true_and, and_false, false_and, and_self, or_true, true_or, or_false, false_or, or_self, if_true, if_false, ite_true, ite_false, Bool.eq_false_iff, Bool.not_eq_eq_eq_not, Bool.true_eq_false, Bool.false_eq_true, reduceCtorEq]; rw [if_neg (by decide)])) (by rw [hs_85]; exact eqx_u (eqx_u hE))
        · refine g_iconst (pc := 79) (v := 2) C dX12_opens_79 (by decide) ?_
          refine g_goto (pc := 80) (tgt := 84) C dX12_opens_80 (by decide) ?_
          refine g_iconst (pc := 84) (v := (-1)) C dX12_opens_84 (by decide) ?_
          refine s_VUN (pc := 85) (st := []) C h135 rfl (c_X12_ropeIs (d := d - 1) (by omega) τ (w := i) (r := 0) (by omega) (by omega) 2 ((-1))) (by omega) lX12_96 dX12_opens_85 rfl (Nat.le_of_ble_eq_true rfl) rfl (fun s_85 hs_85 => ?_)
          refine g_ii2 (pc := 88) (v := 1) C dX12_opens_88 (by decide) ?_
          refine g_goto (pc := 91) (tgt := 24) C dX12_opens_91 (by decide) ?_
          exact k _ s_85 (by first | exact absurd c_42 c_76 | exact absurd c_76 c_42 | (rw [c_47] at c_76; exact absurd c_76 (by decide)) | (simp only [openR, ropeS, hs_85, up_at, ← Int32.not_lt, c_42, c_47, c_68, c_76, eq_self, ne_eq, not_true_eq_false, not_false_eq_true, Classical.not_not, decide_true, decide_false, and_true, true_and, and_false, false_and, and_self, or_true, true_or, or_false, false_or, or_self, if_true, if_false, ite_true, ite_false, Bool.eq_false_iff, Bool.not_eq_eq_eq_not, Bool.true_eq_false, Bool.false_eq_true, reduceCtorEq]; done) | (simp only [openR, ropeS, hs_85, up_at, ← Int32.not_lt, c_42, c_47, c_68, c_76, eq_self, ne_eq, not_true_eq_false, not_false_eq_true, Classical.not_not, decide_true, decide_false, and_true, true_and, and_false, false_and, and_self, or_true, true_or, or_false, false_or, or_self, if_true, if_false, ite_true, ite_false, Bool.eq_false_iff, Bool.not_eq_eq_eq_not, Bool.true_eq_false, Bool.false_eq_true, reduceCtorEq]; rw [if_neg (by decide)])) (by rw [hs_85]; exact eqx_u (eqx_u hE))

theorem y_opens_1 {μ : Mx} {ω : Om} {d : Nat} (hd : 3 ≤ d) (C : Cx μ ω "TowFieldModel" cX12_opens 4 d) (hr : (mH μ).sig.returnType = none) (σ : Sg) {i : Nat} (hi : i < 3) (l3 : Option Value) (τ : Sg) (hE : Eqx [136, 143] σ τ) (k : ∀ (l3 : Option Value) (τ' : Sg), τ' 136 = openR (τ 136) i 1 → Eqx [136, 143] σ τ' → G μ ω (RQ μ ω (pQ (fun τ' => τ' 136 = openS (σ 136) ∧ Eqx [136, 143] σ τ'))) 24 [some (.ref 135), some (.int (nI i)), some (.int 2), l3] [] (mk τ') 0 0) : G μ ω (RQ μ ω (pQ (fun τ' => τ' 136 = openS (σ 136) ∧ Eqx [136, 143] σ τ'))) 24 [some (.ref 135), some (.int (nI i)), some (.int 1), l3] [] (mk τ) 0 0 := by
  refine g_il2n (pc := 24) C dX12_opens_24 ?_
  refine g_iconst (pc := 25) (v := 2) C dX12_opens_25 (by decide) ?_
  refine g_icmp_geL (pc := 26) (tgt := 94) C dX12_opens_26 (by decide) (fun c => absurd c (by decide)) (fun _ => ?_)
  refine g_al0n (pc := 29) C dX12_opens_29 ?_
  refine s_getR (pc := 30) C fX12_9 h135 rfl dX12_opens_30 ?_
  refine g_il1n (pc := 33) C dX12_opens_33 ?_
  refine g_il2n (pc := 34) C dX12_opens_34 ?_
  refine s_SI (pc := 35) (st := [(.ref 136)]) C (c_X12_ropeAt (d := d - 1) (by omega) τ i 1) (by omega) lX12_92 dX12_opens_35 rfl (Nat.le_of_ble_eq_true rfl) rfl ?_
  refine s_iald (pc := 38) (q := 33 + 4 * i + 2 * 1) C h136 rfl (by omega) (Nat.le_of_ble_eq_true rfl) dX12_opens_38 ?_
  refine g_is3n (pc := 39) C dX12_opens_39 ?_
  refine g_il3n (pc := 40) C dX12_opens_40 ?_
  refine g_iconst (pc := 41) (v := 1) C dX12_opens_41 (by decide) ?_
  refine g_icmp_eq (pc := 42) (tgt := 50) C dX12_opens_42 (by decide) (fun c_42 => ?_) (fun c_42 => ?_)
  · refine g_al0n (pc := 50) C dX12_opens_50 ?_
    refine s_getR (pc := 51) C fX12_9 h135 rfl dX12_opens_51 ?_
    refine g_il1n (pc := 54) C dX12_opens_54 ?_
    refine g_il2n (pc := 55) C dX12_opens_55 ?_
    refine s_SI (pc := 56) (st := [(.ref 136)]) C (c_X12_ropeAt (d := d - 1) (by omega) τ i 1) (by omega) lX12_92 dX12_opens_56 rfl (Nat.le_of_ble_eq_true rfl) rfl ?_
    refine g_iconst (pc := 59) (v := 1) C dX12_opens_59 (by decide) ?_
    refine g_iadd (pc := 60) C dX12_opens_60 ?_
    refine s_iald (pc := 61) (q := 33 + 4 * i + 2 * 1 + 1) C h136 (by first | (simp only [ixl, nI_add, pk_mul]; done) | rfl | decide) (by omega) (Nat.le_of_ble_eq_true rfl) dX12_opens_61 ?_
    refine g_al0n (pc := 62) C dX12_opens_62 ?_
    refine s_getR (pc := 63) C fX12_9 h135 rfl dX12_opens_63 ?_
    refine g_iconst (pc := 66) (v := 0) C dX12_opens_66 (by decide) ?_
    refine s_iald (pc := 67) (q := 0) C h136 rfl (by omega) (Nat.le_of_ble_eq_true rfl) dX12_opens_67 ?_
    refine g_icmp_gt (pc := 68) (tgt := 88) C dX12_opens_68 (by decide) (fun c_68 => ?_) (fun c_68 => ?_)
    · refine g_ii2 (pc := 88) (v := 2) C dX12_opens_88 (by decide) ?_
      refine g_goto (pc := 91) (tgt := 24) C dX12_opens_91 (by decide) ?_
      exact k _ τ (by first | exact absurd c_42 c_76 | exact absurd c_76 c_42 | (rw [c_47] at c_76; exact absurd c_76 (by decide)) | (simp only [openR, ropeS, up_at, ← Int32.not_lt, c_42, c_68, eq_self, ne_eq, not_true_eq_false, not_false_eq_true, Classical.not_not, decide_true, decide_false, and_true, true_and, and_false, false_and, and_self, or_true, true_or, or_false, false_or, or_self, if_true, if_false, ite_true, ite_false, Bool.eq_false_iff, Bool.not_eq_eq_eq_not, Bool.true_eq_false, Bool.false_eq_true, reduceCtorEq]; done) | (simp only [openR, ropeS, up_at, ← Int32.not_lt, c_42, c_68, eq_self, ne_eq, not_true_eq_false, not_false_eq_true, Classical.not_not, decide_true, decide_false, and_true, true_and, and_false, false_and, and_self, or_true, true_or, or_false, false_or, or_self, if_true, if_false, ite_true, ite_false, Bool.eq_false_iff, Bool.not_eq_eq_eq_not, Bool.true_eq_false, Bool.false_eq_true, reduceCtorEq]; rw [if_neg (by decide)])) hE
    · refine g_al0n (pc := 71) C dX12_opens_71 ?_
      refine g_il1n (pc := 72) C dX12_opens_72 ?_
      refine g_il2n (pc := 73) C dX12_opens_73 ?_
      refine g_il3n (pc := 74) C dX12_opens_74 ?_
      refine g_iconst (pc := 75) (v := 1) C dX12_opens_75 (by decide) ?_
      refine g_icmp_ne (pc := 76) (tgt := 83) C dX12_opens_76 (by decide) (fun c_76 => ?_) (fun c_76 => ?_)
      · refine g_iconst (pc := 83) (v := 0) C dX12_opens_83 (by decide) ?_
        refine g_iconst (pc := 84) (v := (-1)) C dX12_opens_84 (by decide) ?_
        refine s_VUN (pc := 85) (st := []) C h135 rfl (c_X12_ropeIs (d := d - 1) (by omega) τ (w := i) (r := 1) (by omega) (by omega) 0 ((-1))) (by omega) lX12_96 dX12_opens_85 rfl (Nat.le_of_ble_eq_true rfl) rfl (fun s_85 hs_85 => ?_)
        refine g_ii2 (pc := 88) (v := 2) C dX12_opens_88 (by decide) ?_
        refine g_goto (pc := 91) (tgt := 24) C dX12_opens_91 (by decide) ?_
        exact k _ s_85 (by first | exact absurd c_42 c_76 | exact absurd c_76 c_42 | (rw [c_47] at c_76; exact absurd c_76 (by decide)) | (simp only [openR, ropeS, hs_85, up_at, ← Int32.not_lt, c_42, c_68, c_76, eq_self, ne_eq, not_true_eq_false, not_false_eq_true, Classical.not_not, decide_true, decide_false, and_true, true_and, and_false, false_and, and_self, or_true, true_or, or_false, false_or, or_self, if_true, if_false, ite_true, ite_false, Bool.eq_false_iff, Bool.not_eq_eq_eq_not, Bool.true_eq_false, Bool.false_eq_true, reduceCtorEq]; done) | (simp only [openR, ropeS, hs_85, up_at, ← Int32.not_lt, c_42, c_68, c_76, eq_self, ne_eq, not_true_eq_false, not_false_eq_true, Classical.not_not, decide_true, decide_false, and_true, true_and, and_false, false_and, and_self, or_true, true_or, or_false, false_or, or_self, if_true, if_false, ite_true, ite_false, Bool.eq_false_iff, Bool.not_eq_eq_eq_not, Bool.true_eq_false, Bool.false_eq_true, reduceCtorEq]; rw [if_neg (by decide)])) (by rw [hs_85]; exact eqx_u (eqx_u hE))
      · refine g_iconst (pc := 79) (v := 2) C dX12_opens_79 (by decide) ?_
        refine g_goto (pc := 80) (tgt := 84) C dX12_opens_80 (by decide) ?_
        refine g_iconst (pc := 84) (v := (-1)) C dX12_opens_84 (by decide) ?_
        refine s_VUN (pc := 85) (st := []) C h135 rfl (c_X12_ropeIs (d := d - 1) (by omega) τ (w := i) (r := 1) (by omega) (by omega) 2 ((-1))) (by omega) lX12_96 dX12_opens_85 rfl (Nat.le_of_ble_eq_true rfl) rfl (fun s_85 hs_85 => ?_)
        refine g_ii2 (pc := 88) (v := 2) C dX12_opens_88 (by decide) ?_
        refine g_goto (pc := 91) (tgt := 24) C dX12_opens_91 (by decide) ?_
        exact k _ s_85 (by first | exact absurd c_42 c_76 | exact absurd c_76 c_42 | (rw [c_47] at c_76; exact absurd c_76 (by decide)) | (simp only [openR, ropeS, hs_85, up_at, ← Int32.not_lt, c_42, c_68, c_76, eq_self, ne_eq, not_true_eq_false, not_false_eq_true, Classical.not_not, decide_true, decide_false, and_true, true_and, and_false, false_and, and_self, or_true, true_or, or_false, false_or, or_self, if_true, if_false, ite_true, ite_false, Bool.eq_false_iff, Bool.not_eq_eq_eq_not, Bool.true_eq_false, Bool.false_eq_true, reduceCtorEq]; done) | (simp only [openR, ropeS, hs_85, up_at, ← Int32.not_lt, c_42, c_68, c_76, eq_self, ne_eq, not_true_eq_false, not_false_eq_true, Classical.not_not, decide_true, decide_false, and_true, true_and, and_false, false_and, and_self, or_true, true_or, or_false, false_or, or_self, if_true, if_false, ite_true, ite_false, Bool.eq_false_iff, Bool.not_eq_eq_eq_not, Bool.true_eq_false, Bool.false_eq_true, reduceCtorEq]; rw [if_neg (by decide)])) (by rw [hs_85]; exact eqx_u (eqx_u hE))
  · refine g_il3n (pc := 45) C dX12_opens_45 ?_
    refine g_iconst (pc := 46) (v := 3) C dX12_opens_46 (by decide) ?_
    refine g_icmp_ne (pc := 47) (tgt := 88) C dX12_opens_47 (by decide) (fun c_47 => ?_) (fun c_47 => ?_)
    · refine g_ii2 (pc := 88) (v := 2) C dX12_opens_88 (by decide) ?_
      refine g_goto (pc := 91) (tgt := 24) C dX12_opens_91 (by decide) ?_
      exact k _ τ (by first | exact absurd c_42 c_76 | exact absurd c_76 c_42 | (rw [c_47] at c_76; exact absurd c_76 (by decide)) | (simp only [openR, ropeS, up_at, ← Int32.not_lt, c_42, c_47, eq_self, ne_eq, not_true_eq_false, not_false_eq_true, Classical.not_not, decide_true, decide_false, and_true, true_and, and_false, false_and, and_self, or_true, true_or, or_false, false_or, or_self, if_true, if_false, ite_true, ite_false, Bool.eq_false_iff, Bool.not_eq_eq_eq_not, Bool.true_eq_false, Bool.false_eq_true, reduceCtorEq]; done) | (simp only [openR, ropeS, up_at, ← Int32.not_lt, c_42, c_47, eq_self, ne_eq, not_true_eq_false, not_false_eq_true, Classical.not_not, decide_true, decide_false, and_true, true_and, and_false, false_and, and_self, or_true, true_or, or_false, false_or, or_self, if_true, if_false, ite_true, ite_false, Bool.eq_false_iff, Bool.not_eq_eq_eq_not, Bool.true_eq_false, Bool.false_eq_true, reduceCtorEq]; rw [if_neg (by decide)])) hE
    · refine g_al0n (pc := 50) C dX12_opens_50 ?_
      refine s_getR (pc := 51) C fX12_9 h135 rfl dX12_opens_51 ?_
      refine g_il1n (pc := 54) C dX12_opens_54 ?_
      refine g_il2n (pc := 55) C dX12_opens_55 ?_
      refine s_SI (pc := 56) (st := [(.ref 136)]) C (c_X12_ropeAt (d := d - 1) (by omega) τ i 1) (by omega) lX12_92 dX12_opens_56 rfl (Nat.le_of_ble_eq_true rfl) rfl ?_
      refine g_iconst (pc := 59) (v := 1) C dX12_opens_59 (by decide) ?_
      refine g_iadd (pc := 60) C dX12_opens_60 ?_
      refine s_iald (pc := 61) (q := 33 + 4 * i + 2 * 1 + 1) C h136 (by first | (simp only [ixl, nI_add, pk_mul]; done) | rfl | decide) (by omega) (Nat.le_of_ble_eq_true rfl) dX12_opens_61 ?_
      refine g_al0n (pc := 62) C dX12_opens_62 ?_
      refine s_getR (pc := 63) C fX12_9 h135 rfl dX12_opens_63 ?_
      refine g_iconst (pc := 66) (v := 0) C dX12_opens_66 (by decide) ?_
      refine s_iald (pc := 67) (q := 0) C h136 rfl (by omega) (Nat.le_of_ble_eq_true rfl) dX12_opens_67 ?_
      refine g_icmp_gt (pc := 68) (tgt := 88) C dX12_opens_68 (by decide) (fun c_68 => ?_) (fun c_68 => ?_)
      · refine g_ii2 (pc := 88) (v := 2) C dX12_opens_88 (by decide) ?_
        refine g_goto (pc := 91) (tgt := 24) C dX12_opens_91 (by decide) ?_
        exact k _ τ (by first | exact absurd c_42 c_76 | exact absurd c_76 c_42 | (rw [c_47] at c_76; exact absurd c_76 (by decide)) | (simp only [openR, ropeS, up_at, ← Int32.not_lt, c_42, c_47, c_68, eq_self, ne_eq, not_true_eq_false, not_false_eq_true, Classical.not_not, decide_true, decide_false, and_true, true_and, and_false, false_and, and_self, or_true, true_or, or_false, false_or, or_self, if_true, if_false, ite_true, ite_false, Bool.eq_false_iff, Bool.not_eq_eq_eq_not, Bool.true_eq_false, Bool.false_eq_true, reduceCtorEq]; done) | (simp only [openR, ropeS, up_at, ← Int32.not_lt, c_42, c_47, c_68, eq_self, ne_eq, not_true_eq_false, not_false_eq_true, Classical.not_not, decide_true, decide_false, and_true, true_and, and_false, false_and, and_self, or_true, true_or, or_false, false_or, or_self, if_true, if_false, ite_true, ite_false, Bool.eq_false_iff, Bool.not_eq_eq_eq_not, Bool.true_eq_false, Bool.false_eq_true, reduceCtorEq]; rw [if_neg (by decide)])) hE
      · refine g_al0n (pc := 71) C dX12_opens_71 ?_
        refine g_il1n (pc := 72) C dX12_opens_72 ?_
        refine g_il2n (pc := 73) C dX12_opens_73 ?_
        refine g_il3n (pc := 74) C dX12_opens_74 ?_
        refine g_iconst (pc := 75) (v := 1) C dX12_opens_75 (by decide) ?_
        refine g_icmp_ne (pc := 76) (tgt := 83) C dX12_opens_76 (by decide) (fun c_76 => ?_) (fun c_76 => ?_)
        · refine g_iconst (pc := 83) (v := 0) C dX12_opens_83 (by decide) ?_
          refine g_iconst (pc := 84) (v := (-1)) C dX12_opens_84 (by decide) ?_
          refine s_VUN (pc := 85) (st := []) C h135 rfl (c_X12_ropeIs (d := d - 1) (by omega) τ (w := i) (r := 1) (by omega) (by omega) 0 ((-1))) (by omega) lX12_96 dX12_opens_85 rfl (Nat.le_of_ble_eq_true rfl) rfl (fun s_85 hs_85 => ?_)
          refine g_ii2 (pc := 88) (v := 2) C dX12_opens_88 (by decide) ?_
          refine g_goto (pc := 91) (tgt := 24) C dX12_opens_91 (by decide) ?_
          exact k _ s_85 (by first | exact absurd c_42 c_76 | exact absurd c_76 c_42 | (rw [c_47] at c_76; exact absurd c_76 (by decide)) | (simp only [openR, ropeS, hs_85, up_at, ← Int32.not_lt, c_42, c_47, c_68, c_76, eq_self, ne_eq, not_true_eq_false, not_false_eq_true, Classical.not_not, decide_true, decide_false, and_true, true_and, and_false, false_and, and_self, or_true, true_or, or_false, false_or, or_self, if_true, if_false, ite_true, ite_false, Bool.eq_false_iff, Bool.not_eq_eq_eq_not, Bool.true_eq_false, Bool.false_eq_true, reduceCtorEq]; done) | (simp only [openR, ropeS, hs_85, up_at, ← Int32.not_lt, c_42, c_47, c_68, c_76, eq_self, ne_eq, not_true_eq_false, not_false_eq_true, Classical.not_not, decide_true, decide_false, and_true, true_and, and_false, false_and, and_self, or_true, true_or, or_false, false_or, or_self, if_true, if_false, ite_true, ite_false, Bool.eq_false_iff, Bool.not_eq_eq_eq_not, Bool.true_eq_false, Bool.false_eq_true, reduceCtorEq]; rw [if_neg (by decide)])) (by rw [hs_85]; exact eqx_u (eqx_u hE))
        · refine g_iconst (pc := 79) (v := 2) C dX12_opens_79 (by decide) ?_
          refine g_goto (pc := 80) (tgt := 84) C dX12_opens_80 (by decide) ?_
          refine g_iconst (pc := 84) (v := (-1)) C dX12_opens_84 (by decide) ?_
          refine s_VUN (pc := 85) (st := []) C h135 rfl (c_X12_ropeIs (d := d - 1) (by omega) τ (w := i) (r := 1) (by omega) (by omega) 2 ((-1))) (by omega) lX12_96 dX12_opens_85 rfl (Nat.le_of_ble_eq_true rfl) rfl (fun s_85 hs_85 => ?_)
          refine g_ii2 (pc := 88) (v := 2) C dX12_opens_88 (by decide) ?_
          refine g_goto (pc := 91) (tgt := 24) C dX12_opens_91 (by decide) ?_
          exact k _ s_85 (by first | exact absurd c_42 c_76 | exact absurd c_76 c_42 | (rw [c_47] at c_76; exact absurd c_76 (by decide)) | (simp only [openR, ropeS, hs_85, up_at, ← Int32.not_lt, c_42, c_47, c_68, c_76, eq_self, ne_eq, not_true_eq_false, not_false_eq_true, Classical.not_not, decide_true, decide_false, and_true, true_and, and_false, false_and, and_self, or_true, true_or, or_false, false_or, or_self, if_true, if_false, ite_true, ite_false, Bool.eq_false_iff, Bool.not_eq_eq_eq_not, Bool.true_eq_false, Bool.false_eq_true, reduceCtorEq]; done) | (simp only [openR, ropeS, hs_85, up_at, ← Int32.not_lt, c_42, c_47, c_68, c_76, eq_self, ne_eq, not_true_eq_false, not_false_eq_true, Classical.not_not, decide_true, decide_false, and_true, true_and, and_false, false_and, and_self, or_true, true_or, or_false, false_or, or_self, if_true, if_false, ite_true, ite_false, Bool.eq_false_iff, Bool.not_eq_eq_eq_not, Bool.true_eq_false, Bool.false_eq_true, reduceCtorEq]; rw [if_neg (by decide)])) (by rw [hs_85]; exact eqx_u (eqx_u hE))

theorem lp_X12_opensW {μ : Mx} {ω : Om} {d : Nat} (hd : 3 ≤ d) (C : Cx μ ω "TowFieldModel" cX12_opens 4 d) (hr : (mH μ).sig.returnType = none) (σ : Sg) (hI : INV (σ 136)) {n : Nat} (hn : σ 136 5 = nI n) (hn2 : n ≤ 3) (hcn : cnt (σ 136) 5 = n) : ∀ (f i : Nat) (τ : Sg) (l2 : Option Value) (l3 : Option Value), i + f = n → (τ 136 = openW (upd (σ 136) 0 (σ 136 0 + 1)) i) → (Eqx [136, 143] σ τ) → G μ ω (RQ μ ω (pQ (fun τ' => τ' 136 = openS (σ 136) ∧ Eqx [136, 143] σ τ'))) 12 [some (.ref 135), some (.int (nI i)), l2, l3] [] (mk τ) 0 0 := by
  intro f
  induction f with
  | zero =>
    intro i τ l2 l3 hif hv hv1
    have hin : i = n := by omega
    have r5 : τ 136 5 = σ 136 5 := by rw [hv, openW_keep (by omega) (by omega)]; exact upd_ne _ _ (by decide)
    refine g_il1n (pc := 12) C dX12_opens_12 ?_
    refine g_al0n (pc := 13) C dX12_opens_13 ?_
    refine s_getR (pc := 14) C fX12_9 h135 rfl dX12_opens_14 ?_
    refine g_iconst (pc := 17) (v := 5) C dX12_opens_17 (by decide) ?_
    refine s_iald (pc := 18) (q := 5) C h136 rfl (by omega) (Nat.le_of_ble_eq_true rfl) dX12_opens_18 ?_
    refine g_icmp_geL (pc := 19) (tgt := 100) C dX12_opens_19 (by decide) (fun c_19 => ?_) (fun c_19 => absurd c_19 (by rw [r5, hn]; exact nI_nlt (by omega) (by omega)))
    refine g_iconst (pc := 100) (v := 0) C dX12_opens_100 (by decide) ?_
    refine g_is1n (pc := 101) C dX12_opens_101 ?_
    refine lp_X12_opensP hd C hr σ hI.n6.1 hI.n6.2 (τ 136) (by rw [hv, openW_keep (by omega) (by omega)]; exact upd_ne _ _ (by decide)) _ _ (by unfold openS; rw [hcn, ← hin, hv]) (cnt (σ 136) 6) 0 τ (by omega) rfl hv1
  | succ f ih =>
    intro i τ l2 l3 hif hv hv1
    have r5 : τ 136 5 = σ 136 5 := by rw [hv, openW_keep (by omega) (by omega)]; exact upd_ne _ _ (by decide)
    refine g_il1n (pc := 12) C dX12_opens_12 ?_
    refine g_al0n (pc := 13) C dX12_opens_13 ?_
    refine s_getR (pc := 14) C fX12_9 h135 rfl dX12_opens_14 ?_
    refine g_iconst (pc := 17) (v := 5) C dX12_opens_17 (by decide) ?_
    refine s_iald (pc := 18) (q := 5) C h136 rfl (by omega) (Nat.le_of_ble_eq_true rfl) dX12_opens_18 ?_
    refine g_icmp_geL (pc := 19) (tgt := 100) C dX12_opens_19 (by decide) (fun c_19 => absurd (by rw [r5, hn]; exact nI_lt (by omega) (by omega)) c_19) (fun c_19 => ?_)
    refine g_iconst (pc := 22) (v := 0) C dX12_opens_22 (by decide) ?_
    refine g_is2n (pc := 23) C dX12_opens_23 ?_
    refine y_opens_0 hd C hr σ (by omega) _ τ hv1 (fun l3 τ1 h1 e1 => ?_)
    refine y_opens_1 hd C hr σ (by omega) _ τ1 e1 (fun l3 τ2 h2 e2 => ?_)
    refine g_il2n (pc := 24) C dX12_opens_24 ?_
    refine g_iconst (pc := 25) (v := 2) C dX12_opens_25 (by decide) ?_
    refine g_icmp_geL (pc := 26) (tgt := 94) C dX12_opens_26 (by decide) (fun _ => ?_) (fun c => absurd c (by decide))
    refine g_ii1 (pc := 94) (v := nI (i + 1)) C dX12_opens_94 (nI_inc1 _) ?_
    refine g_goto (pc := 97) (tgt := 12) C dX12_opens_97 (by decide) ?_
    exact ih (i + 1) τ2 _ _ (by omega) (by rw [h2, h1, hv]; rfl) e2

theorem c_X12_opens {d : Nat} (hd : 3 ≤ d) (σ : Sg) (hI : INV (σ 136)) : CQ d mX12_opens [.ref 135] σ (fun τ' => τ' 136 = openS (σ 136) ∧ Eqx [136, 143] σ τ') := by
  refine con_of (by decide) (catL rfl) (Nat.le_of_ble_eq_true rfl) ?_
  intro μ ω C hr
  have C : Cx μ ω "TowFieldModel" cX12_opens 4 d := C
  have hr : (mH μ).sig.returnType = none := hr
  show G μ ω (RQ μ ω (pQ (fun τ' => τ' 136 = openS (σ 136) ∧ Eqx [136, 143] σ τ'))) 0 [some (.ref 135), none, none, none] [] (mk σ) 0 0
  refine g_al0n (pc := 0) C dX12_opens_0 ?_
  refine s_getR (pc := 1) C fX12_9 h135 rfl dX12_opens_1 ?_
  refine g_iconst (pc := 4) (v := 0) C dX12_opens_4 (by decide) ?_
  refine g_dup2 (pc := 5) C dX12_opens_5 rfl rfl ?_
  refine s_iald (pc := 6) (q := 0) C h136 rfl (by omega) (Nat.le_of_ble_eq_true rfl) dX12_opens_6 ?_
  refine g_iconst (pc := 7) (v := 1) C dX12_opens_7 (by decide) ?_
  refine g_iadd (pc := 8) C dX12_opens_8 ?_
  refine s_iastN (pc := 9) (q := 0) C h136 rfl (by omega) (Nat.le_of_ble_eq_true rfl) dX12_opens_9 (fun s_9 hs_9 => ?_)
  refine g_iconst (pc := 10) (v := 0) C dX12_opens_10 (by decide) ?_
  refine g_is1n (pc := 11) C dX12_opens_11 ?_
  exact lp_X12_opensW hd C hr σ hI hI.n5.1 hI.n5.2 rfl (cnt (σ 136) 5) 0 s_9 _ _ (by omega) (by rw [hs_9, up_at]; rfl) (by rw [hs_9]; exact eqx_u Eqx.rf)

