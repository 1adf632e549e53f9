/-! ===== the model: what lands, starts, is fetched; costs ===== -/
theorem bestD_lt {ν : Nu} {n j : Nat} (h : bestD ν n = some j) : j < n := by
  induction n generalizing j with
  | zero => cases h
  | succ n ih =>
    unfold bestD at h
    cases hb : bestD ν n with
    | none =>
      rw [hb] at h
      dsimp only at h
      split at h
      · cases h; omega
      · cases h
    | some i =>
      rw [hb] at h
      dsimp only at h
      have := ih hb
      split at h
      · cases h; omega
      · cases h; omega
theorem bestD_s (ν : Nu) (n : Nat) : bestD ν (n + 1) = (match bestD ν n with
    | none => if aA ν n 6 = 1 ∧ dueA ν n ≤ ν 0 then some n else none
    | some i => if (aA ν n 6 = 1 ∧ dueA ν n ≤ ν 0) ∧ dueA ν n < dueA ν i then some n else some i) := rfl
theorem lp_X12_lands {μ : Mx} {ω : Om} {d : Nat} (hd : 6 ≤ d) (C : Cx μ ω "TowFieldModel" cX12_lands 4 d) (hr : (mH μ).sig.returnType = some .int) (σ : Sg) (hI : INV (σ 136)) {n : Nat} (hn : σ 136 7 = nI n) (hn2 : n ≤ 20) (hcn : cnt (σ 136) 7 = n) : ∀ (f i : Nat) (v : Int32) (l3 : Option Value), i + f = n → (v = o2i (bestD (σ 136) i)) → G μ ω (RQ μ ω (pI (o2i (landsS (σ 136))) σ)) 4 [some (.ref 135), some (.int v), some (.int (nI i)), l3] [] (mk σ) 0 0 := by
  intro f
  induction f with
  | zero =>
    intro i v l3 hif hv
    have hin : i = n := by omega
    rcases hb : bestD (σ 136) i with _ | j <;> (rw [hb] at hv; simp only [o2i] at hv; subst hv)
    · refine g_il2n (pc := 4) C dX12_lands_4 ?_
      refine g_al0n (pc := 5) C dX12_lands_5 ?_
      refine s_getR (pc := 6) C fX12_9 h135 rfl dX12_lands_6 ?_
      refine g_bipush (pc := 9) (v := 7) C dX12_lands_9 (by decide) ?_
      refine s_iald (pc := 11) (q := 7) C h136 rfl (by omega) (Nat.le_of_ble_eq_true rfl) dX12_lands_11 ?_
      refine g_icmp_geL (pc := 12) (tgt := 79) C dX12_lands_12 (by decide) (fun c_12 => ?_) (fun c_12 => absurd c_12 (by rw [hn]; exact nI_nlt (by omega) (by omega)))
      refine g_il1n (pc := 79) C dX12_lands_79 ?_
      refine g_if_lt (pc := 80) (tgt := 102) C dX12_lands_80 (by decide) (fun _ => ?_) (fun c => absurd c (by decide))
      refine g_iconst (pc := 102) (v := (-1)) C dX12_lands_102 (by decide) ?_
      exact r_I C hr dX12_lands_103 (by rw [hin] at hb; simp only [landsS, hcn, hb, o2i, eq_self, ne_eq, not_true_eq_false, not_false_eq_true, Classical.not_not, decide_true, decide_false, and_true, true_and, and_false, false_and, and_self, or_true, true_or, or_false, false_or, or_self, if_true, if_false, ite_true, ite_false, Bool.eq_false_iff, Bool.not_eq_eq_eq_not, Bool.true_eq_false, Bool.false_eq_true, reduceCtorEq]) rfl
    · refine g_il2n (pc := 4) C dX12_lands_4 ?_
      refine g_al0n (pc := 5) C dX12_lands_5 ?_
      refine s_getR (pc := 6) C fX12_9 h135 rfl dX12_lands_6 ?_
      refine g_bipush (pc := 9) (v := 7) C dX12_lands_9 (by decide) ?_
      refine s_iald (pc := 11) (q := 7) C h136 rfl (by omega) (Nat.le_of_ble_eq_true rfl) dX12_lands_11 ?_
      refine g_icmp_geL (pc := 12) (tgt := 79) C dX12_lands_12 (by decide) (fun c_12 => ?_) (fun c_12 => absurd c_12 (by rw [hn]; exact nI_nlt (by omega) (by omega)))
      refine g_il1n (pc := 79) C dX12_lands_79 ?_
      refine g_if_lt (pc := 80) (tgt := 102) C dX12_lands_80 (by decide) (fun c_80 => absurd c_80 (nI_pos (by have := bestD_lt hb; omega))) (fun c_80 => ?_)
      refine g_al0n (pc := 83) C dX12_lands_83 ?_
      refine g_al0n (pc := 84) C dX12_lands_84 ?_
      refine s_getR (pc := 85) C fX12_9 h135 rfl dX12_lands_85 ?_
      refine g_bipush (pc := 88) (v := 18) C dX12_lands_88 (by decide) ?_
      refine s_iald (pc := 90) (q := 18) C h136 rfl (by omega) (Nat.le_of_ble_eq_true rfl) dX12_lands_90 ?_
      refine g_iconst (pc := 91) (v := 2) C dX12_lands_91 (by decide) ?_
      refine s_VB (pc := 92) (st := []) C h135 rfl (by have := c_X12_isClear (d := d - 1) (by omega) σ (l := (σ 136 18).toNatClampNeg) (hI.lane (u := 2) (by decide)).2 2; rw [← (hI.lane (u := 2) (by decide)).1] at this; exact this) (by omega) lX12_156 dX12_lands_92 rfl (Nat.le_of_ble_eq_true rfl) rfl (fun b_92 => ?_) (fun b_92 => ?_)
      · refine g_if_eq (pc := 95) (tgt := 102) C dX12_lands_95 (by decide) (fun c => absurd c (by decide)) (fun _ => ?_)
        refine g_il1n (pc := 98) C dX12_lands_98 ?_
        refine g_goto (pc := 99) (tgt := 103) C dX12_lands_99 (by decide) ?_
        exact r_I C hr dX12_lands_103 (by rw [hin] at hb; simp only [landsS, hcn, hb, o2i, b_92, eq_self, ne_eq, not_true_eq_false, not_false_eq_true, Classical.not_not, decide_true, decide_false, and_true, true_and, and_false, false_and, and_self, or_true, true_or, or_false, false_or, or_self, if_true, if_false, ite_true, ite_false, Bool.eq_false_iff, Bool.not_eq_eq_eq_not, Bool.true_eq_false, Bool.false_eq_true, reduceCtorEq]) rfl
      · refine g_if_eq (pc := 95) (tgt := 102) C dX12_lands_95 (by decide) (fun _ => ?_) (fun c => absurd c (by decide))
        refine g_iconst (pc := 102) (v := (-1)) C dX12_lands_102 (by decide) ?_
        exact r_I C hr dX12_lands_103 (by rw [hin] at hb; simp only [landsS, hcn, hb, o2i, b_92, eq_self, ne_eq, not_true_eq_false, not_false_eq_true, Classical.not_not, decide_true, decide_false, and_true, true_and, and_false, false_and, and_self, or_true, true_or, or_false, false_or, or_self, if_true, if_false, ite_true, ite_false, Bool.eq_false_iff, Bool.not_eq_eq_eq_not, Bool.true_eq_false, Bool.false_eq_true, reduceCtorEq]) rfl
  | succ f ih =>
    intro i v l3 hif hv
    rcases hb : bestD (σ 136) i with _ | j <;> (rw [hb] at hv; simp only [o2i] at hv; subst hv)
    · refine g_il2n (pc := 4) C dX12_lands_4 ?_
      refine g_al0n (pc := 5) C dX12_lands_5 ?_
      refine s_getR (pc := 6) C fX12_9 h135 rfl dX12_lands_6 ?_
      refine g_bipush (pc := 9) (v := 7) C dX12_lands_9 (by decide) ?_
      refine s_iald (pc := 11) (q := 7) C h136 rfl (by omega) (Nat.le_of_ble_eq_true rfl) dX12_lands_11 ?_
      refine g_icmp_geL (pc := 12) (tgt := 79) C dX12_lands_12 (by decide) (fun c_12 => absurd (by rw [hn]; exact nI_lt (by omega) (by omega)) c_12) (fun c_12 => ?_)
      refine g_al0n (pc := 15) C dX12_lands_15 ?_
      refine g_il2n (pc := 16) C dX12_lands_16 ?_
      refine g_bipush (pc := 17) (v := 6) C dX12_lands_17 (by decide) ?_
      refine s_VI (pc := 19) (st := []) C h135 rfl (c_X12_askOf (d := d - 1) (by omega) σ (a := i) (f := 6) (by omega) (by omega) rfl rfl) (by omega) lX12_67 dX12_lands_19 rfl (Nat.le_of_ble_eq_true rfl) rfl ?_
      refine g_iconst (pc := 22) (v := 1) C dX12_lands_22 (by decide) ?_
      refine g_icmp_ne (pc := 23) (tgt := 44) C dX12_lands_23 (by decide) (fun c_23 => ?_) (fun c_23 => ?_)
      · refine g_iconst (pc := 44) (v := 0) C dX12_lands_44 (by decide) ?_
        refine g_is3n (pc := 45) C dX12_lands_45 ?_
        refine g_il3n (pc := 46) C dX12_lands_46 ?_
        refine g_if_eq (pc := 47) (tgt := 71) C dX12_lands_47 (by decide) (fun _ => ?_) (fun c => absurd c (by decide))
        refine g_il1n (pc := 71) C dX12_lands_71 ?_
        refine g_is1n (pc := 72) C dX12_lands_72 ?_
        refine g_ii2 (pc := 73) (v := nI (i + 1)) C dX12_lands_73 (nI_inc1 _) ?_
        refine g_goto (pc := 76) (tgt := 4) C dX12_lands_76 (by decide) ?_
        exact ih (i + 1) ((-1)) _ (by omega) (by simp only [bestD_s, hb, aA, ← Int32.not_lt, o2i, c_23, eq_self, ne_eq, not_true_eq_false, not_false_eq_true, Classical.not_not, decide_true, decide_false, and_true, true_and, and_false, false_and, and_self, or_true, true_or, or_false, false_or, or_self, if_true, if_false, ite_true, ite_false, Bool.eq_false_iff, Bool.not_eq_eq_eq_not, Bool.true_eq_false, Bool.false_eq_true, reduceCtorEq])
      · refine g_al0n (pc := 26) C dX12_lands_26 ?_
        refine g_il2n (pc := 27) C dX12_lands_27 ?_
        refine s_VI (pc := 28) (st := []) C h135 rfl (c_X12_dueOf (d := d - 1) (by omega) σ hI (by omega)) (by omega) lX12_162 dX12_lands_28 rfl (Nat.le_of_ble_eq_true rfl) rfl ?_
        refine g_al0n (pc := 31) C dX12_lands_31 ?_
        refine s_getR (pc := 32) C fX12_9 h135 rfl dX12_lands_32 ?_
        refine g_iconst (pc := 35) (v := 0) C dX12_lands_35 (by decide) ?_
        refine s_iald (pc := 36) (q := 0) C h136 rfl (by omega) (Nat.le_of_ble_eq_true rfl) dX12_lands_36 ?_
        refine g_icmp_gt (pc := 37) (tgt := 44) C dX12_lands_37 (by decide) (fun c_37 => ?_) (fun c_37 => ?_)
        · refine g_iconst (pc := 44) (v := 0) C dX12_lands_44 (by decide) ?_
          refine g_is3n (pc := 45) C dX12_lands_45 ?_
          refine g_il3n (pc := 46) C dX12_lands_46 ?_
          refine g_if_eq (pc := 47) (tgt := 71) C dX12_lands_47 (by decide) (fun _ => ?_) (fun c => absurd c (by decide))
          refine g_il1n (pc := 71) C dX12_lands_71 ?_
          refine g_is1n (pc := 72) C dX12_lands_72 ?_
          refine g_ii2 (pc := 73) (v := nI (i + 1)) C dX12_lands_73 (nI_inc1 _) ?_
          refine g_goto (pc := 76) (tgt := 4) C dX12_lands_76 (by decide) ?_
          exact ih (i + 1) ((-1)) _ (by omega) (by simp only [bestD_s, hb, aA, ← Int32.not_lt, o2i, c_23, c_37, eq_self, ne_eq, not_true_eq_false, not_false_eq_true, Classical.not_not, decide_true, decide_false, and_true, true_and, and_false, false_and, and_self, or_true, true_or, or_false, false_or, or_self, if_true, if_false, ite_true, ite_false, Bool.eq_false_iff, Bool.not_eq_eq_eq_not, Bool.true_eq_false, Bool.false_eq_true, reduceCtorEq])
        · refine g_iconst (pc := 40) (v := 1) C dX12_lands_40 (by decide) ?_
          refine g_goto (pc := 41) (tgt := 45) C dX12_lands_41 (by decide) ?_
          refine g_is3n (pc := 45) C dX12_lands_45 ?_
          refine g_il3n (pc := 46) C dX12_lands_46 ?_
          refine g_if_eq (pc := 47) (tgt := 71) C dX12_lands_47 (by decide) (fun c => absurd c (by decide)) (fun _ => ?_)
          refine g_il1n (pc := 50) C dX12_lands_50 ?_
          refine g_if_lt (pc := 51) (tgt := 67) C dX12_lands_51 (by decide) (fun _ => ?_) (fun c => absurd c (by decide))
          refine g_il2n (pc := 67) C dX12_lands_67 ?_
          refine g_goto (pc := 68) (tgt := 72) C dX12_lands_68 (by decide) ?_
          refine g_is1n (pc := 72) C dX12_lands_72 ?_
          refine g_ii2 (pc := 73) (v := nI (i + 1)) C dX12_lands_73 (nI_inc1 _) ?_
          refine g_goto (pc := 76) (tgt := 4) C dX12_lands_76 (by decide) ?_
          exact ih (i + 1) (nI i) _ (by omega) (by simp only [bestD_s, hb, aA, ← Int32.not_lt, o2i, c_23, c_37, eq_self, ne_eq, not_true_eq_false, not_false_eq_true, Classical.not_not, decide_true, decide_false, and_true, true_and, and_false, false_and, and_self, or_true, true_or, or_false, false_or, or_self, if_true, if_false, ite_true, ite_false, Bool.eq_false_iff, Bool.not_eq_eq_eq_not, Bool.true_eq_false, Bool.false_eq_true, reduceCtorEq])
    · refine g_il2n (pc := 4) C dX12_lands_4 ?_
      refine g_al0n (pc := 5) C dX12_lands_5 ?_
      refine s_getR (pc := 6) C fX12_9 h135 rfl dX12_lands_6 ?_
      refine g_bipush (pc := 9) (v := 7) C dX12_lands_9 (by decide) ?_
      refine s_iald (pc := 11) (q := 7) C h136 rfl (by omega) (Nat.le_of_ble_eq_true rfl) dX12_lands_11 ?_
      refine g_icmp_geL (pc := 12) (tgt := 79) C dX12_lands_12 (by decide) (fun c_12 => absurd (by rw [hn]; exact nI_lt (by omega) (by omega)) c_12) (fun c_12 => ?_)
      refine g_al0n (pc := 15) C dX12_lands_15 ?_
      refine g_il2n (pc := 16) C dX12_lands_16 ?_
      refine g_bipush (pc := 17) (v := 6) C dX12_lands_17 (by decide) ?_
      refine s_VI (pc := 19) (st := []) C h135 rfl (c_X12_askOf (d := d - 1) (by omega) σ (a := i) (f := 6) (by omega) (by omega) rfl rfl) (by omega) lX12_67 dX12_lands_19 rfl (Nat.le_of_ble_eq_true rfl) rfl ?_
      refine g_iconst (pc := 22) (v := 1) C dX12_lands_22 (by decide) ?_
      refine g_icmp_ne (pc := 23) (tgt := 44) C dX12_lands_23 (by decide) (fun c_23 => ?_) (fun c_23 => ?_)
      · refine g_iconst (pc := 44) (v := 0) C dX12_lands_44 (by decide) ?_
        refine g_is3n (pc := 45) C dX12_lands_45 ?_
        refine g_il3n (pc := 46) C dX12_lands_46 ?_
        refine g_if_eq (pc := 47) (tgt := 71) C dX12_lands_47 (by decide) (fun _ => ?_) (fun c => absurd c (by decide))
        refine g_il1n (pc := 71) C dX12_lands_71 ?_
        refine g_is1n (pc := 72) C dX12_lands_72 ?_
        refine g_ii2 (pc := 73) (v := nI (i + 1)) C dX12_lands_73 (nI_inc1 _) ?_
        refine g_goto (pc := 76) (tgt := 4) C dX12_lands_76 (by decide) ?_
        exact ih (i + 1) (nI j) _ (by omega) (by simp only [bestD_s, hb, aA, ← Int32.not_lt, o2i, c_23, eq_self, ne_eq, not_true_eq_false, not_false_eq_true, Classical.not_not, decide_true, decide_false, and_true, true_and, and_false, false_and, and_self, or_true, true_or, or_false, false_or, or_self, if_true, if_false, ite_true, ite_false, Bool.eq_false_iff, Bool.not_eq_eq_eq_not, Bool.true_eq_false, Bool.false_eq_true, reduceCtorEq])
      · refine g_al0n (pc := 26) C dX12_lands_26 ?_
        refine g_il2n (pc := 27) C dX12_lands_27 ?_
        refine s_VI (pc := 28) (st := []) C h135 rfl (c_X12_dueOf (d := d - 1) (by omega) σ hI (by omega)) (by omega) lX12_162 dX12_lands_28 rfl (Nat.le_of_ble_eq_true rfl) rfl ?_
        refine g_al0n (pc := 31) C dX12_lands_31 ?_
        refine s_getR (pc := 32) C fX12_9 h135 rfl dX12_lands_32 ?_
        refine g_iconst (pc := 35) (v := 0) C dX12_lands_35 (by decide) ?_
        refine s_iald (pc := 36) (q := 0) C h136 rfl (by omega) (Nat.le_of_ble_eq_true rfl) dX12_lands_36 ?_
        refine g_icmp_gt (pc := 37) (tgt := 44) C dX12_lands_37 (by decide) (fun c_37 => ?_) (fun c_37 => ?_)
        · refine g_iconst (pc := 44) (v := 0) C dX12_lands_44 (by decide) ?_
          refine g_is3n (pc := 45) C dX12_lands_45 ?_
          refine g_il3n (pc := 46) C dX12_lands_46 ?_
          refine g_if_eq (pc := 47) (tgt := 71) C dX12_lands_47 (by decide) (fun _ => ?_) (fun c => absurd c (by decide))
          refine g_il1n (pc := 71) C dX12_lands_71 ?_
          refine g_is1n (pc := 72) C dX12_lands_72 ?_
          refine g_ii2 (pc := 73) (v := nI (i + 1)) C dX12_lands_73 (nI_inc1 _) ?_
          refine g_goto (pc := 76) (tgt := 4) C dX12_lands_76 (by decide) ?_
          exact ih (i + 1) (nI j) _ (by omega) (by simp only [bestD_s, hb, aA, ← Int32.not_lt, o2i, c_23, c_37, eq_self, ne_eq, not_true_eq_false, not_false_eq_true, Classical.not_not, decide_true, decide_false, and_true, true_and, and_false, false_and, and_self, or_true, true_or, or_false, false_or, or_self, if_true, if_false, ite_true, ite_false, Bool.eq_false_iff, Bool.not_eq_eq_eq_not, Bool.true_eq_false, Bool.false_eq_true, reduceCtorEq])
        · refine g_iconst (pc := 40) (v := 1) C dX12_lands_40 (by decide) ?_
          refine g_goto (pc := 41) (tgt := 45) C dX12_lands_41 (by decide) ?_
          refine g_is3n (pc := 45) C dX12_lands_45 ?_
          refine g_il3n (pc := 46) C dX12_lands_46 ?_
          refine g_if_eq (pc := 47) (tgt := 71) C dX12_lands_47 (by decide) (fun c => absurd c (by decide)) (fun _ => ?_)
          refine g_il1n (pc := 50) C dX12_lands_50 ?_
          refine g_if_lt (pc := 51) (tgt := 67) C dX12_lands_51 (by decide) (fun c_51 => absurd c_51 (nI_pos (by have := bestD_lt hb; omega))) (fun c_51 => ?_)
          refine g_al0n (pc := 54) C dX12_lands_54 ?_
          refine g_il2n (pc := 55) C dX12_lands_55 ?_
          refine s_VI (pc := 56) (st := []) C h135 rfl (c_X12_dueOf (d := d - 1) (by omega) σ hI (by omega)) (by omega) lX12_162 dX12_lands_56 rfl (Nat.le_of_ble_eq_true rfl) rfl ?_
          refine g_al0n (pc := 59) C dX12_lands_59 ?_
          refine g_il1n (pc := 60) C dX12_lands_60 ?_
          refine s_VI (pc := 61) (st := [(.int (dueA (σ 136) i))]) C h135 rfl (c_X12_dueOf (d := d - 1) (by omega) σ hI (by have := bestD_lt hb; omega)) (by omega) lX12_162 dX12_lands_61 rfl (Nat.le_of_ble_eq_true rfl) rfl ?_
          refine g_icmp_geL (pc := 64) (tgt := 71) C dX12_lands_64 (by decide) (fun c_64 => ?_) (fun c_64 => ?_)
          · refine g_il1n (pc := 71) C dX12_lands_71 ?_
            refine g_is1n (pc := 72) C dX12_lands_72 ?_
            refine g_ii2 (pc := 73) (v := nI (i + 1)) C dX12_lands_73 (nI_inc1 _) ?_
            refine g_goto (pc := 76) (tgt := 4) C dX12_lands_76 (by decide) ?_
            exact ih (i + 1) (nI j) _ (by omega) (by simp only [bestD_s, hb, aA, ← Int32.not_lt, o2i, c_23, c_37, c_64, eq_self, ne_eq, not_true_eq_false, not_false_eq_true, Classical.not_not, decide_true, decide_false, and_true, true_and, and_false, false_and, and_self, or_true, true_or, or_false, false_or, or_self, if_true, if_false, ite_true, ite_false, Bool.eq_false_iff, Bool.not_eq_eq_eq_not, Bool.true_eq_false, Bool.false_eq_true, reduceCtorEq])
          · refine g_il2n (pc := 67) C dX12_lands_67 ?_
            refine g_goto (pc := 68) (tgt := 72) C dX12_lands_68 (by decide) ?_
            refine g_is1n (pc := 72) C dX12_lands_72 ?_
            refine g_ii2 (pc := 73) (v := nI (i + 1)) C dX12_lands_73 (nI_inc1 _) ?_
            refine g_goto (pc := 76) (tgt := 4) C dX12_lands_76 (by decide) ?_
            exact ih (i + 1) (nI i) _ (by omega) (by simp only [bestD_s, hb, aA, ← Int32.not_lt, o2i, c_23, c_37, c_64, eq_self, ne_eq, not_true_eq_false, not_false_eq_true, Classical.not_not, decide_true, decide_false, and_true, true_and, and_false, false_and, and_self, or_true, true_or, or_false, false_or, or_self, if_true, if_false, ite_true, ite_false, Bool.eq_false_iff, Bool.not_eq_eq_eq_not, Bool.true_eq_false, Bool.false_eq_true, reduceCtorEq])

theorem c_X12_lands {d : Nat} (hd : 6 ≤ d) (σ : Sg) (hI : INV (σ 136)) : CI d mX12_lands [.ref 135] σ (o2i (landsS (σ 136))) σ := by
  refine con_of (by decide) (catL rfl) (Nat.le_of_ble_eq_true rfl) ?_
  intro μ ω C hr
  have C : Cx μ ω "TowFieldModel" cX12_lands 4 d := C
  have hr : (mH μ).sig.returnType = some .int := hr
  show G μ ω (RQ μ ω (pI (o2i (landsS (σ 136))) σ)) 0 [some (.ref 135), none, none, none] [] (mk σ) 0 0
  refine g_iconst (pc := 0) (v := (-1)) C dX12_lands_0 (by decide) ?_
  refine g_is1n (pc := 1) C dX12_lands_1 ?_
  refine g_iconst (pc := 2) (v := 0) C dX12_lands_2 (by decide) ?_
  refine g_is2n (pc := 3) C dX12_lands_3 ?_
  exact lp_X12_lands hd C hr σ hI hI.n7.1 hI.n7.2 rfl (cnt (σ 136) 7) 0 _ _ (by omega) rfl

theorem lp_X12_starts {μ : Mx} {ω : Om} {d : Nat} (hd : 6 ≤ d) (C : Cx μ ω "TowFieldModel" cX12_starts 2 d) (hr : (mH μ).sig.returnType = some .int) (σ : Sg) (hI : INV (σ 136)) {n : Nat} (hn : σ 136 7 = nI n) (hn2 : n ≤ 20) (hcn : cnt (σ 136) 7 = n) : ∀ (f i : Nat) (τ : Sg), i + f = n → (Eqx [143] σ τ) → (fstL (staP (σ 136)) i = none) → G μ ω (RQ μ ω (pP (fun v τ' => v = o2i (startsS (σ 136)) ∧ Eqx [143] σ τ'))) 2 [some (.ref 135), some (.int (nI i))] [] (mk τ) 0 0 := by
  intro f
  induction f with
  | zero =>
    intro i τ hif hv hv1
    have hin : i = n := by omega
    have e136 : τ 136 = σ 136 := hv 136 (by decide)
    have hJ : INV (τ 136) := by rw [e136]; exact hI
    refine g_il1n (pc := 2) C dX12_starts_2 ?_
    refine g_al0n (pc := 3) C dX12_starts_3 ?_
    refine s_getR (pc := 4) C fX12_9 h135 rfl dX12_starts_4 ?_
    refine g_bipush (pc := 7) (v := 7) C dX12_starts_7 (by decide) ?_
    refine s_iald (pc := 9) (q := 7) C h136 rfl (by omega) (Nat.le_of_ble_eq_true rfl) dX12_starts_9 ?_
    refine g_icmp_geL (pc := 10) (tgt := 39) C dX12_starts_10 (by decide) (fun c_10 => ?_) (fun c_10 => absurd c_10 (by rw [e136, hn]; exact nI_nlt (by omega) (by omega)))
    refine g_iconst (pc := 39) (v := (-1)) C dX12_starts_39 (by decide) ?_
    exact r_P C hr dX12_starts_40 ⟨by rw [hin] at hv1; rw [startsS, hcn, hv1]; rfl, hv⟩
  | succ f ih =>
    intro i τ hif hv hv1
    have e136 : τ 136 = σ 136 := hv 136 (by decide)
    have hJ : INV (τ 136) := by rw [e136]; exact hI
    refine g_il1n (pc := 2) C dX12_starts_2 ?_
    refine g_al0n (pc := 3) C dX12_starts_3 ?_
    refine s_getR (pc := 4) C fX12_9 h135 rfl dX12_starts_4 ?_
    refine g_bipush (pc := 7) (v := 7) C dX12_starts_7 (by decide) ?_
    refine s_iald (pc := 9) (q := 7) C h136 rfl (by omega) (Nat.le_of_ble_eq_true rfl) dX12_starts_9 ?_
    refine g_icmp_geL (pc := 10) (tgt := 39) C dX12_starts_10 (by decide) (fun c_10 => absurd (by rw [e136, hn]; exact nI_lt (by omega) (by omega)) c_10) (fun c_10 => ?_)
    refine g_al0n (pc := 13) C dX12_starts_13 ?_
    refine g_il1n (pc := 14) C dX12_starts_14 ?_
    refine g_bipush (pc := 15) (v := 6) C dX12_starts_15 (by decide) ?_
    refine s_VI (pc := 17) (st := []) C h135 rfl (c_X12_askOf (d := d - 1) (by omega) τ (a := i) (f := 6) (by omega) (by omega) rfl rfl) (by omega) lX12_67 dX12_starts_17 rfl (Nat.le_of_ble_eq_true rfl) rfl ?_
    refine g_if_ne (pc := 20) (tgt := 33) C dX12_starts_20 (by decide) (fun c_20 => ?_) (fun c_20 => ?_)
    · refine g_ii1 (pc := 33) (v := nI (i + 1)) C dX12_starts_33 (nI_inc1 _) ?_
      refine g_goto (pc := 36) (tgt := 2) C dX12_starts_36 (by decide) ?_
      exact ih (i + 1) τ (by omega) hv (fstL_no hv1 (by rw [e136] at *; simp only [staP, aA, c_20, decide_true, decide_false, Bool.and_false, Bool.false_and, Bool.true_and]))
    · refine g_al0n (pc := 23) C dX12_starts_23 ?_
      refine g_il1n (pc := 24) C dX12_starts_24 ?_
      refine s_VP (pc := 25) (st := []) C h135 rfl (c_X12_whyNot (d := d - 1) (by omega) τ hJ (by rw [e136]; omega)) (by omega) lX12_159 dX12_starts_25 rfl (Nat.le_of_ble_eq_true rfl) rfl (fun v_25 τ2 hw_25 => ?_)
      obtain ⟨hv_25, hE2⟩ := hw_25
      refine g_if_ne (pc := 28) (tgt := 33) C dX12_starts_28 (by decide) (fun c_28 => ?_) (fun c_28 => ?_)
      · refine g_ii1 (pc := 33) (v := nI (i + 1)) C dX12_starts_33 (nI_inc1 _) ?_
        refine g_goto (pc := 36) (tgt := 2) C dX12_starts_36 (by decide) ?_
        exact ih (i + 1) τ2 (by omega) (hv.tr hE2) (fstL_no hv1 (by rw [e136] at *; simp only [staP, aA, c_20, ← hv_25, c_28, decide_true, decide_false, Bool.and_false, Bool.false_and, Bool.true_and]))
      · refine g_il1n (pc := 31) C dX12_starts_31 ?_
        exact r_P C hr dX12_starts_32 ⟨by rw [startsS, hcn, fstL_hit hv1 (by rw [e136] at *; simp only [staP, aA, c_20, ← hv_25, c_28, decide_true, Bool.and_self]) (show i < n by omega)]; rfl, hv.tr hE2⟩

theorem c_X12_starts {d : Nat} (hd : 6 ≤ d) (σ : Sg) (hI : INV (σ 136)) : CP d mX12_starts [.ref 135] σ (fun v τ' => v = o2i (startsS (σ 136)) ∧ Eqx [143] σ τ') := by
  refine con_of (by decide) (catL rfl) (Nat.le_of_ble_eq_true rfl) ?_
  intro μ ω C hr
  have C : Cx μ ω "TowFieldModel" cX12_starts 2 d := C
  have hr : (mH μ).sig.returnType = some .int := hr
  show G μ ω (RQ μ ω (pP (fun v τ' => v = o2i (startsS (σ 136)) ∧ Eqx [143] σ τ'))) 0 [some (.ref 135), none] [] (mk σ) 0 0
  refine g_iconst (pc := 0) (v := 0) C dX12_starts_0 (by decide) ?_
  refine g_is1n (pc := 1) C dX12_starts_1 ?_
  exact lp_X12_starts hd C hr σ hI hI.n7.1 hI.n7.2 rfl (cnt (σ 136) 7) 0 σ (by omega) Eqx.rf rfl

theorem lp_X12_fetches {μ : Mx} {ω : Om} {d : Nat} (hd : 3 ≤ d) (C : Cx μ ω "TowFieldModel" cX12_fetches 2 d) (hr : (mH μ).sig.returnType = some .int) (σ : Sg) (hI : INV (σ 136)) {n : Nat} (hn : σ 136 5 = nI n) (hn2 : n ≤ 3) (hcn : cnt (σ 136) 5 = n) : ∀ (f i : Nat), i + f = n → (fstL (druP (σ 136)) i = none) → G μ ω (RQ μ ω (pI (o2i (fetchS (σ 136))) σ)) 2 [some (.ref 135), some (.int (nI i))] [] (mk σ) 0 0 := by
  intro f
  induction f with
  | zero =>
    intro i hif hv
    have hin : i = n := by omega
    refine g_il1n (pc := 2) C dX12_fetches_2 ?_
    refine g_al0n (pc := 3) C dX12_fetches_3 ?_
    refine s_getR (pc := 4) C fX12_9 h135 rfl dX12_fetches_4 ?_
    refine g_iconst (pc := 7) (v := 5) C dX12_fetches_7 (by decide) ?_
    refine s_iald (pc := 8) (q := 5) C h136 rfl (by omega) (Nat.le_of_ble_eq_true rfl) dX12_fetches_8 ?_
    refine g_icmp_geL (pc := 9) (tgt := 71) C dX12_fetches_9 (by decide) (fun c_9 => ?_) (fun c_9 => absurd c_9 (by rw [hn]; exact nI_nlt (by omega) (by omega)))
    refine g_iconst (pc := 71) (v := (-1)) C dX12_fetches_71 (by decide) ?_
    exact r_I C hr dX12_fetches_72 (by rw [hin] at hv; rw [fetchS, drumW, hcn, hv]; rfl) rfl
  | succ f ih =>
    intro i hif hv
    refine g_il1n (pc := 2) C dX12_fetches_2 ?_
    refine g_al0n (pc := 3) C dX12_fetches_3 ?_
    refine s_getR (pc := 4) C fX12_9 h135 rfl dX12_fetches_4 ?_
    refine g_iconst (pc := 7) (v := 5) C dX12_fetches_7 (by decide) ?_
    refine s_iald (pc := 8) (q := 5) C h136 rfl (by omega) (Nat.le_of_ble_eq_true rfl) dX12_fetches_8 ?_
    refine g_icmp_geL (pc := 9) (tgt := 71) C dX12_fetches_9 (by decide) (fun c_9 => absurd (by rw [hn]; exact nI_lt (by omega) (by omega)) c_9) (fun c_9 => ?_)
    refine g_al0n (pc := 12) C dX12_fetches_12 ?_
    refine s_getR (pc := 13) C fX12_9 h135 rfl dX12_fetches_13 ?_
    refine g_il1n (pc := 16) C dX12_fetches_16 ?_
    refine g_iconst (pc := 17) (v := 0) C dX12_fetches_17 (by decide) ?_
    refine s_SI (pc := 18) (st := [(.ref 136)]) C (c_X12_ropeAt (d := d - 1) (by omega) σ i 0) (by omega) lX12_92 dX12_fetches_18 rfl (Nat.le_of_ble_eq_true rfl) rfl ?_
    refine s_iald (pc := 21) (q := 33 + 4 * i + 2 * 0) C h136 rfl (by omega) (Nat.le_of_ble_eq_true rfl) dX12_fetches_21 ?_
    refine g_if_eq (pc := 22) (tgt := 38) C dX12_fetches_22 (by decide) (fun c_22 => ?_) (fun c_22 => ?_)
    · refine g_al0n (pc := 38) C dX12_fetches_38 ?_
      refine g_al0n (pc := 39) C dX12_fetches_39 ?_
      refine s_getR (pc := 40) C fX12_9 h135 rfl dX12_fetches_40 ?_
      refine g_bipush (pc := 43) (v := 19) C dX12_fetches_43 (by decide) ?_
      refine s_iald (pc := 45) (q := 19) C h136 rfl (by omega) (Nat.le_of_ble_eq_true rfl) dX12_fetches_45 ?_
      refine g_al0n (pc := 46) C dX12_fetches_46 ?_
      refine s_getR (pc := 47) C fX12_9 h135 rfl dX12_fetches_47 ?_
      refine g_bipush (pc := 50) (v := 26) C dX12_fetches_50 (by decide) ?_
      refine s_iald (pc := 52) (q := 26) C h136 rfl (by omega) (Nat.le_of_ble_eq_true rfl) dX12_fetches_52 ?_
      refine s_VB (pc := 53) (st := []) C h135 rfl (by have := c_X12_isClear (d := d - 1) (by omega) σ (l := (σ 136 19).toNatClampNeg) (hI.lane (u := 3) (by decide)).2 (σ 136 26); rw [← (hI.lane (u := 3) (by decide)).1] at this; exact this) (by omega) lX12_156 dX12_fetches_53 rfl (Nat.le_of_ble_eq_true rfl) rfl (fun b_53 => ?_) (fun b_53 => ?_)
      · refine g_if_eq (pc := 56) (tgt := 63) C dX12_fetches_56 (by decide) (fun c => absurd c (by decide)) (fun _ => ?_)
        refine g_il1n (pc := 59) C dX12_fetches_59 ?_
        refine g_goto (pc := 60) (tgt := 64) C dX12_fetches_60 (by decide) ?_
        exact r_I C hr dX12_fetches_64 (by rw [fetchS, drumW, hcn, fstL_hit hv (by simp_all [druP, aR]) (show i < n by omega)]; simp only [o2i, b_53, eq_self, ne_eq, not_true_eq_false, not_false_eq_true, Classical.not_not, decide_true, decide_false, and_true, true_and, and_false, false_and, and_self, or_true, true_or, or_false, false_or, or_self, if_true, if_false, ite_true, ite_false, Bool.eq_false_iff, Bool.not_eq_eq_eq_not, Bool.true_eq_false, Bool.false_eq_true, reduceCtorEq]) rfl
      · refine g_if_eq (pc := 56) (tgt := 63) C dX12_fetches_56 (by decide) (fun _ => ?_) (fun c => absurd c (by decide))
        refine g_iconst (pc := 63) (v := (-1)) C dX12_fetches_63 (by decide) ?_
        exact r_I C hr dX12_fetches_64 (by rw [fetchS, drumW, hcn, fstL_hit hv (by simp_all [druP, aR]) (show i < n by omega)]; simp only [o2i, b_53, eq_self, ne_eq, not_true_eq_false, not_false_eq_true, Classical.not_not, decide_true, decide_false, and_true, true_and, and_false, false_and, and_self, or_true, true_or, or_false, false_or, or_self, if_true, if_false, ite_true, ite_false, Bool.eq_false_iff, Bool.not_eq_eq_eq_not, Bool.true_eq_false, Bool.false_eq_true, reduceCtorEq]) rfl
    · refine g_al0n (pc := 25) C dX12_fetches_25 ?_
      refine s_getR (pc := 26) C fX12_9 h135 rfl dX12_fetches_26 ?_
      refine g_il1n (pc := 29) C dX12_fetches_29 ?_
      refine g_iconst (pc := 30) (v := 1) C dX12_fetches_30 (by decide) ?_
      refine s_SI (pc := 31) (st := [(.ref 136)]) C (c_X12_ropeAt (d := d - 1) (by omega) σ i 1) (by omega) lX12_92 dX12_fetches_31 rfl (Nat.le_of_ble_eq_true rfl) rfl ?_
      refine s_iald (pc := 34) (q := 33 + 4 * i + 2 * 1) C h136 rfl (by omega) (Nat.le_of_ble_eq_true rfl) dX12_fetches_34 ?_
      refine g_if_ne (pc := 35) (tgt := 65) C dX12_fetches_35 (by decide) (fun c_35 => ?_) (fun c_35 => ?_)
      · refine g_ii1 (pc := 65) (v := nI (i + 1)) C dX12_fetches_65 (nI_inc1 _) ?_
        refine g_goto (pc := 68) (tgt := 2) C dX12_fetches_68 (by decide) ?_
        exact ih (i + 1) (by omega) (fstL_no hv (by simp_all [druP, aR]))
      · refine g_al0n (pc := 38) C dX12_fetches_38 ?_
        refine g_al0n (pc := 39) C dX12_fetches_39 ?_
        refine s_getR (pc := 40) C fX12_9 h135 rfl dX12_fetches_40 ?_
        refine g_bipush (pc := 43) (v := 19) C dX12_fetches_43 (by decide) ?_
        refine s_iald (pc := 45) (q := 19) C h136 rfl (by omega) (Nat.le_of_ble_eq_true rfl) dX12_fetches_45 ?_
        refine g_al0n (pc := 46) C dX12_fetches_46 ?_
        refine s_getR (pc := 47) C fX12_9 h135 rfl dX12_fetches_47 ?_
        refine g_bipush (pc := 50) (v := 26) C dX12_fetches_50 (by decide) ?_
        refine s_iald (pc := 52) (q := 26) C h136 rfl (by omega) (Nat.le_of_ble_eq_true rfl) dX12_fetches_52 ?_
        refine s_VB (pc := 53) (st := []) C h135 rfl (by have := c_X12_isClear (d := d - 1) (by omega) σ (l := (σ 136 19).toNatClampNeg) (hI.lane (u := 3) (by decide)).2 (σ 136 26); rw [← (hI.lane (u := 3) (by decide)).1] at this; exact this) (by omega) lX12_156 dX12_fetches_53 rfl (Nat.le_of_ble_eq_true rfl) rfl (fun b_53 => ?_) (fun b_53 => ?_)
        · refine g_if_eq (pc := 56) (tgt := 63) C dX12_fetches_56 (by decide) (fun c => absurd c (by decide)) (fun _ => ?_)
          refine g_il1n (pc := 59) C dX12_fetches_59 ?_
          refine g_goto (pc := 60) (tgt := 64) C dX12_fetches_60 (by decide) ?_
          exact r_I C hr dX12_fetches_64 (by rw [fetchS, drumW, hcn, fstL_hit hv (by simp_all [druP, aR]) (show i < n by omega)]; simp only [o2i, b_53, eq_self, ne_eq, not_true_eq_false, not_false_eq_true, Classical.not_not, decide_true, decide_false, and_true, true_and, and_false, false_and, and_self, or_true, true_or, or_false, false_or, or_self, if_true, if_false, ite_true, ite_false, Bool.eq_false_iff, Bool.not_eq_eq_eq_not, Bool.true_eq_false, Bool.false_eq_true, reduceCtorEq]) rfl
        · refine g_if_eq (pc := 56) (tgt := 63) C dX12_fetches_56 (by decide) (fun _ => ?_) (fun c => absurd c (by decide))
          refine g_iconst (pc := 63) (v := (-1)) C dX12_fetches_63 (by decide) ?_
          exact r_I C hr dX12_fetches_64 (by rw [fetchS, drumW, hcn, fstL_hit hv (by simp_all [druP, aR]) (show i < n by omega)]; simp only [o2i, b_53, eq_self, ne_eq, not_true_eq_false, not_false_eq_true, Classical.not_not, decide_true, decide_false, and_true, true_and, and_false, false_and, and_self, or_true, true_or, or_false, false_or, or_self, if_true, if_false, ite_true, ite_false, Bool.eq_false_iff, Bool.not_eq_eq_eq_not, Bool.true_eq_false, Bool.false_eq_true, reduceCtorEq]) rfl

theorem c_X12_fetches {d : Nat} (hd : 3 ≤ d) (σ : Sg) (hI : INV (σ 136)) : CI d mX12_fetches [.ref 135] σ (o2i (fetchS (σ 136))) σ := by
  refine con_of (by decide) (catL rfl) (Nat.le_of_ble_eq_true rfl) ?_
  intro μ ω C hr
  have C : Cx μ ω "TowFieldModel" cX12_fetches 2 d := C
  have hr : (mH μ).sig.returnType = some .int := hr
  show G μ ω (RQ μ ω (pI (o2i (fetchS (σ 136))) σ)) 0 [some (.ref 135), none] [] (mk σ) 0 0
  refine g_iconst (pc := 0) (v := 0) C dX12_fetches_0 (by decide) ?_
  refine g_is1n (pc := 1) C dX12_fetches_1 ?_
  exact lp_X12_fetches hd C hr σ hI hI.n5.1 hI.n5.2 rfl (cnt (σ 136) 5) 0 (by omega) rfl

