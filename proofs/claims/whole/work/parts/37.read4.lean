/-! ===== the model reads a text: negations, the whole ===== -/
section NOT
variable {t : Nu} {n q : Nat} {E N : Option (Nat → PR)}
theorem not_N0 (h : sg t n q = 33) (hN : N = none) : notP t n E N q = pNo q := by
  subst hN; unfold notP; rw [if_pos h]
theorem not_N1 {e : Nat → PR} {q' : Nat} {s : List Int32} (h : sg t n q = 33) (hN : N = some e) (hr : e (enS t n q) = .inl (q', s)) : notP t n E N q = pOk q' (s ++ [10107]) := by
  subst hN; unfold notP; rw [if_pos h]; show bnd (e (enS t n q)) _ = _; rw [hr]; rfl
theorem not_N2 {e : Nat → PR} {q' : Nat} (h : sg t n q = 33) (hN : N = some e) (hr : e (enS t n q) = .inr q') : notP t n E N q = pNo q' := by
  subst hN; unfold notP; rw [if_pos h]; show bnd (e (enS t n q)) _ = _; rw [hr]; rfl
end NOT
theorem c_not {d : Nat} {D : Nat} (hd : D + 12 ≤ d) (σ : Sg) {n : Nat} (hn : σ 135 6 = nI n) (hn1 : n ≤ 100) (o : Nat) (ho : o ≤ 6) {q : Nat} (hq : q ≤ n) {s : List Int32} (hs : s.length ≤ q) {E : Option (Nat → PR)} (hG : GoodP n (sumP (σ 140) n E)) (hS : ∀ d' q s, D ≤ d' → q ≤ n → s.length ≤ q → CQ d' mX12_sum [.ref 135] (mst σ n 0 o q s) (RSm σ n o s (sumP (σ 140) n E q))) {N : Option (Nat → PR)} (hN0 : N = none → o = 6) (hN : ∀ e, N = some e → o < 6 ∧ GoodP n e ∧ ∀ d' q s, D ≤ d' → q ≤ n → s.length ≤ q → CQ d' mX12_not [.ref 135] (mst σ n 0 (o + 1) q s) (RSm σ n (o + 1) s (e q))) : CQ d mX12_not [.ref 135] ((mst σ n 0 o q s)) (RSm σ n o s (notP (σ 140) n E N q)) := by
  have he1 := enS_le (t := σ 140) hq
  have hs1 := stS_le (t := σ 140) hq
  have hlen : nI (enS (σ 140) n q) - nI (stS (σ 140) n q) = nI (enS (σ 140) n q - stS (σ 140) n q) := nI_sub he1.1
  refine con_of (by decide) (catL rfl) (Nat.le_of_ble_eq_true rfl) ?_
  intro μ ω C hr
  have C : Cx μ ω "TowFieldModel" cX12_not 2 d := C
  have hr : (mH μ).sig.returnType = none := hr
  show G μ ω (RQ μ ω (pQ (RSm σ n o s (notP (σ 140) n E N q)))) 0 [some (.ref 135), none] [] (mk ((mst σ n 0 o q s))) 0 0
  refine g_al0n (pc := 0) C dX12_not_0 ?_
  refine g_bipush (pc := 1) (v := 33) C dX12_not_1 (by decide) ?_
  refine s_VB (pc := 3) (st := []) C h135 rfl (c_isSign0 (d := d - 1) (by omega) σ hn hn1 o (q := q) (by omega) s (c := 33) (by decide)) (by omega) lX12_258 dX12_not_3 rfl (Nat.le_of_ble_eq_true rfl) rfl (fun b_3 => ?_) (fun b_3 => ?_)
  · refine g_if_eq (pc := 6) (tgt := 59) C dX12_not_6 (by decide) (fun c => absurd c (by decide)) (fun _ => ?_)
    obtain hEe | ⟨e, hEe⟩ : N = none ∨ ∃ e, N = some e := by cases N with | none => exact Or.inl rfl | some e => exact Or.inr ⟨e, rfl⟩
    · have ho6 := hN0 hEe
      refine g_al0n (pc := 9) C dX12_not_9 ?_
      refine g_al0n (pc := 10) C dX12_not_10 ?_
      refine s_getIv (pc := 11) (v := nI o) C fX12_271 h135 rfl rfl dX12_not_11 ?_
      refine g_bipush (pc := 14) (v := 6) C dX12_not_14 (by decide) ?_
      refine g_icmp_geL (pc := 16) (tgt := 23) C dX12_not_16 (by decide) (fun c_16 => ?_) (fun c_16 => absurd c_16 (by rw [ho6]; decide))
      refine g_iconst (pc := 23) (v := 0) C dX12_not_23 (by decide) ?_
      refine s_VU (pc := 24) (st := []) C h135 rfl (c_need0 (d := d - 1) (by omega) σ n o q s) (by omega) lX12_261 dX12_not_24 rfl (Nat.le_of_ble_eq_true rfl) rfl ?_
      refine g_al0n (pc := 27) C dX12_not_27 ?_
      refine g_dup (pc := 28) C dX12_not_28 rfl ?_
      refine s_getIv (pc := 29) (v := nI o) C fX12_271 h135 rfl rfl dX12_not_29 ?_
      refine g_iconst (pc := 32) (v := 1) C dX12_not_32 (by decide) ?_
      refine g_iadd (pc := 33) C dX12_not_33 ?_
      refine s_putIv (pc := 34) (σ' := (mst σ n 1 (o + 1) q s)) C pX12_271 h135 rfl (mst_o (by first | rfl | exact nI_1 _)) dX12_not_34 ?_
      refine g_al0n (pc := 37) C dX12_not_37 ?_
      refine s_VU (pc := 38) (st := []) C h135 rfl (w_not (d := d - 1) (by omega) σ n (o + 1) q s) (by omega) lX12_268 dX12_not_38 rfl (Nat.le_of_ble_eq_true rfl) rfl ?_
      refine g_al0n (pc := 41) C dX12_not_41 ?_
      refine g_dup (pc := 42) C dX12_not_42 rfl ?_
      refine s_getIv (pc := 43) (v := nI (o + 1)) C fX12_271 h135 rfl rfl dX12_not_43 ?_
      refine g_iconst (pc := 46) (v := 1) C dX12_not_46 (by decide) ?_
      refine g_isub (pc := 47) C dX12_not_47 ?_
      refine s_putIv (pc := 48) (σ' := (mst σ n 1 o q s)) C pX12_271 h135 rfl (mst_o (nI_pred _)) dX12_not_48 ?_
      refine g_al0n (pc := 51) C dX12_not_51 ?_
      refine g_sipush (pc := 52) (v := 10107) C dX12_not_52 (by decide) ?_
      refine s_VU (pc := 55) (st := []) C h135 rfl (c_emit1 (d := d - 1) (by omega) σ n o q s 10107) (by omega) lX12_265 dX12_not_55 rfl (Nat.le_of_ble_eq_true rfl) rfl ?_
      rw [not_N0 b_3 hEe]
      exact r_Q C hr dX12_not_58 ⟨_, rfl⟩
    · have ho6 := (hN e hEe).1
      have hG2 := (hN e hEe).2.1
      refine g_al0n (pc := 9) C dX12_not_9 ?_
      refine g_al0n (pc := 10) C dX12_not_10 ?_
      refine s_getIv (pc := 11) (v := nI o) C fX12_271 h135 rfl rfl dX12_not_11 ?_
      refine g_bipush (pc := 14) (v := 6) C dX12_not_14 (by decide) ?_
      refine g_icmp_geL (pc := 16) (tgt := 23) C dX12_not_16 (by decide) (fun c_16 => absurd (nI_lt (b := 6) ho6 (by decide)) c_16) (fun c_16 => ?_)
      refine g_iconst (pc := 19) (v := 1) C dX12_not_19 (by decide) ?_
      refine g_goto (pc := 20) (tgt := 24) C dX12_not_20 (by decide) ?_
      refine s_VQ (pc := 24) (st := []) C h135 rfl (c_need1 (d := d - 1) (by omega) σ hn hn1 o (q := q) (by omega) s) (by omega) lX12_261 dX12_not_24 rfl (Nat.le_of_ble_eq_true rfl) rfl (fun τ hτ => ?_)
      subst hτ
      refine g_al0n (pc := 27) C dX12_not_27 ?_
      refine g_dup (pc := 28) C dX12_not_28 rfl ?_
      refine s_getIv (pc := 29) (v := nI o) C fX12_271 h135 rfl rfl dX12_not_29 ?_
      refine g_iconst (pc := 32) (v := 1) C dX12_not_32 (by decide) ?_
      refine g_iadd (pc := 33) C dX12_not_33 ?_
      refine s_putIv (pc := 34) (σ' := (mst σ n 0 (o + 1) (enS (σ 140) n q) s)) C pX12_271 h135 rfl (mst_o (by first | rfl | exact nI_1 _)) dX12_not_34 ?_
      refine g_al0n (pc := 37) C dX12_not_37 ?_
      refine s_VQ (pc := 38) (st := []) C h135 rfl ((hN e hEe).2.2 (d - 1) (enS (σ 140) n q) s (by omega) he1.2.1 (by omega)) (by omega) lX12_268 dX12_not_38 rfl (Nat.le_of_ble_eq_true rfl) rfl (fun τ hτ => ?_)
      rcases hr2 : e (enS (σ 140) n q) with ⟨q', s'⟩ | q'
      · have hτ2 : τ = mst σ n 0 (o + 1) q' (s ++ s') := by have z := hτ; rw [hr2] at z; exact z
        have hg := hG2 (enS (σ 140) n q) he1.2.1
        rw [hr2] at hg
        obtain ⟨g1, g2, g3⟩ := hg
        have g4 := g3.2.1
        subst hτ2
        refine g_al0n (pc := 41) C dX12_not_41 ?_
        refine g_dup (pc := 42) C dX12_not_42 rfl ?_
        refine s_getIv (pc := 43) (v := nI (o + 1)) C fX12_271 h135 rfl rfl dX12_not_43 ?_
        refine g_iconst (pc := 46) (v := 1) C dX12_not_46 (by decide) ?_
        refine g_isub (pc := 47) C dX12_not_47 ?_
        refine s_putIv (pc := 48) (σ' := (mst σ n 0 o q' (s ++ s'))) C pX12_271 h135 rfl (mst_o (nI_pred _)) dX12_not_48 ?_
        refine g_al0n (pc := 51) C dX12_not_51 ?_
        refine g_sipush (pc := 52) (v := 10107) C dX12_not_52 (by decide) ?_
        refine s_VU (pc := 55) (st := []) C h135 rfl (c_emit0 (d := d - 1) (by omega) σ n o q' (s ++ s') (by simp only [List.length_append]; omega) 10107) (by omega) lX12_265 dX12_not_55 rfl (Nat.le_of_ble_eq_true rfl) rfl ?_
        rw [not_N1 b_3 hEe hr2]
        exact r_Q C hr dX12_not_58 (by show _ = mst σ n 0 o q' (s ++ (s' ++ [10107])); rw [List.append_assoc])
      · obtain ⟨s', hτ2⟩ : ∃ s', τ = mst σ n 1 (o + 1) q' s' := by have z := hτ; rw [hr2] at z; exact z
        subst hτ2
        refine g_al0n (pc := 41) C dX12_not_41 ?_
        refine g_dup (pc := 42) C dX12_not_42 rfl ?_
        refine s_getIv (pc := 43) (v := nI (o + 1)) C fX12_271 h135 rfl rfl dX12_not_43 ?_
        refine g_iconst (pc := 46) (v := 1) C dX12_not_46 (by decide) ?_
        refine g_isub (pc := 47) C dX12_not_47 ?_
        refine s_putIv (pc := 48) (σ' := (mst σ n 1 o q' s')) C pX12_271 h135 rfl (mst_o (nI_pred _)) dX12_not_48 ?_
        refine g_al0n (pc := 51) C dX12_not_51 ?_
        refine g_sipush (pc := 52) (v := 10107) C dX12_not_52 (by decide) ?_
        refine s_VU (pc := 55) (st := []) C h135 rfl (c_emit1 (d := d - 1) (by omega) σ n o q' s' 10107) (by omega) lX12_265 dX12_not_55 rfl (Nat.le_of_ble_eq_true rfl) rfl ?_
        rw [not_N2 b_3 hEe hr2]
        exact r_Q C hr dX12_not_58 ⟨_, rfl⟩
  · refine g_if_eq (pc := 6) (tgt := 59) C dX12_not_6 (by decide) (fun _ => ?_) (fun c => absurd c (by decide))
    refine g_al0n (pc := 59) C dX12_not_59 ?_
    refine s_VQ (pc := 60) (st := []) C h135 rfl (hS (d - 1) q s (by omega) hq hs) (by omega) lX12_274 dX12_not_60 rfl (Nat.le_of_ble_eq_true rfl) rfl (fun τ hτ => ?_)
    rcases hr2 : sumP (σ 140) n E q with ⟨q', s'⟩ | q'
    · have hτ2 : τ = mst σ n 0 o q' (s ++ s') := by have z := hτ; rw [hr2] at z; exact z
      have hg := hG q hq
      rw [hr2] at hg
      obtain ⟨g1, g2, g3⟩ := hg
      have g4 := g3.2.1
      subst hτ2
      refine g_al0n (pc := 63) C dX12_not_63 ?_
      refine g_bipush (pc := 64) (v := 60) C dX12_not_64 (by decide) ?_
      refine s_VB (pc := 66) (st := []) C h135 rfl (c_isSign0 (d := d - 1) (by omega) σ hn hn1 o (q := q') g2 (s ++ s') (c := 60) (by decide)) (by omega) lX12_258 dX12_not_66 rfl (Nat.le_of_ble_eq_true rfl) rfl (fun b_66 => ?_) (fun b_66 => ?_)
      · refine g_if_eq (pc := 69) (tgt := 78) C dX12_not_69 (by decide) (fun c => absurd c (by decide)) (fun _ => ?_)
        refine g_sipush (pc := 72) (v := 10102) C dX12_not_72 (by decide) ?_
        refine g_goto (pc := 75) (tgt := 109) C dX12_not_75 (by decide) ?_
        refine g_is1n (pc := 109) C dX12_not_109 ?_
        refine g_il1n (pc := 110) C dX12_not_110 ?_
        refine g_if_leL (pc := 111) (tgt := 128) C dX12_not_111 (by decide) (fun c => absurd c (by decide)) (fun _ => ?_)
        refine g_al0n (pc := 114) C dX12_not_114 ?_
        refine g_iconst (pc := 115) (v := 1) C dX12_not_115 (by decide) ?_
        refine s_VQ (pc := 116) (st := []) C h135 rfl (c_need1 (d := d - 1) (by omega) σ hn hn1 o (q := q') g2 (s ++ s')) (by omega) lX12_261 dX12_not_116 rfl (Nat.le_of_ble_eq_true rfl) rfl (fun τ hτ => ?_)
        subst hτ
        refine g_al0n (pc := 119) C dX12_not_119 ?_
        refine s_VQ (pc := 120) (st := []) C h135 rfl (hS (d - 1) (enS (σ 140) n q') (s ++ s') (by omega) (enS_le (t := σ 140) g2).2.1 (by have := (enS_le (t := σ 140) g2).1; have := (stS_le (t := σ 140) g2).1; simp only [List.length_append]; omega)) (by omega) lX12_274 dX12_not_120 rfl (Nat.le_of_ble_eq_true rfl) rfl (fun υ hυ => ?_)
        rcases hr3 : sumP (σ 140) n E (enS (σ 140) n q') with ⟨q2, s2⟩ | q2
        · have hυ2 : υ = mst σ n 0 o q2 (s ++ s' ++ s2) := by have z := hυ; rw [hr3] at z; exact z
          have hg := hG (enS (σ 140) n q') (enS_le (t := σ 140) g2).2.1
          rw [hr3] at hg
          obtain ⟨k1, k2, k3⟩ := hg
          have k4 := k3.2.1
          subst hυ2
          refine g_al0n (pc := 123) C dX12_not_123 ?_
          refine g_il1n (pc := 124) C dX12_not_124 ?_
          refine s_VU (pc := 125) (st := []) C h135 rfl (c_emit0 (d := d - 1) (by omega) σ n o q2 (s ++ s' ++ s2) (by have := (enS_le (t := σ 140) g2).1; have := (stS_le (t := σ 140) g2).1; simp only [List.length_append] at *; omega) 10102) (by omega) lX12_265 dX12_not_125 rfl (Nat.le_of_ble_eq_true rfl) rfl ?_
          have eo : opC (sg (σ 140) n q') = 10102 := by unfold opC; rw [if_pos b_66]
          have ef : notP (σ 140) n E N q = pOk q2 (s' ++ s2 ++ [10102]) := by
            unfold notP; rw [if_neg b_3]; unfold cmpP; rw [hr2]
            show cmpT (σ 140) n E q' s' = _
            unfold cmpT; rw [if_neg (by rw [eo]; decide), hr3, eo]; rfl
          rw [ef]
          exact r_Q C hr dX12_not_128 (by show _ = mst σ n 0 o q2 (s ++ (s' ++ s2 ++ [10102])); simp only [List.append_assoc])
        · obtain ⟨s2, hυ2⟩ : ∃ s', υ = mst σ n 1 o q2 s' := by have z := hυ; rw [hr3] at z; exact z
          subst hυ2
          refine g_al0n (pc := 123) C dX12_not_123 ?_
          refine g_il1n (pc := 124) C dX12_not_124 ?_
          refine s_VU (pc := 125) (st := []) C h135 rfl (c_emit1 (d := d - 1) (by omega) σ n o q2 s2 10102) (by omega) lX12_265 dX12_not_125 rfl (Nat.le_of_ble_eq_true rfl) rfl ?_
          have eo : opC (sg (σ 140) n q') = 10102 := by unfold opC; rw [if_pos b_66]
          have ef : notP (σ 140) n E N q = pNo q2 := by
            unfold notP; rw [if_neg b_3]; unfold cmpP; rw [hr2]
            show cmpT (σ 140) n E q' s' = _
            unfold cmpT; rw [if_neg (by rw [eo]; decide), hr3]; rfl
          rw [ef]
          exact r_Q C hr dX12_not_128 ⟨_, rfl⟩
      · refine g_if_eq (pc := 69) (tgt := 78) C dX12_not_69 (by decide) (fun _ => ?_) (fun c => absurd c (by decide))
        refine g_al0n (pc := 78) C dX12_not_78 ?_
        refine g_bipush (pc := 79) (v := 61) C dX12_not_79 (by decide) ?_
        refine s_VB (pc := 81) (st := []) C h135 rfl (c_isSign0 (d := d - 1) (by omega) σ hn hn1 o (q := q') g2 (s ++ s') (c := 61) (by decide)) (by omega) lX12_258 dX12_not_81 rfl (Nat.le_of_ble_eq_true rfl) rfl (fun b_81 => ?_) (fun b_81 => ?_)
        · refine g_if_eq (pc := 84) (tgt := 93) C dX12_not_84 (by decide) (fun c => absurd c (by decide)) (fun _ => ?_)
          refine g_sipush (pc := 87) (v := 10103) C dX12_not_87 (by decide) ?_
          refine g_goto (pc := 90) (tgt := 109) C dX12_not_90 (by decide) ?_
          refine g_is1n (pc := 109) C dX12_not_109 ?_
          refine g_il1n (pc := 110) C dX12_not_110 ?_
          refine g_if_leL (pc := 111) (tgt := 128) C dX12_not_111 (by decide) (fun c => absurd c (by decide)) (fun _ => ?_)
          refine g_al0n (pc := 114) C dX12_not_114 ?_
          refine g_iconst (pc := 115) (v := 1) C dX12_not_115 (by decide) ?_
          refine s_VQ (pc := 116) (st := []) C h135 rfl (c_need1 (d := d - 1) (by omega) σ hn hn1 o (q := q') g2 (s ++ s')) (by omega) lX12_261 dX12_not_116 rfl (Nat.le_of_ble_eq_true rfl) rfl (fun τ hτ => ?_)
          subst hτ
          refine g_al0n (pc := 119) C dX12_not_119 ?_
          refine s_VQ (pc := 120) (st := []) C h135 rfl (hS (d - 1) (enS (σ 140) n q') (s ++ s') (by omega) (enS_le (t := σ 140) g2).2.1 (by have := (enS_le (t := σ 140) g2).1; have := (stS_le (t := σ 140) g2).1; simp only [List.length_append]; omega)) (by omega) lX12_274 dX12_not_120 rfl (Nat.le_of_ble_eq_true rfl) rfl (fun υ hυ => ?_)
          rcases hr3 : sumP (σ 140) n E (enS (σ 140) n q') with ⟨q2, s2⟩ | q2
          · have hυ2 : υ = mst σ n 0 o q2 (s ++ s' ++ s2) := by have z := hυ; rw [hr3] at z; exact z
            have hg := hG (enS (σ 140) n q') (enS_le (t := σ 140) g2).2.1
            rw [hr3] at hg
            obtain ⟨k1, k2, k3⟩ := hg
            have k4 := k3.2.1
            subst hυ2
            refine g_al0n (pc := 123) C dX12_not_123 ?_
            refine g_il1n (pc := 124) C dX12_not_124 ?_
            refine s_VU (pc := 125) (st := []) C h135 rfl (c_emit0 (d := d - 1) (by omega) σ n o q2 (s ++ s' ++ s2) (by have := (enS_le (t := σ 140) g2).1; have := (stS_le (t := σ 140) g2).1; simp only [List.length_append] at *; omega) 10103) (by omega) lX12_265 dX12_not_125 rfl (Nat.le_of_ble_eq_true rfl) rfl ?_
            have eo : opC (sg (σ 140) n q') = 10103 := by unfold opC; rw [if_neg b_66, if_pos b_81]
            have ef : notP (σ 140) n E N q = pOk q2 (s' ++ s2 ++ [10103]) := by
              unfold notP; rw [if_neg b_3]; unfold cmpP; rw [hr2]
              show cmpT (σ 140) n E q' s' = _
              unfold cmpT; rw [if_neg (by rw [eo]; decide), hr3, eo]; rfl
            rw [ef]
            exact r_Q C hr dX12_not_128 (by show _ = mst σ n 0 o q2 (s ++ (s' ++ s2 ++ [10103])); simp only [List.append_assoc])
          · obtain ⟨s2, hυ2⟩ : ∃ s', υ = mst σ n 1 o q2 s' := by have z := hυ; rw [hr3] at z; exact z
            subst hυ2
            refine g_al0n (pc := 123) C dX12_not_123 ?_
            refine g_il1n (pc := 124) C dX12_not_124 ?_
            refine s_VU (pc := 125) (st := []) C h135 rfl (c_emit1 (d := d - 1) (by omega) σ n o q2 s2 10103) (by omega) lX12_265 dX12_not_125 rfl (Nat.le_of_ble_eq_true rfl) rfl ?_
            have eo : opC (sg (σ 140) n q') = 10103 := by unfold opC; rw [if_neg b_66, if_pos b_81]
            have ef : notP (σ 140) n E N q = pNo q2 := by
              unfold notP; rw [if_neg b_3]; unfold cmpP; rw [hr2]
              show cmpT (σ 140) n E q' s' = _
              unfold cmpT; rw [if_neg (by rw [eo]; decide), hr3]; rfl
            rw [ef]
            exact r_Q C hr dX12_not_128 ⟨_, rfl⟩
        · refine g_if_eq (pc := 84) (tgt := 93) C dX12_not_84 (by decide) (fun _ => ?_) (fun c => absurd c (by decide))
          refine g_al0n (pc := 93) C dX12_not_93 ?_
          refine g_bipush (pc := 94) (v := 62) C dX12_not_94 (by decide) ?_
          refine s_VB (pc := 96) (st := []) C h135 rfl (c_isSign0 (d := d - 1) (by omega) σ hn hn1 o (q := q') g2 (s ++ s') (c := 62) (by decide)) (by omega) lX12_258 dX12_not_96 rfl (Nat.le_of_ble_eq_true rfl) rfl (fun b_96 => ?_) (fun b_96 => ?_)
          · refine g_if_eq (pc := 99) (tgt := 108) C dX12_not_99 (by decide) (fun c => absurd c (by decide)) (fun _ => ?_)
            refine g_sipush (pc := 102) (v := 10104) C dX12_not_102 (by decide) ?_
            refine g_goto (pc := 105) (tgt := 109) C dX12_not_105 (by decide) ?_
            refine g_is1n (pc := 109) C dX12_not_109 ?_
            refine g_il1n (pc := 110) C dX12_not_110 ?_
            refine g_if_leL (pc := 111) (tgt := 128) C dX12_not_111 (by decide) (fun c => absurd c (by decide)) (fun _ => ?_)
            refine g_al0n (pc := 114) C dX12_not_114 ?_
            refine g_iconst (pc := 115) (v := 1) C dX12_not_115 (by decide) ?_
            refine s_VQ (pc := 116) (st := []) C h135 rfl (c_need1 (d := d - 1) (by omega) σ hn hn1 o (q := q') g2 (s ++ s')) (by omega) lX12_261 dX12_not_116 rfl (Nat.le_of_ble_eq_true rfl) rfl (fun τ hτ => ?_)
            subst hτ
            refine g_al0n (pc := 119) C dX12_not_119 ?_
            refine s_VQ (pc := 120) (st := []) C h135 rfl (hS (d - 1) (enS (σ 140) n q') (s ++ s') (by omega) (enS_le (t := σ 140) g2).2.1 (by have := (enS_le (t := σ 140) g2).1; have := (stS_le (t := σ 140) g2).1; simp only [List.length_append]; omega)) (by omega) lX12_274 dX12_not_120 rfl (Nat.le_of_ble_eq_true rfl) rfl (fun υ hυ => ?_)
            rcases hr3 : sumP (σ 140) n E (enS (σ 140) n q') with ⟨q2, s2⟩ | q2
            · have hυ2 : υ = mst σ n 0 o q2 (s ++ s' ++ s2) := by have z := hυ; rw [hr3] at z; exact z
              have hg := hG (enS (σ 140) n q') (enS_le (t := σ 140) g2).2.1
              rw [hr3] at hg
              obtain ⟨k1, k2, k3⟩ := hg
              have k4 := k3.2.1
              subst hυ2
              refine g_al0n (pc := 123) C dX12_not_123 ?_
              refine g_il1n (pc := 124) C dX12_not_124 ?_
              refine s_VU (pc := 125) (st := []) C h135 rfl (c_emit0 (d := d - 1) (by omega) σ n o q2 (s ++ s' ++ s2) (by have := (enS_le (t := σ 140) g2).1; have := (stS_le (t := σ 140) g2).1; simp only [List.length_append] at *; omega) 10104) (by omega) lX12_265 dX12_not_125 rfl (Nat.le_of_ble_eq_true rfl) rfl ?_
              have eo : opC (sg (σ 140) n q') = 10104 := by unfold opC; rw [if_neg b_66, if_neg b_81, if_pos b_96]
              have ef : notP (σ 140) n E N q = pOk q2 (s' ++ s2 ++ [10104]) := by
                unfold notP; rw [if_neg b_3]; unfold cmpP; rw [hr2]
                show cmpT (σ 140) n E q' s' = _
                unfold cmpT; rw [if_neg (by rw [eo]; decide), hr3, eo]; rfl
              rw [ef]
              exact r_Q C hr dX12_not_128 (by show _ = mst σ n 0 o q2 (s ++ (s' ++ s2 ++ [10104])); simp only [List.append_assoc])
            · obtain ⟨s2, hυ2⟩ : ∃ s', υ = mst σ n 1 o q2 s' := by have z := hυ; rw [hr3] at z; exact z
              subst hυ2
              refine g_al0n (pc := 123) C dX12_not_123 ?_
              refine g_il1n (pc := 124) C dX12_not_124 ?_
              refine s_VU (pc := 125) (st := []) C h135 rfl (c_emit1 (d := d - 1) (by omega) σ n o q2 s2 10104) (by omega) lX12_265 dX12_not_125 rfl (Nat.le_of_ble_eq_true rfl) rfl ?_
              have eo : opC (sg (σ 140) n q') = 10104 := by unfold opC; rw [if_neg b_66, if_neg b_81, if_pos b_96]
              have ef : notP (σ 140) n E N q = pNo q2 := by
                unfold notP; rw [if_neg b_3]; unfold cmpP; rw [hr2]
                show cmpT (σ 140) n E q' s' = _
                unfold cmpT; rw [if_neg (by rw [eo]; decide), hr3]; rfl
              rw [ef]
              exact r_Q C hr dX12_not_128 ⟨_, rfl⟩
          · refine g_if_eq (pc := 99) (tgt := 108) C dX12_not_99 (by decide) (fun _ => ?_) (fun c => absurd c (by decide))
            refine g_iconst (pc := 108) (v := 0) C dX12_not_108 (by decide) ?_
            refine g_is1n (pc := 109) C dX12_not_109 ?_
            refine g_il1n (pc := 110) C dX12_not_110 ?_
            refine g_if_leL (pc := 111) (tgt := 128) C dX12_not_111 (by decide) (fun _ => ?_) (fun c => absurd c (by decide))
            have ef : notP (σ 140) n E N q = pOk q' s' := by
              unfold notP; rw [if_neg b_3]; unfold cmpP; rw [hr2]
              exact if_pos (by unfold opC; rw [if_neg b_66, if_neg b_81, if_neg b_96])
            rw [ef]
            exact r_Q C hr dX12_not_128 rfl
    · obtain ⟨s', hτ2⟩ : ∃ s', τ = mst σ n 1 o q' s' := by have z := hτ; rw [hr2] at z; exact z
      subst hτ2
      refine g_al0n (pc := 63) C dX12_not_63 ?_
      refine g_bipush (pc := 64) (v := 60) C dX12_not_64 (by decide) ?_
      refine s_VB (pc := 66) (st := []) C h135 rfl (c_isSign1 (d := d - 1) (by omega) σ n o q' s' 60) (by omega) lX12_258 dX12_not_66 rfl (Nat.le_of_ble_eq_true rfl) rfl (fun bw_66 => bw_66.elim) (fun bw_66 => ?_)
      refine g_if_eq (pc := 69) (tgt := 78) C dX12_not_69 (by decide) (fun _ => ?_) (fun c => absurd c (by decide))
      refine g_al0n (pc := 78) C dX12_not_78 ?_
      refine g_bipush (pc := 79) (v := 61) C dX12_not_79 (by decide) ?_
      refine s_VB (pc := 81) (st := []) C h135 rfl (c_isSign1 (d := d - 1) (by omega) σ n o q' s' 61) (by omega) lX12_258 dX12_not_81 rfl (Nat.le_of_ble_eq_true rfl) rfl (fun bw_81 => bw_81.elim) (fun bw_81 => ?_)
      refine g_if_eq (pc := 84) (tgt := 93) C dX12_not_84 (by decide) (fun _ => ?_) (fun c => absurd c (by decide))
      refine g_al0n (pc := 93) C dX12_not_93 ?_
      refine g_bipush (pc := 94) (v := 62) C dX12_not_94 (by decide) ?_
      refine s_VB (pc := 96) (st := []) C h135 rfl (c_isSign1 (d := d - 1) (by omega) σ n o q' s' 62) (by omega) lX12_258 dX12_not_96 rfl (Nat.le_of_ble_eq_true rfl) rfl (fun bw_96 => bw_96.elim) (fun bw_96 => ?_)
      refine g_if_eq (pc := 99) (tgt := 108) C dX12_not_99 (by decide) (fun _ => ?_) (fun c => absurd c (by decide))
      refine g_iconst (pc := 108) (v := 0) C dX12_not_108 (by decide) ?_
      refine g_is1n (pc := 109) C dX12_not_109 ?_
      refine g_il1n (pc := 110) C dX12_not_110 ?_
      refine g_if_leL (pc := 111) (tgt := 128) C dX12_not_111 (by decide) (fun _ => ?_) (fun c => absurd c (by decide))
      have ef : notP (σ 140) n E N q = pNo q' := by
        unfold notP; rw [if_neg b_3]; unfold cmpP; rw [hr2]; rfl
      rw [ef]
      exact r_Q C hr dX12_not_128 ⟨_, rfl⟩

theorem c_level (σ : Sg) {n : Nat} (hn : σ 135 6 = nI n) (hn1 : n ≤ 100) (o : Nat) (ho : o ≤ 6) {D : Nat} {E N : Option (Nat → PR)} (gE : ∀ e, E = some e → GoodP n e) (gN : ∀ e, N = some e → GoodP n e) (hE0 : E = none → o = 6) (hE : ∀ e, E = some e → o < 6 ∧ GoodP n e ∧ ∀ d' q s, D ≤ d' → q ≤ n → s.length ≤ q → CQ d' mX12_either [.ref 135] (mst σ n 0 (o + 1) q s) (RSm σ n (o + 1) s (e q)))
    (hN0 : N = none → o = 6) (hN : ∀ e, N = some e → o < 6 ∧ GoodP n e ∧ ∀ d' q s, D ≤ d' → q ≤ n → s.length ≤ q → CQ d' mX12_not [.ref 135] (mst σ n 0 (o + 1) q s) (RSm σ n (o + 1) s (e q))) (K : Nat) (hK : D ≤ K) :
    (∀ d q s, K + 80 ≤ d → q ≤ n → s.length ≤ q → CQ d mX12_either [.ref 135] (mst σ n 0 o q s) (RSm σ n o s (eitP (σ 140) n E N q))) ∧
    (∀ d q s, K + 60 ≤ d → q ≤ n → s.length ≤ q → CQ d mX12_not [.ref 135] (mst σ n 0 o q s) (RSm σ n o s (notP (σ 140) n E N q))) := by
  have c1 : ∀ d' q s, K + 10 ≤ d' → q ≤ n → s.length ≤ q → CQ d' mX12_part [.ref 135] (mst σ n 0 o q s) (RSm σ n o s (sglP (σ 140) n E q)) := fun d' q s h1 h2 h3 => c_part (D := D) (by omega) σ hn hn1 o ho h2 h3 hE0 hE
  have c2 : ∀ d' q s, K + 22 ≤ d' → q ≤ n → s.length ≤ q → CQ d' mX12_product [.ref 135] (mst σ n 0 o q s) (RSm σ n o s (prdP (σ 140) n E q)) := fun d' q s h1 h2 h3 => c_product σ hn hn1 o (sgl_good gE) c1 h2 h3 (by omega)
  have c3 : ∀ d' q s, K + 34 ≤ d' → q ≤ n → s.length ≤ q → CQ d' mX12_sum [.ref 135] (mst σ n 0 o q s) (RSm σ n o s (sumP (σ 140) n E q)) := fun d' q s h1 h2 h3 => c_sum σ hn hn1 o (prd_good gE) c2 h2 h3 (by omega)
  have c4 : ∀ d' q s, K + 46 ≤ d' → q ≤ n → s.length ≤ q → CQ d' mX12_not [.ref 135] (mst σ n 0 o q s) (RSm σ n o s (notP (σ 140) n E N q)) := fun d' q s h1 h2 h3 => c_not (D := K + 34) (by omega) σ hn hn1 o ho h2 h3 (sum_good gE) c3 hN0 (fun e h => ⟨(hN e h).1, (hN e h).2.1, fun d1 q1 s1 a1 => (hN e h).2.2 d1 q1 s1 (by omega)⟩)
  have c5 : ∀ d' q s, K + 58 ≤ d' → q ≤ n → s.length ≤ q → CQ d' mX12_both [.ref 135] (mst σ n 0 o q s) (RSm σ n o s (bthP (σ 140) n E N q)) := fun d' q s h1 h2 h3 => c_both σ hn hn1 o (not_good gE gN) c4 h2 h3 (by omega)
  exact ⟨fun d q s h1 h2 h3 => c_either σ hn hn1 o (bth_good gE gN) c5 h2 h3 (by omega), fun d q s h1 h2 h3 => c4 d q s (by omega) h2 h3⟩
/-- what is read of a text, at each depth -/
theorem c_levels (σ : Sg) {n : Nat} (hn : σ 135 6 = nI n) (hn1 : n ≤ 100) : ∀ k o, o + k = 6 →
    (∀ d q s, 80 * k + 80 ≤ d → q ≤ n → s.length ≤ q → CQ d mX12_either [.ref 135] (mst σ n 0 o q s) (RSm σ n o s (eitP (σ 140) n (lvl (σ 140) n k).1 (lvl (σ 140) n k).2 q))) ∧
    (∀ d q s, 80 * k + 60 ≤ d → q ≤ n → s.length ≤ q → CQ d mX12_not [.ref 135] (mst σ n 0 o q s) (RSm σ n o s (notP (σ 140) n (lvl (σ 140) n k).1 (lvl (σ 140) n k).2 q))) := by
  intro k
  induction k with
  | zero =>
    intro o ho
    exact c_level σ hn hn1 o (by omega) (D := 0) (lvl_good 0).1 (lvl_good 0).2 (fun _ => by omega) (fun e h => by cases h) (fun _ => by omega) (fun e h => by cases h) 0 (by omega)
  | succ k ih =>
    intro o ho
    obtain ⟨i1, i2⟩ := ih (o + 1) (by omega)
    exact c_level σ hn hn1 o (by omega) (D := 80 * k + 80) (lvl_good (k + 1)).1 (lvl_good (k + 1)).2 (fun h => by cases h) (fun e h => by cases h; exact ⟨by omega, eit_good (lvl_good k).1 (lvl_good k).2, i1⟩) (fun h => by cases h) (fun e h => by cases h; exact ⟨by omega, not_good (lvl_good k).1 (lvl_good k).2, fun d' q s h1 => i2 d' q s (by omega)⟩) (80 * (k + 1)) (by omega)
