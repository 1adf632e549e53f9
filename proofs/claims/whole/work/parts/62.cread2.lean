/-! ===== the class reads a text: single parts, negations, the whole ===== -/
theorem nm_none {t : Nu} {n q : Nat} (h : ¬ (nameS t n q).isSome = true) : nameS t n q = none := by
  cases e : nameS t n q with
  | none => rfl
  | some i => rw [e] at h; exact absurd rfl h
theorem nm_some {t : Nu} {n q : Nat} (h : (nameS t n q).isSome = true) : ∃ i, nameS t n q = some i := by
  cases e : nameS t n q with
  | none => rw [e] at h; exact absurd h (by decide)
  | some i => exact ⟨i, rfl⟩
theorem c_readSingle {d : Nat}  (σ : Sg) {n : Nat} (hn1 : n ≤ 100) (hb : BY (σ 132) n) (o : Nat) (ho : o ≤ 6) {D : Nat} {E : Option (Nat → PR)} (hE0 : E = none → o = 6) (hE : ∀ e, E = some e → o < 6 ∧ GoodP n e ∧ ∀ d' q s τ, D ≤ d' → q ≤ n → s.length ≤ q → CS σ n q s τ → CP d' mX7_readEither [.ref 131, .int (nI (o + 1))] τ (RSx σ n s (e q))) {q : Nat} (hq : q ≤ n) {s : List Int32} (hs : s.length ≤ q) {τ : Sg} (hS : CS σ n q s τ) (hd : D + 12 ≤ d) : CP d mX7_readSingle [.ref 131, .int (nI o)] τ (RSx σ n s (sglP (σ 132) n E q)) := by
  refine con_of (by decide) (catL rfl) (Nat.le_of_ble_eq_true rfl) ?_
  intro μ ω C hr
  have C : Cx μ ω "TowField$Tape" cX7_readSingle 2 d := C
  have hr : (mH μ).sig.returnType = some .boolean := hr
  show G μ ω (RQ μ ω (pP (RSx σ n s (sglP (σ 132) n E q)))) 0 [some (.ref 131), some (.int (nI o))] [] (mk τ) 0 0
  refine g_al0n (pc := 0) C dX7_readSingle_0 ?_
  refine s_getIv (pc := 1) (v := tokS (σ 132) n q) C fX7_31 h131 rfl hS.tk dX7_readSingle_1 ?_
  refine g_sipush (pc := 4) (v := 256) C dX7_readSingle_4 (by decide) ?_
  refine g_icmp_eq (pc := 7) (tgt := 20) C dX7_readSingle_7 (by decide) (fun c_7 => ?_) (fun c_7 => ?_)
  · have hN : isNum (σ 132) n q = true := (tok_num hb hq).mp c_7
    obtain ⟨w, hw1, hw2⟩ := num_ok hq hN
    have hsq : s.length < 100 := by have := sort_lt hq (t := σ 132) (by rw [(isNum_i.mp hN).1]; decide); have := stS_le (t := σ 132) hq; omega
    refine g_al0n (pc := 20) C dX7_readSingle_20 ?_
    refine g_al0n (pc := 21) C dX7_readSingle_21 ?_
    refine s_getIv (pc := 22) (v := tokS (σ 132) n q) C fX7_31 h131 rfl hS.tk dX7_readSingle_22 ?_
    refine g_sipush (pc := 25) (v := 256) C dX7_readSingle_25 (by decide) ?_
    refine g_icmp_ne (pc := 28) (tgt := 38) C dX7_readSingle_28 (by decide) (fun c_28 => absurd c_7 c_28) (fun c_28 => ?_)
    refine g_al0n (pc := 31) C dX7_readSingle_31 ?_
    refine s_getIv (pc := 32) (v := numS (σ 132) n q) C fX7_34 h131 rfl (hS.nu hN) dX7_readSingle_32 ?_
    refine g_goto (pc := 35) (tgt := 44) C dX7_readSingle_35 (by decide) ?_
    refine s_VQ (pc := 44) (st := []) C h131 rfl (c_putS (d := d - 1) (by omega) (c := numS (σ 132) n q) (x := (numS (σ 132) n q)) (by rw [hw2]; exact (clC_num hw1).symm) hsq hS) (by omega) lX7_67 dX7_readSingle_44 rfl (Nat.le_of_ble_eq_true rfl) rfl (fun t_44 H_44 => ?_)
    refine g_al0n (pc := 47) C dX7_readSingle_47 ?_
    refine s_VQ (pc := 48) (st := []) C h131 rfl (c_advS (d := d - 1) (by omega) hn1 hb hq H_44) (by omega) lX7_37 dX7_readSingle_48 rfl (Nat.le_of_ble_eq_true rfl) rfl (fun t_48 H_48 => ?_)
    refine g_iconst (pc := 51) (v := 1) C dX7_readSingle_51 (by decide) ?_
    rw [sgl_num hN]
    exact r_Pz C hr (Or.inr rfl) dX7_readSingle_52 ⟨rfl, H_48⟩
  · refine g_al0n (pc := 10) C dX7_readSingle_10 ?_
    refine s_getIv (pc := 11) (v := tokS (σ 132) n q) C fX7_31 h131 rfl hS.tk dX7_readSingle_11 ?_
    refine g_sipush (pc := 14) (v := 257) C dX7_readSingle_14 (by decide) ?_
    refine g_icmp_ne (pc := 17) (tgt := 53) C dX7_readSingle_17 (by decide) (fun c_17 => ?_) (fun c_17 => ?_)
    · have hN : ¬ isNum (σ 132) n q = true := fun z => c_7 ((tok_num hb hq).mpr z)
      have hnm := nm_none (fun z => c_17 ((tok_name hb hq).mpr z))
      refine g_al0n (pc := 53) C dX7_readSingle_53 ?_
      refine s_getIv (pc := 54) (v := tokS (σ 132) n q) C fX7_31 h131 rfl hS.tk dX7_readSingle_54 ?_
      refine g_bipush (pc := 57) (v := 40) C dX7_readSingle_57 (by decide) ?_
      refine g_icmp_ne (pc := 59) (tgt := 68) C dX7_readSingle_59 (by decide) (fun c_59 => ?_) (fun c_59 => ?_)
      · refine g_iconst (pc := 68) (v := 0) C dX7_readSingle_68 (by decide) ?_
        rw [sgl_no hN hnm (fun z => c_59 ((tok_sign (by decide)).mpr z))]
        exact r_Pz C hr (Or.inl rfl) dX7_readSingle_69 ⟨rfl, hS.cf⟩
      · obtain hEe | ⟨e, hEe⟩ : E = none ∨ ∃ e, E = some e := by cases E with | none => exact Or.inl rfl | some e => exact Or.inr ⟨e, rfl⟩
        · have ho6 := hE0 hEe
          refine g_il1n (pc := 62) C dX7_readSingle_62 ?_
          refine g_bipush (pc := 63) (v := 6) C dX7_readSingle_63 (by decide) ?_
          refine g_icmp_lt (pc := 65) (tgt := 70) C dX7_readSingle_65 (by decide) (fun c_65 => absurd c_65 (by rw [ho6]; decide)) (fun c_65 => ?_)
          refine g_iconst (pc := 68) (v := 0) C dX7_readSingle_68 (by decide) ?_
          rw [sgl_E0 hN hnm ((tok_sign (by decide)).mp c_59) hEe]
          exact r_Pz C hr (Or.inl rfl) dX7_readSingle_69 ⟨rfl, hS.cf⟩
        · have ho6 := (hE e hEe).1
          have hG := (hE e hEe).2.1
          refine g_il1n (pc := 62) C dX7_readSingle_62 ?_
          refine g_bipush (pc := 63) (v := 6) C dX7_readSingle_63 (by decide) ?_
          refine g_icmp_lt (pc := 65) (tgt := 70) C dX7_readSingle_65 (by decide) (fun c_65 => ?_) (fun c_65 => absurd (nI_lt (b := 6) ho6 (by decide)) c_65)
          refine g_al0n (pc := 70) C dX7_readSingle_70 ?_
          refine s_VQ (pc := 71) (st := []) C h131 rfl (c_advS (d := d - 1) (by omega) hn1 hb hq hS) (by omega) lX7_37 dX7_readSingle_71 rfl (Nat.le_of_ble_eq_true rfl) rfl (fun t_71 H_71 => ?_)
          refine g_al0n (pc := 74) C dX7_readSingle_74 ?_
          refine g_il1n (pc := 75) C dX7_readSingle_75 ?_
          refine g_iconst (pc := 76) (v := 1) C dX7_readSingle_76 (by decide) ?_
          refine g_iadd (pc := 77) C dX7_readSingle_77 ?_
          refine s_VP (pc := 78) (st := []) C h131 rfl (by have z := (hE e hEe).2.2 (d - 1) (enS (σ 132) n q) s t_71 (by omega) (enS_le (t := σ 132) hq).2.1 (by have := (enS_le (t := σ 132) hq).1; have := (stS_le (t := σ 132) hq).1; omega) H_71; rw [← nI_1 o] at z; exact z) (by omega) lX7_40 dX7_readSingle_78 rfl (Nat.le_of_ble_eq_true rfl) rfl (fun v u_78 hw_78 => ?_)
          rcases hr2 : e (enS (σ 132) n q) with ⟨q', s'⟩ | q'
          · have hz_78 : v = 1 ∧ CS σ n q' (s ++ s') u_78 := by have z := hw_78; rw [hr2] at z; exact z
            obtain ⟨rfl, H_78⟩ := hz_78
            have hg := hG (enS (σ 132) n q) (enS_le (t := σ 132) hq).2.1
            rw [hr2] at hg
            obtain ⟨g1, g2, g3⟩ := hg
            have g4 := g3.2.1
            refine g_if_eq (pc := 81) (tgt := 93) C dX7_readSingle_81 (by decide) (fun c => absurd c (by decide)) (fun _ => ?_)
            refine g_al0n (pc := 84) C dX7_readSingle_84 ?_
            refine s_getIv (pc := 85) (v := tokS (σ 132) n q') C fX7_31 h131 rfl H_78.tk dX7_readSingle_85 ?_
            refine g_bipush (pc := 88) (v := 41) C dX7_readSingle_88 (by decide) ?_
            refine g_icmp_eq (pc := 90) (tgt := 95) C dX7_readSingle_90 (by decide) (fun c_90 => ?_) (fun c_90 => ?_)
            · refine g_al0n (pc := 95) C dX7_readSingle_95 ?_
              refine s_VQ (pc := 96) (st := []) C h131 rfl (c_advS (d := d - 1) (by omega) hn1 hb g2 H_78) (by omega) lX7_37 dX7_readSingle_96 rfl (Nat.le_of_ble_eq_true rfl) rfl (fun t_96 H_96 => ?_)
              refine g_iconst (pc := 99) (v := 1) C dX7_readSingle_99 (by decide) ?_
              have ef : sglP (σ 132) n E q = pOk (enS (σ 132) n q') s' := by
                rw [sgl_E1 hN hnm ((tok_sign (by decide)).mp c_59) hEe]
                unfold parP
                rw [hr2]
                exact if_pos ((tok_sign (by decide)).mp c_90)
              rw [ef]
              exact r_Pz C hr (Or.inr rfl) dX7_readSingle_100 ⟨rfl, H_96⟩
            · refine g_iconst (pc := 93) (v := 0) C dX7_readSingle_93 (by decide) ?_
              have ef : sglP (σ 132) n E q = pNo q' := by
                rw [sgl_E1 hN hnm ((tok_sign (by decide)).mp c_59) hEe]
                unfold parP
                rw [hr2]
                exact if_neg (fun z => c_90 ((tok_sign (by decide)).mpr z))
              rw [ef]
              exact r_Pz C hr (Or.inl rfl) dX7_readSingle_94 ⟨rfl, H_78.cf⟩
          · have hz_78 : v = 0 ∧ CF σ n q' u_78 := by have z := hw_78; rw [hr2] at z; exact z
            obtain ⟨rfl, F_78⟩ := hz_78
            refine g_if_eq (pc := 81) (tgt := 93) C dX7_readSingle_81 (by decide) (fun _ => ?_) (fun c => absurd c (by decide))
            refine g_iconst (pc := 93) (v := 0) C dX7_readSingle_93 (by decide) ?_
            have ef : sglP (σ 132) n E q = pNo q' := by
              rw [sgl_E1 hN hnm ((tok_sign (by decide)).mp c_59) hEe]
              unfold parP
              rw [hr2]
              rfl
            rw [ef]
            exact r_Pz C hr (Or.inl rfl) dX7_readSingle_94 ⟨rfl, F_78⟩
    · have hN : ¬ isNum (σ 132) n q = true := fun z => c_7 ((tok_num hb hq).mpr z)
      obtain ⟨i, hi⟩ := nm_some ((tok_name hb hq).mp c_17)
      have hsq : s.length < 100 := by have := sort_lt hq (t := σ 132) (by rw [(name_sort hi).1]; decide); have := stS_le (t := σ 132) hq; omega
      refine g_al0n (pc := 20) C dX7_readSingle_20 ?_
      refine g_al0n (pc := 21) C dX7_readSingle_21 ?_
      refine s_getIv (pc := 22) (v := tokS (σ 132) n q) C fX7_31 h131 rfl hS.tk dX7_readSingle_22 ?_
      refine g_sipush (pc := 25) (v := 256) C dX7_readSingle_25 (by decide) ?_
      refine g_icmp_ne (pc := 28) (tgt := 38) C dX7_readSingle_28 (by decide) (fun c_28 => ?_) (fun c_28 => absurd c_28 c_7)
      refine g_iconst (pc := 38) (v := (-1)) C dX7_readSingle_38 (by decide) ?_
      refine g_al0n (pc := 39) C dX7_readSingle_39 ?_
      refine s_getIv (pc := 40) (v := nI i) C fX7_34 h131 rfl (hS.nm i hi) dX7_readSingle_40 ?_
      refine g_isub (pc := 43) C dX7_readSingle_43 ?_
      refine s_VQ (pc := 44) (st := []) C h131 rfl (c_putS (d := d - 1) (by omega) (c := 10000 + nI i) (x := (((-1)) - (nI i))) (clC_nm (name_sort hi).2) hsq hS) (by omega) lX7_67 dX7_readSingle_44 rfl (Nat.le_of_ble_eq_true rfl) rfl (fun t_44 H_44 => ?_)
      refine g_al0n (pc := 47) C dX7_readSingle_47 ?_
      refine s_VQ (pc := 48) (st := []) C h131 rfl (c_advS (d := d - 1) (by omega) hn1 hb hq H_44) (by omega) lX7_37 dX7_readSingle_48 rfl (Nat.le_of_ble_eq_true rfl) rfl (fun t_48 H_48 => ?_)
      refine g_iconst (pc := 51) (v := 1) C dX7_readSingle_51 (by decide) ?_
      rw [sgl_name hN hi]
      exact r_Pz C hr (Or.inr rfl) dX7_readSingle_52 ⟨rfl, H_48⟩

theorem c_readCompared {d : Nat}  (σ : Sg) {n : Nat} (hn1 : n ≤ 100) (hb : BY (σ 132) n) (o : Nat) (ho : o ≤ 6) {D : Nat} {E : Option (Nat → PR)} (hG : GoodP n (sumP (σ 132) n E)) (hP : ∀ d' q s τ, D ≤ d' → q ≤ n → s.length ≤ q → CS σ n q s τ → CP d' mX7_readSum [.ref 131, .int (nI o)] τ (RSx σ n s (sumP (σ 132) n E q))) {q : Nat} (hq : q ≤ n) {s : List Int32} (hs : s.length ≤ q) {τ : Sg} (hS : CS σ n q s τ) (hd : D + 12 ≤ d) : CP d mX7_readCompared [.ref 131, .int (nI o)] τ (RSx σ n s (cmpP (σ 132) n E q)) := by
  refine con_of (by decide) (catL rfl) (Nat.le_of_ble_eq_true rfl) ?_
  intro μ ω C hr
  have C : Cx μ ω "TowField$Tape" cX7_readCompared 3 d := C
  have hr : (mH μ).sig.returnType = some .boolean := hr
  show G μ ω (RQ μ ω (pP (RSx σ n s (cmpP (σ 132) n E q)))) 0 [some (.ref 131), some (.int (nI o)), none] [] (mk τ) 0 0
  refine g_al0n (pc := 0) C dX7_readCompared_0 ?_
  refine g_il1n (pc := 1) C dX7_readCompared_1 ?_
  refine s_VP (pc := 2) (st := []) C h131 rfl (hP (d - 1) q s τ (by omega) hq hs hS) (by omega) lX7_56 dX7_readCompared_2 rfl (Nat.le_of_ble_eq_true rfl) rfl (fun v u_2 hw_2 => ?_)
  rcases hr2 : sumP (σ 132) n E q with ⟨q', s'⟩ | q'
  · have hz_2 : v = 1 ∧ CS σ n q' (s ++ s') u_2 := by have z := hw_2; rw [hr2] at z; exact z
    obtain ⟨rfl, H_2⟩ := hz_2
    have hg := hG q hq
    rw [hr2] at hg
    obtain ⟨g1, g2, g3⟩ := hg
    have g4 := g3.2.1
    refine g_if_ne (pc := 5) (tgt := 10) C dX7_readCompared_5 (by decide) (fun _ => ?_) (fun c => absurd c (by decide))
    refine g_al0n (pc := 10) C dX7_readCompared_10 ?_
    refine s_getIv (pc := 11) (v := tokS (σ 132) n q') C fX7_31 h131 rfl H_2.tk dX7_readCompared_11 ?_
    refine g_is2n (pc := 14) C dX7_readCompared_14 ?_
    refine g_il2n (pc := 15) C dX7_readCompared_15 ?_
    refine g_bipush (pc := 16) (v := 60) C dX7_readCompared_16 (by decide) ?_
    refine g_icmp_eq (pc := 18) (tgt := 35) C dX7_readCompared_18 (by decide) (fun c_18 => ?_) (fun c_18 => ?_)
    · refine g_al0n (pc := 35) C dX7_readCompared_35 ?_
      refine s_VQ (pc := 36) (st := []) C h131 rfl (c_advS (d := d - 1) (by omega) hn1 hb g2 H_2) (by omega) lX7_37 dX7_readCompared_36 rfl (Nat.le_of_ble_eq_true rfl) rfl (fun t_36 H_36 => ?_)
      refine g_al0n (pc := 39) C dX7_readCompared_39 ?_
      refine g_il1n (pc := 40) C dX7_readCompared_40 ?_
      refine s_VP (pc := 41) (st := []) C h131 rfl (hP (d - 1) (enS (σ 132) n q') (s ++ s') t_36 (by omega) (enS_le (t := σ 132) g2).2.1 (by have := (enS_le (t := σ 132) g2).1; have := (stS_le (t := σ 132) g2).1; simp only [List.length_append]; omega) H_36) (by omega) lX7_56 dX7_readCompared_41 rfl (Nat.le_of_ble_eq_true rfl) rfl (fun v u_41 hw_41 => ?_)
      rcases hr3 : sumP (σ 132) n E (enS (σ 132) n q') with ⟨q2, s2⟩ | q2
      · have hz_41 : v = 1 ∧ CS σ n q2 (s ++ s' ++ s2) u_41 := by have z := hw_41; rw [hr3] at z; exact z
        obtain ⟨rfl, H_41⟩ := hz_41
        have hg := hG (enS (σ 132) n q') (enS_le (t := σ 132) g2).2.1
        rw [hr3] at hg
        obtain ⟨k1, k2, k3⟩ := hg
        have k4 := k3.2.1
        refine g_if_eq (pc := 44) (tgt := 59) C dX7_readCompared_44 (by decide) (fun c => absurd c (by decide)) (fun _ => ?_)
        refine g_al0n (pc := 47) C dX7_readCompared_47 ?_
        refine g_il2n (pc := 48) C dX7_readCompared_48 ?_
        refine s_VP (pc := 49) (st := []) C h131 rfl (c_putSign (d := d - 1) (by omega) (c := 10102) (x := (tokS (σ 132) n q')) (by rw [c_18]; decide) (by have := (enS_lt (t := σ 132) g2 (by rw [(sg_sort (by decide) ((tok_sign (c := 60) (by decide)).mp c_18)).1]; decide)); simp only [List.length_append] at *; omega) H_41) (by omega) lX7_47 dX7_readCompared_49 rfl (Nat.le_of_ble_eq_true rfl) rfl (fun v_49 t_49 w_49 => ?_)
        obtain ⟨rfl, H_49⟩ := w_49
        refine g_if_eq (pc := 52) (tgt := 59) C dX7_readCompared_52 (by decide) (fun c => absurd c (by decide)) (fun _ => ?_)
        refine g_iconst (pc := 55) (v := 1) C dX7_readCompared_55 (by decide) ?_
        refine g_goto (pc := 56) (tgt := 60) C dX7_readCompared_56 (by decide) ?_
        have eo : opC (sg (σ 132) n q') = 10102 := by unfold opC; rw [if_pos ((tok_sign (by decide)).mp c_18)]
        have ef : cmpP (σ 132) n E q = pOk q2 (s' ++ s2 ++ [10102]) := by
          unfold cmpP; rw [hr2]
          show cmpT (σ 132) n E q' s' = _
          unfold cmpT; rw [if_neg (by rw [eo]; decide), hr3, eo]; rfl
        rw [ef]
        exact r_Pz C hr (Or.inr rfl) dX7_readCompared_60 ⟨rfl, by simp only [← List.append_assoc]; exact H_49⟩
      · have hz_41 : v = 0 ∧ CF σ n q2 u_41 := by have z := hw_41; rw [hr3] at z; exact z
        obtain ⟨rfl, F_41⟩ := hz_41
        refine g_if_eq (pc := 44) (tgt := 59) C dX7_readCompared_44 (by decide) (fun _ => ?_) (fun c => absurd c (by decide))
        refine g_iconst (pc := 59) (v := 0) C dX7_readCompared_59 (by decide) ?_
        have eo : opC (sg (σ 132) n q') = 10102 := by unfold opC; rw [if_pos ((tok_sign (by decide)).mp c_18)]
        have ef : cmpP (σ 132) n E q = pNo q2 := by
          unfold cmpP; rw [hr2]
          show cmpT (σ 132) n E q' s' = _
          unfold cmpT; rw [if_neg (by rw [eo]; decide), hr3]; rfl
        rw [ef]
        exact r_Pz C hr (Or.inl rfl) dX7_readCompared_60 ⟨rfl, F_41⟩
    · refine g_il2n (pc := 21) C dX7_readCompared_21 ?_
      refine g_bipush (pc := 22) (v := 61) C dX7_readCompared_22 (by decide) ?_
      refine g_icmp_eq (pc := 24) (tgt := 35) C dX7_readCompared_24 (by decide) (fun c_24 => ?_) (fun c_24 => ?_)
      · refine g_al0n (pc := 35) C dX7_readCompared_35 ?_
        refine s_VQ (pc := 36) (st := []) C h131 rfl (c_advS (d := d - 1) (by omega) hn1 hb g2 H_2) (by omega) lX7_37 dX7_readCompared_36 rfl (Nat.le_of_ble_eq_true rfl) rfl (fun t_36 H_36 => ?_)
        refine g_al0n (pc := 39) C dX7_readCompared_39 ?_
        refine g_il1n (pc := 40) C dX7_readCompared_40 ?_
        refine s_VP (pc := 41) (st := []) C h131 rfl (hP (d - 1) (enS (σ 132) n q') (s ++ s') t_36 (by omega) (enS_le (t := σ 132) g2).2.1 (by have := (enS_le (t := σ 132) g2).1; have := (stS_le (t := σ 132) g2).1; simp only [List.length_append]; omega) H_36) (by omega) lX7_56 dX7_readCompared_41 rfl (Nat.le_of_ble_eq_true rfl) rfl (fun v u_41 hw_41 => ?_)
        rcases hr3 : sumP (σ 132) n E (enS (σ 132) n q') with ⟨q2, s2⟩ | q2
        · have hz_41 : v = 1 ∧ CS σ n q2 (s ++ s' ++ s2) u_41 := by have z := hw_41; rw [hr3] at z; exact z
          obtain ⟨rfl, H_41⟩ := hz_41
          have hg := hG (enS (σ 132) n q') (enS_le (t := σ 132) g2).2.1
          rw [hr3] at hg
          obtain ⟨k1, k2, k3⟩ := hg
          have k4 := k3.2.1
          refine g_if_eq (pc := 44) (tgt := 59) C dX7_readCompared_44 (by decide) (fun c => absurd c (by decide)) (fun _ => ?_)
          refine g_al0n (pc := 47) C dX7_readCompared_47 ?_
          refine g_il2n (pc := 48) C dX7_readCompared_48 ?_
          refine s_VP (pc := 49) (st := []) C h131 rfl (c_putSign (d := d - 1) (by omega) (c := 10103) (x := (tokS (σ 132) n q')) (by rw [c_24]; decide) (by have := (enS_lt (t := σ 132) g2 (by rw [(sg_sort (by decide) ((tok_sign (c := 61) (by decide)).mp c_24)).1]; decide)); simp only [List.length_append] at *; omega) H_41) (by omega) lX7_47 dX7_readCompared_49 rfl (Nat.le_of_ble_eq_true rfl) rfl (fun v_49 t_49 w_49 => ?_)
          obtain ⟨rfl, H_49⟩ := w_49
          refine g_if_eq (pc := 52) (tgt := 59) C dX7_readCompared_52 (by decide) (fun c => absurd c (by decide)) (fun _ => ?_)
          refine g_iconst (pc := 55) (v := 1) C dX7_readCompared_55 (by decide) ?_
          refine g_goto (pc := 56) (tgt := 60) C dX7_readCompared_56 (by decide) ?_
          have eo : opC (sg (σ 132) n q') = 10103 := by unfold opC; rw [if_neg (fun z => c_18 ((tok_sign (by decide)).mpr z)), if_pos ((tok_sign (by decide)).mp c_24)]
          have ef : cmpP (σ 132) n E q = pOk q2 (s' ++ s2 ++ [10103]) := by
            unfold cmpP; rw [hr2]
            show cmpT (σ 132) n E q' s' = _
            unfold cmpT; rw [if_neg (by rw [eo]; decide), hr3, eo]; rfl
          rw [ef]
          exact r_Pz C hr (Or.inr rfl) dX7_readCompared_60 ⟨rfl, by simp only [← List.append_assoc]; exact H_49⟩
        · have hz_41 : v = 0 ∧ CF σ n q2 u_41 := by have z := hw_41; rw [hr3] at z; exact z
          obtain ⟨rfl, F_41⟩ := hz_41
          refine g_if_eq (pc := 44) (tgt := 59) C dX7_readCompared_44 (by decide) (fun _ => ?_) (fun c => absurd c (by decide))
          refine g_iconst (pc := 59) (v := 0) C dX7_readCompared_59 (by decide) ?_
          have eo : opC (sg (σ 132) n q') = 10103 := by unfold opC; rw [if_neg (fun z => c_18 ((tok_sign (by decide)).mpr z)), if_pos ((tok_sign (by decide)).mp c_24)]
          have ef : cmpP (σ 132) n E q = pNo q2 := by
            unfold cmpP; rw [hr2]
            show cmpT (σ 132) n E q' s' = _
            unfold cmpT; rw [if_neg (by rw [eo]; decide), hr3]; rfl
          rw [ef]
          exact r_Pz C hr (Or.inl rfl) dX7_readCompared_60 ⟨rfl, F_41⟩
      · refine g_il2n (pc := 27) C dX7_readCompared_27 ?_
        refine g_bipush (pc := 28) (v := 62) C dX7_readCompared_28 (by decide) ?_
        refine g_icmp_eq (pc := 30) (tgt := 35) C dX7_readCompared_30 (by decide) (fun c_30 => ?_) (fun c_30 => ?_)
        · refine g_al0n (pc := 35) C dX7_readCompared_35 ?_
          refine s_VQ (pc := 36) (st := []) C h131 rfl (c_advS (d := d - 1) (by omega) hn1 hb g2 H_2) (by omega) lX7_37 dX7_readCompared_36 rfl (Nat.le_of_ble_eq_true rfl) rfl (fun t_36 H_36 => ?_)
          refine g_al0n (pc := 39) C dX7_readCompared_39 ?_
          refine g_il1n (pc := 40) C dX7_readCompared_40 ?_
          refine s_VP (pc := 41) (st := []) C h131 rfl (hP (d - 1) (enS (σ 132) n q') (s ++ s') t_36 (by omega) (enS_le (t := σ 132) g2).2.1 (by have := (enS_le (t := σ 132) g2).1; have := (stS_le (t := σ 132) g2).1; simp only [List.length_append]; omega) H_36) (by omega) lX7_56 dX7_readCompared_41 rfl (Nat.le_of_ble_eq_true rfl) rfl (fun v u_41 hw_41 => ?_)
          rcases hr3 : sumP (σ 132) n E (enS (σ 132) n q') with ⟨q2, s2⟩ | q2
          · have hz_41 : v = 1 ∧ CS σ n q2 (s ++ s' ++ s2) u_41 := by have z := hw_41; rw [hr3] at z; exact z
            obtain ⟨rfl, H_41⟩ := hz_41
            have hg := hG (enS (σ 132) n q') (enS_le (t := σ 132) g2).2.1
            rw [hr3] at hg
            obtain ⟨k1, k2, k3⟩ := hg
            have k4 := k3.2.1
            refine g_if_eq (pc := 44) (tgt := 59) C dX7_readCompared_44 (by decide) (fun c => absurd c (by decide)) (fun _ => ?_)
            refine g_al0n (pc := 47) C dX7_readCompared_47 ?_
            refine g_il2n (pc := 48) C dX7_readCompared_48 ?_
            refine s_VP (pc := 49) (st := []) C h131 rfl (c_putSign (d := d - 1) (by omega) (c := 10104) (x := (tokS (σ 132) n q')) (by rw [c_30]; decide) (by have := (enS_lt (t := σ 132) g2 (by rw [(sg_sort (by decide) ((tok_sign (c := 62) (by decide)).mp c_30)).1]; decide)); simp only [List.length_append] at *; omega) H_41) (by omega) lX7_47 dX7_readCompared_49 rfl (Nat.le_of_ble_eq_true rfl) rfl (fun v_49 t_49 w_49 => ?_)
            obtain ⟨rfl, H_49⟩ := w_49
            refine g_if_eq (pc := 52) (tgt := 59) C dX7_readCompared_52 (by decide) (fun c => absurd c (by decide)) (fun _ => ?_)
            refine g_iconst (pc := 55) (v := 1) C dX7_readCompared_55 (by decide) ?_
            refine g_goto (pc := 56) (tgt := 60) C dX7_readCompared_56 (by decide) ?_
            have eo : opC (sg (σ 132) n q') = 10104 := by unfold opC; rw [if_neg (fun z => c_18 ((tok_sign (by decide)).mpr z)), if_neg (fun z => c_24 ((tok_sign (by decide)).mpr z)), if_pos ((tok_sign (by decide)).mp c_30)]
            have ef : cmpP (σ 132) n E q = pOk q2 (s' ++ s2 ++ [10104]) := by
              unfold cmpP; rw [hr2]
              show cmpT (σ 132) n E q' s' = _
              unfold cmpT; rw [if_neg (by rw [eo]; decide), hr3, eo]; rfl
            rw [ef]
            exact r_Pz C hr (Or.inr rfl) dX7_readCompared_60 ⟨rfl, by simp only [← List.append_assoc]; exact H_49⟩
          · have hz_41 : v = 0 ∧ CF σ n q2 u_41 := by have z := hw_41; rw [hr3] at z; exact z
            obtain ⟨rfl, F_41⟩ := hz_41
            refine g_if_eq (pc := 44) (tgt := 59) C dX7_readCompared_44 (by decide) (fun _ => ?_) (fun c => absurd c (by decide))
            refine g_iconst (pc := 59) (v := 0) C dX7_readCompared_59 (by decide) ?_
            have eo : opC (sg (σ 132) n q') = 10104 := by unfold opC; rw [if_neg (fun z => c_18 ((tok_sign (by decide)).mpr z)), if_neg (fun z => c_24 ((tok_sign (by decide)).mpr z)), if_pos ((tok_sign (by decide)).mp c_30)]
            have ef : cmpP (σ 132) n E q = pNo q2 := by
              unfold cmpP; rw [hr2]
              show cmpT (σ 132) n E q' s' = _
              unfold cmpT; rw [if_neg (by rw [eo]; decide), hr3]; rfl
            rw [ef]
            exact r_Pz C hr (Or.inl rfl) dX7_readCompared_60 ⟨rfl, F_41⟩
        · refine g_iconst (pc := 33) (v := 1) C dX7_readCompared_33 (by decide) ?_
          have ef : cmpP (σ 132) n E q = pOk q' s' := by
            unfold cmpP; rw [hr2]
            exact if_pos (by unfold opC; rw [if_neg (fun z => c_18 ((tok_sign (by decide)).mpr z)), if_neg (fun z => c_24 ((tok_sign (by decide)).mpr z)), if_neg (fun z => c_30 ((tok_sign (by decide)).mpr z))])
          rw [ef]
          exact r_Pz C hr (Or.inr rfl) dX7_readCompared_34 ⟨rfl, H_2⟩
  · have hz_2 : v = 0 ∧ CF σ n q' u_2 := by have z := hw_2; rw [hr2] at z; exact z
    obtain ⟨rfl, F_2⟩ := hz_2
    refine g_if_ne (pc := 5) (tgt := 10) C dX7_readCompared_5 (by decide) (fun c => absurd c (by decide)) (fun _ => ?_)
    refine g_iconst (pc := 8) (v := 0) C dX7_readCompared_8 (by decide) ?_
    have ef : cmpP (σ 132) n E q = pNo q' := by
      unfold cmpP; rw [hr2]; rfl
    rw [ef]
    exact r_Pz C hr (Or.inl rfl) dX7_readCompared_9 ⟨rfl, F_2⟩

theorem c_readNot {d : Nat}  (σ : Sg) {n : Nat} (hn1 : n ≤ 100) (hb : BY (σ 132) n) (o : Nat) (ho : o ≤ 6) {D : Nat} {E : Option (Nat → PR)} (hP : ∀ d' q s τ, D ≤ d' → q ≤ n → s.length ≤ q → CS σ n q s τ → CP d' mX7_readCompared [.ref 131, .int (nI o)] τ (RSx σ n s (cmpP (σ 132) n E q))) {N : Option (Nat → PR)} (hN0 : N = none → o = 6) (hN : ∀ e, N = some e → o < 6 ∧ GoodP n e ∧ ∀ d' q s τ, D ≤ d' → q ≤ n → s.length ≤ q → CS σ n q s τ → CP d' mX7_readNot [.ref 131, .int (nI (o + 1))] τ (RSx σ n s (e q))) {q : Nat} (hq : q ≤ n) {s : List Int32} (hs : s.length ≤ q) {τ : Sg} (hS : CS σ n q s τ) (hd : D + 12 ≤ d) : CP d mX7_readNot [.ref 131, .int (nI o)] τ (RSx σ n s (notP (σ 132) n E N q)) := by
  refine con_of (by decide) (catL rfl) (Nat.le_of_ble_eq_true rfl) ?_
  intro μ ω C hr
  have C : Cx μ ω "TowField$Tape" cX7_readNot 2 d := C
  have hr : (mH μ).sig.returnType = some .boolean := hr
  show G μ ω (RQ μ ω (pP (RSx σ n s (notP (σ 132) n E N q)))) 0 [some (.ref 131), some (.int (nI o))] [] (mk τ) 0 0
  refine g_al0n (pc := 0) C dX7_readNot_0 ?_
  refine s_getIv (pc := 1) (v := tokS (σ 132) n q) C fX7_31 h131 rfl hS.tk dX7_readNot_1 ?_
  refine g_bipush (pc := 4) (v := 33) C dX7_readNot_4 (by decide) ?_
  refine g_icmp_eq (pc := 6) (tgt := 15) C dX7_readNot_6 (by decide) (fun c_6 => ?_) (fun c_6 => ?_)
  · obtain hEe | ⟨e, hEe⟩ : N = none ∨ ∃ e, N = some e := by cases N with | none => exact Or.inl rfl | some e => exact Or.inr ⟨e, rfl⟩
    · have ho6 := hN0 hEe
      refine g_il1n (pc := 15) C dX7_readNot_15 ?_
      refine g_bipush (pc := 16) (v := 6) C dX7_readNot_16 (by decide) ?_
      refine g_icmp_lt (pc := 18) (tgt := 23) C dX7_readNot_18 (by decide) (fun c_18 => absurd c_18 (by rw [ho6]; decide)) (fun c_18 => ?_)
      refine g_iconst (pc := 21) (v := 0) C dX7_readNot_21 (by decide) ?_
      rw [not_N0 ((tok_sign (by decide)).mp c_6) hEe]
      exact r_Pz C hr (Or.inl rfl) dX7_readNot_22 ⟨rfl, hS.cf⟩
    · have ho6 := (hN e hEe).1
      have hG := (hN e hEe).2.1
      refine g_il1n (pc := 15) C dX7_readNot_15 ?_
      refine g_bipush (pc := 16) (v := 6) C dX7_readNot_16 (by decide) ?_
      refine g_icmp_lt (pc := 18) (tgt := 23) C dX7_readNot_18 (by decide) (fun c_18 => ?_) (fun c_18 => absurd (nI_lt (b := 6) ho6 (by decide)) c_18)
      refine g_al0n (pc := 23) C dX7_readNot_23 ?_
      refine s_VQ (pc := 24) (st := []) C h131 rfl (c_advS (d := d - 1) (by omega) hn1 hb hq hS) (by omega) lX7_37 dX7_readNot_24 rfl (Nat.le_of_ble_eq_true rfl) rfl (fun t_24 H_24 => ?_)
      refine g_al0n (pc := 27) C dX7_readNot_27 ?_
      refine g_il1n (pc := 28) C dX7_readNot_28 ?_
      refine g_iconst (pc := 29) (v := 1) C dX7_readNot_29 (by decide) ?_
      refine g_iadd (pc := 30) C dX7_readNot_30 ?_
      refine s_VP (pc := 31) (st := []) C h131 rfl (by have z := (hN e hEe).2.2 (d - 1) (enS (σ 132) n q) s t_24 (by omega) (enS_le (t := σ 132) hq).2.1 (by have := (enS_le (t := σ 132) hq).1; have := (stS_le (t := σ 132) hq).1; omega) H_24; rw [← nI_1 o] at z; exact z) (by omega) lX7_50 dX7_readNot_31 rfl (Nat.le_of_ble_eq_true rfl) rfl (fun v u_31 hw_31 => ?_)
      rcases hr2 : e (enS (σ 132) n q) with ⟨q', s'⟩ | q'
      · have hz_31 : v = 1 ∧ CS σ n q' (s ++ s') u_31 := by have z := hw_31; rw [hr2] at z; exact z
        obtain ⟨rfl, H_31⟩ := hz_31
        have hg := hG (enS (σ 132) n q) (enS_le (t := σ 132) hq).2.1
        rw [hr2] at hg
        obtain ⟨g1, g2, g3⟩ := hg
        have g4 := g3.2.1
        refine g_if_eq (pc := 34) (tgt := 50) C dX7_readNot_34 (by decide) (fun c => absurd c (by decide)) (fun _ => ?_)
        refine g_al0n (pc := 37) C dX7_readNot_37 ?_
        refine g_bipush (pc := 38) (v := 33) C dX7_readNot_38 (by decide) ?_
        refine s_VP (pc := 40) (st := []) C h131 rfl (c_putSign (d := d - 1) (by omega) (c := 10107) (x := 33) (by decide) (by have := (enS_lt (t := σ 132) hq (by rw [(sg_sort (by decide) ((tok_sign (c := 33) (by decide)).mp c_6)).1]; decide)); simp only [List.length_append] at *; omega) H_31) (by omega) lX7_47 dX7_readNot_40 rfl (Nat.le_of_ble_eq_true rfl) rfl (fun v_40 t_40 w_40 => ?_)
        obtain ⟨rfl, H_40⟩ := w_40
        refine g_if_eq (pc := 43) (tgt := 50) C dX7_readNot_43 (by decide) (fun c => absurd c (by decide)) (fun _ => ?_)
        refine g_iconst (pc := 46) (v := 1) C dX7_readNot_46 (by decide) ?_
        refine g_goto (pc := 47) (tgt := 51) C dX7_readNot_47 (by decide) ?_
        rw [not_N1 ((tok_sign (by decide)).mp c_6) hEe hr2]
        exact r_Pz C hr (Or.inr rfl) dX7_readNot_51 ⟨rfl, by simp only [← List.append_assoc]; exact H_40⟩
      · have hz_31 : v = 0 ∧ CF σ n q' u_31 := by have z := hw_31; rw [hr2] at z; exact z
        obtain ⟨rfl, F_31⟩ := hz_31
        refine g_if_eq (pc := 34) (tgt := 50) C dX7_readNot_34 (by decide) (fun _ => ?_) (fun c => absurd c (by decide))
        refine g_iconst (pc := 50) (v := 0) C dX7_readNot_50 (by decide) ?_
        rw [not_N2 ((tok_sign (by decide)).mp c_6) hEe hr2]
        exact r_Pz C hr (Or.inl rfl) dX7_readNot_51 ⟨rfl, F_31⟩
  · refine g_al0n (pc := 9) C dX7_readNot_9 ?_
    refine g_il1n (pc := 10) C dX7_readNot_10 ?_
    refine s_VP (pc := 11) (st := []) C h131 rfl (hP (d - 1) q s τ (by omega) hq hs hS) (by omega) lX7_53 dX7_readNot_11 rfl (Nat.le_of_ble_eq_true rfl) rfl (fun v u_11 hw_11 => ?_)
    have ef : notP (σ 132) n E N q = cmpP (σ 132) n E q := by unfold notP; rw [if_neg (fun z => c_6 ((tok_sign (by decide)).mpr z))]
    rw [ef]
    exact r_Pz C hr hw_11.b dX7_readNot_14 hw_11

theorem x_level (σ : Sg) {n : Nat} (hn1 : n ≤ 100) (hb : BY (σ 132) n) (o : Nat) (ho : o ≤ 6) {D : Nat} {E : Option (Nat → PR)} (hE0 : E = none → o = 6) (hE : ∀ e, E = some e → o < 6 ∧ GoodP n e ∧ ∀ d' q s τ, D ≤ d' → q ≤ n → s.length ≤ q → CS σ n q s τ → CP d' mX7_readEither [.ref 131, .int (nI (o + 1))] τ (RSx σ n s (e q))) {N : Option (Nat → PR)} (hN0 : N = none → o = 6) (hN : ∀ e, N = some e → o < 6 ∧ GoodP n e ∧ ∀ d' q s τ, D ≤ d' → q ≤ n → s.length ≤ q → CS σ n q s τ → CP d' mX7_readNot [.ref 131, .int (nI (o + 1))] τ (RSx σ n s (e q))) (gE : ∀ e, E = some e → GoodP n e) (gN : ∀ e, N = some e → GoodP n e) (K : Nat) (hK : D ≤ K) :
    (∀ d q s τ, K + 90 ≤ d → q ≤ n → s.length ≤ q → CS σ n q s τ → CP d mX7_readEither [.ref 131, .int (nI o)] τ (RSx σ n s (eitP (σ 132) n E N q))) ∧ (∀ d q s τ, K + 60 ≤ d → q ≤ n → s.length ≤ q → CS σ n q s τ → CP d mX7_readNot [.ref 131, .int (nI o)] τ (RSx σ n s (notP (σ 132) n E N q))) := by
  have c1 : ∀ d' q s τ, K + 12 ≤ d' → q ≤ n → s.length ≤ q → CS σ n q s τ → CP d' mX7_readSingle [.ref 131, .int (nI o)] τ (RSx σ n s (sglP (σ 132) n E q)) := fun d' q s τ h1 h2 h3 h4 => c_readSingle (D := D) σ hn1 hb o ho hE0 hE h2 h3 h4 (by omega)
  have c2 : ∀ d' q s τ, K + 24 ≤ d' → q ≤ n → s.length ≤ q → CS σ n q s τ → CP d' mX7_readProduct [.ref 131, .int (nI o)] τ (RSx σ n s (prdP (σ 132) n E q)) := fun d' q s τ h1 h2 h3 h4 => c_readProduct σ hn1 hb o (sgl_good gE) c1 h2 h3 h4 (by omega)
  have c3 : ∀ d' q s τ, K + 36 ≤ d' → q ≤ n → s.length ≤ q → CS σ n q s τ → CP d' mX7_readSum [.ref 131, .int (nI o)] τ (RSx σ n s (sumP (σ 132) n E q)) := fun d' q s τ h1 h2 h3 h4 => c_readSum σ hn1 hb o (prd_good gE) c2 h2 h3 h4 (by omega)
  have c4 : ∀ d' q s τ, K + 48 ≤ d' → q ≤ n → s.length ≤ q → CS σ n q s τ → CP d' mX7_readCompared [.ref 131, .int (nI o)] τ (RSx σ n s (cmpP (σ 132) n E q)) := fun d' q s τ h1 h2 h3 h4 => c_readCompared σ hn1 hb o ho (sum_good gE) c3 h2 h3 h4 (by omega)
  have c5 : ∀ d' q s τ, K + 60 ≤ d' → q ≤ n → s.length ≤ q → CS σ n q s τ → CP d' mX7_readNot [.ref 131, .int (nI o)] τ (RSx σ n s (notP (σ 132) n E N q)) := fun d' q s τ h1 h2 h3 h4 => c_readNot (D := K + 48) σ hn1 hb o ho c4 hN0 (fun e h => ⟨(hN e h).1, (hN e h).2.1, fun d1 q1 s1 τ1 a1 => (hN e h).2.2 d1 q1 s1 τ1 (by omega)⟩) h2 h3 h4 (by omega)
  have c6 : ∀ d' q s τ, K + 72 ≤ d' → q ≤ n → s.length ≤ q → CS σ n q s τ → CP d' mX7_readBoth [.ref 131, .int (nI o)] τ (RSx σ n s (bthP (σ 132) n E N q)) := fun d' q s τ h1 h2 h3 h4 => c_readBoth σ hn1 hb o (not_good gE gN) c5 h2 h3 h4 (by omega)
  exact ⟨fun d q s τ h1 h2 h3 h4 => c_readEither σ hn1 hb o (bth_good gE gN) c6 h2 h3 h4 (by omega), fun d q s τ h1 h2 h3 h4 => c5 d q s τ (by omega) h2 h3 h4⟩
theorem x_levels (σ : Sg) {n : Nat} (hn1 : n ≤ 100) (hb : BY (σ 132) n) : ∀ k o, o + k = 6 →
    (∀ d q s τ, 90 * k + 90 ≤ d → q ≤ n → s.length ≤ q → CS σ n q s τ → CP d mX7_readEither [.ref 131, .int (nI o)] τ (RSx σ n s (eitP (σ 132) n (lvl (σ 132) n k).1 (lvl (σ 132) n k).2 q))) ∧ (∀ d q s τ, 90 * k + 60 ≤ d → q ≤ n → s.length ≤ q → CS σ n q s τ → CP d mX7_readNot [.ref 131, .int (nI o)] τ (RSx σ n s (notP (σ 132) n (lvl (σ 132) n k).1 (lvl (σ 132) n k).2 q))) := by
  intro k
  induction k with
  | zero =>
    intro o ho
    exact x_level σ hn1 hb o (by omega) (D := 0) (fun _ => by omega) (fun e h => by cases h) (fun _ => by omega) (fun e h => by cases h) (lvl_good 0).1 (lvl_good 0).2 0 (by omega)
  | succ k ih =>
    intro o ho
    obtain ⟨i1, i2⟩ := ih (o + 1) (by omega)
    exact x_level σ hn1 hb o (by omega) (D := 90 * k + 90) (fun h => by cases h) (fun e h => by cases h; exact ⟨by omega, eit_good (lvl_good k).1 (lvl_good k).2, i1⟩) (fun h => by cases h) (fun e h => by cases h; exact ⟨by omega, not_good (lvl_good k).1 (lvl_good k).2, fun d' q s τ h1 => i2 d' q s τ (by omega)⟩) (lvl_good (k + 1)).1 (lvl_good (k + 1)).2 (90 * (k + 1)) (by omega)
def RDx (σ : Sg) (n : Nat) (r : PR) (v : Int32) (τ : Sg) : Prop := match r with
  | .inl (q', s') => v = -1 ∧ CS σ n q' s' τ ∧ q' ≤ n ∧ GC n s'
  | .inr q' => v = nI (stS (σ 132) n q') ∧ CF σ n q' τ ∧ q' ≤ n
theorem CS_0 {σ τ : Sg} {n : Nat} (hn : σ 131 2 = nI n) (h : TKa (up (up σ 131 3 0) 131 4 0) n 0 τ) : CS σ n 0 [] τ := by
  obtain ⟨a, b, c, d, e, f, g⟩ := h
  exact ⟨(f 2 (by decide) (by decide) (by decide) (by decide)).trans hn, f 3 (by decide) (by decide) (by decide) (by decide), a, b, c, d, e, fun k hk => absurd hk (by simp), fun k hk => by
    have h1 : k ≠ 131 := fun z => hk (by simp [z])
    rw [g k (by simpa using h1), up_ne _ _ _ h1, up_ne _ _ _ h1]⟩
theorem c_readX {d : Nat} (hd : 640 ≤ d) (σ : Sg) {n : Nat} (hn : σ 131 2 = nI n) (hn1 : n ≤ 100) (hb : BY (σ 132) n) : CP d mX7_read [.ref 131] σ (RDx σ n (readT (σ 132) n)) := by
  refine con_of (by decide) (catL rfl) (Nat.le_of_ble_eq_true rfl) ?_
  intro μ ω C hr
  have C : Cx μ ω "TowField$Tape" cX7_read 1 d := C
  have hr : (mH μ).sig.returnType = some .int := hr
  show G μ ω (RQ μ ω (pP (RDx σ n (readT (σ 132) n)))) 0 [some (.ref 131)] [] (mk σ) 0 0
  refine g_al0n (pc := 0) C dX7_read_0 ?_
  refine g_iconst (pc := 1) (v := 0) C dX7_read_1 (by decide) ?_
  refine s_putI (pc := 2) C pX7_22 h131 rfl dX7_read_2 ?_
  refine g_al0n (pc := 5) C dX7_read_5 ?_
  refine g_iconst (pc := 6) (v := 0) C dX7_read_6 (by decide) ?_
  refine s_putI (pc := 7) C pX7_25 h131 rfl dX7_read_7 ?_
  refine g_al0n (pc := 10) C dX7_read_10 ?_
  refine s_VQ (pc := 11) (st := []) C h131 rfl (c_adv (d := d - 1) (by omega) (up (up σ 131 3 0) 131 4 0) (n := n) (q := 0) hn hn1 rfl (Nat.zero_le n) hb) (by omega) lX7_37 dX7_read_11 rfl (Nat.le_of_ble_eq_true rfl) rfl (fun t_11 h_11 => ?_)
  have H_11 := CS_0 hn h_11
  refine g_al0n (pc := 14) C dX7_read_14 ?_
  refine g_iconst (pc := 15) (v := 0) C dX7_read_15 (by decide) ?_
  refine s_VP (pc := 16) (st := []) C h131 rfl ((x_levels σ hn1 hb 6 0 rfl).1 (d - 1) 0 [] t_11 (by omega) (Nat.zero_le n) (by simp) H_11) (by omega) lX7_40 dX7_read_16 rfl (Nat.le_of_ble_eq_true rfl) rfl (fun v u_16 hw_16 => ?_)
  rcases hr2 : eitP (σ 132) n (lvl (σ 132) n 6).1 (lvl (σ 132) n 6).2 0 with ⟨q', s'⟩ | q'
  · have hz_16 : v = 1 ∧ CS σ n q' ([] ++ s') u_16 := by have z := hw_16; rw [hr2] at z; exact z
    obtain ⟨rfl, H_16⟩ := hz_16
    have hg := (eit_good (t := σ 132) (lvl_good (t := σ 132) 6).1 (lvl_good (t := σ 132) 6).2) 0 (Nat.zero_le n)
    rw [hr2] at hg
    obtain ⟨g1, g2, g3⟩ := hg
    have g4 := g3.2.1
    refine g_if_eq (pc := 19) (tgt := 36) C dX7_read_19 (by decide) (fun c => absurd c (by decide)) (fun _ => ?_)
    refine g_al0n (pc := 22) C dX7_read_22 ?_
    refine s_getIv (pc := 23) (v := tokS (σ 132) n q') C fX7_31 h131 rfl H_16.tk dX7_read_23 ?_
    refine g_sipush (pc := 26) (v := 258) C dX7_read_26 (by decide) ?_
    refine g_icmp_ne (pc := 29) (tgt := 36) C dX7_read_29 (by decide) (fun c_29 => ?_) (fun c_29 => ?_)
    · refine g_al0n (pc := 36) C dX7_read_36 ?_
      refine s_getIv (pc := 37) (v := nI ((stS (σ 132) n q'))) C fX7_28 h131 rfl H_16.st dX7_read_37 ?_
      have er : readT (σ 132) n = .inr q' := by unfold readT; rw [hr2]; exact if_neg (fun z => c_29 ((tok_end hb g2).mpr z))
      rw [er]
      exact r_P C hr dX7_read_40 ⟨rfl, H_16.cf, g2⟩
    · refine g_iconst (pc := 32) (v := (-1)) C dX7_read_32 (by decide) ?_
      refine g_goto (pc := 33) (tgt := 40) C dX7_read_33 (by decide) ?_
      have er : readT (σ 132) n = .inl (q', s') := by unfold readT; rw [hr2]; exact if_pos ((tok_end hb g2).mp c_29)
      rw [er]
      exact r_P C hr dX7_read_40 ⟨rfl, H_16, g2, GC_mono g3 (by omega)⟩
  · have hz_16 : v = 0 ∧ CF σ n q' u_16 := by have z := hw_16; rw [hr2] at z; exact z
    obtain ⟨rfl, F_16⟩ := hz_16
    refine g_if_eq (pc := 19) (tgt := 36) C dX7_read_19 (by decide) (fun _ => ?_) (fun c => absurd c (by decide))
    refine g_al0n (pc := 36) C dX7_read_36 ?_
    refine s_getIv (pc := 37) (v := nI ((stS (σ 132) n q'))) C fX7_28 h131 rfl F_16.st dX7_read_37 ?_
    have er : readT (σ 132) n = .inr q' := by unfold readT; rw [hr2]; rfl
    rw [er]
    exact r_P C hr dX7_read_40 ⟨rfl, F_16, (by have z := eit_good (t := σ 132) (n := n) (lvl_good (t := σ 132) 6).1 (lvl_good (t := σ 132) 6).2 0 (Nat.zero_le n); rw [hr2] at z; exact z.2)⟩

