/-! ===== the class: asks, people, gliders ===== -/
theorem sw_0_3 (x : Int32) : x = 0 ∨ x = 1 ∨ x = 2 ∨ x = 3 ∨ (x.toInt < 0 ∨ 3 < x.toInt) := by
  by_cases h : x.toInt < 0 ∨ 3 < x.toInt
  · exact Or.inr (Or.inr (Or.inr (Or.inr (h))))
  · have h2 : x.toInt = 0 ∨ x.toInt = 1 ∨ x.toInt = 2 ∨ x.toInt = 3 := by omega
    rcases h2 with h2 | h2 | h2 | h2
    · exact Or.inl (Int32.toInt_inj.mp (h2.trans (by decide)))
    · exact Or.inr (Or.inl (Int32.toInt_inj.mp (h2.trans (by decide))))
    · exact Or.inr (Or.inr (Or.inl (Int32.toInt_inj.mp (h2.trans (by decide)))))
    · exact Or.inr (Or.inr (Or.inr (Or.inl (Int32.toInt_inj.mp (h2.trans (by decide))))))
theorem sw_0_8 (x : Int32) : x = 0 ∨ x = 1 ∨ x = 2 ∨ x = 3 ∨ x = 4 ∨ x = 5 ∨ x = 6 ∨ x = 7 ∨ x = 8 ∨ (x.toInt < 0 ∨ 8 < x.toInt) := by
  by_cases h : x.toInt < 0 ∨ 8 < x.toInt
  · exact Or.inr (Or.inr (Or.inr (Or.inr (Or.inr (Or.inr (Or.inr (Or.inr (Or.inr (h)))))))))
  · have h2 : x.toInt = 0 ∨ x.toInt = 1 ∨ x.toInt = 2 ∨ x.toInt = 3 ∨ x.toInt = 4 ∨ x.toInt = 5 ∨ x.toInt = 6 ∨ x.toInt = 7 ∨ x.toInt = 8 := by omega
    rcases h2 with h2 | h2 | h2 | h2 | h2 | h2 | h2 | h2 | h2
    · exact Or.inl (Int32.toInt_inj.mp (h2.trans (by decide)))
    · exact Or.inr (Or.inl (Int32.toInt_inj.mp (h2.trans (by decide))))
    · exact Or.inr (Or.inr (Or.inl (Int32.toInt_inj.mp (h2.trans (by decide)))))
    · exact Or.inr (Or.inr (Or.inr (Or.inl (Int32.toInt_inj.mp (h2.trans (by decide))))))
    · exact Or.inr (Or.inr (Or.inr (Or.inr (Or.inl (Int32.toInt_inj.mp (h2.trans (by decide)))))))
    · exact Or.inr (Or.inr (Or.inr (Or.inr (Or.inr (Or.inl (Int32.toInt_inj.mp (h2.trans (by decide))))))))
    · exact Or.inr (Or.inr (Or.inr (Or.inr (Or.inr (Or.inr (Or.inl (Int32.toInt_inj.mp (h2.trans (by decide)))))))))
    · exact Or.inr (Or.inr (Or.inr (Or.inr (Or.inr (Or.inr (Or.inr (Or.inl (Int32.toInt_inj.mp (h2.trans (by decide))))))))))
    · exact Or.inr (Or.inr (Or.inr (Or.inr (Or.inr (Or.inr (Or.inr (Or.inr (Or.inl (Int32.toInt_inj.mp (h2.trans (by decide)))))))))))
theorem lp_thatAre {μ : Mx} {ω : Om} {d : Nat} (hd : 1 ≤ d) (C : Cx μ ω "TowField$Asks" cX0_thatAre 4 d) (hr : (mH μ).sig.returnType = some .int) (σ : Sg) {z : Nat} (hz : isW z) {ν : Nu} (hI : INV ν) (hR : RW σ z ν) (w : Int32) : ∀ (f i : Nat) (v : Int32), i + f = cnt ν 7 → (v = setL ν w i) → G μ ω (RQ μ ω (pI (setS ν w) σ)) 4 [some (.ref (z + 22)), some (.int w), some (.int v), some (.int (nI i))] [] (mk σ) 0 0 := by
  intro f
  induction f with
  | zero =>
    intro i v hif hv
    have hin : i = cnt ν 7 := by omega
    have h7 := hI.n7.2
    refine g_il3n (pc := 4) C dX0_thatAre_4 ?_
    refine g_al0n (pc := 5) C dX0_thatAre_5 ?_
    refine s_getIv (pc := 6) (v := nI (cnt ν 7)) C fX0_46 (w22 hz) rfl (hR.n7 hI) dX0_thatAre_6 ?_
    refine g_icmp_geL (pc := 9) (tgt := 34) C dX0_thatAre_9 (by decide) (fun c_9 => ?_) (fun c_9 => absurd c_9 (nI_nlt (by omega) (by omega)))
    refine g_il2n (pc := 34) C dX0_thatAre_34 ?_
    exact r_I C hr dX0_thatAre_35 (by rw [hin] at hv; exact hv) rfl
  | succ f ih =>
    intro i v hif hv
    have h7 := hI.n7.2
    refine g_il3n (pc := 4) C dX0_thatAre_4 ?_
    refine g_al0n (pc := 5) C dX0_thatAre_5 ?_
    refine s_getIv (pc := 6) (v := nI (cnt ν 7)) C fX0_46 (w22 hz) rfl (hR.n7 hI) dX0_thatAre_6 ?_
    refine g_icmp_geL (pc := 9) (tgt := 34) C dX0_thatAre_9 (by decide) (fun c_9 => absurd (nI_lt (by omega) (by omega)) c_9) (fun c_9 => ?_)
    refine g_al0n (pc := 12) C dX0_thatAre_12 ?_
    refine s_getR (pc := 13) C fX0_34 (w22 hz) rfl dX0_thatAre_13 ?_
    refine g_il3n (pc := 16) C dX0_thatAre_16 ?_
    refine s_ialdv (pc := 17) (q := i) (v := aA ν i 6) C (w31 hz) rfl (by omega) (Nat.le_of_ble_eq_true rfl) (hR.a8 (by omega)) dX0_thatAre_17 ?_
    refine g_il1n (pc := 18) C dX0_thatAre_18 ?_
    refine g_icmp_ne (pc := 19) (tgt := 28) C dX0_thatAre_19 (by decide) (fun c_19 => ?_) (fun c_19 => ?_)
    · refine g_ii3 (pc := 28) (v := nI (i + 1)) C dX0_thatAre_28 (nI_inc1 _) ?_
      refine g_goto (pc := 31) (tgt := 4) C dX0_thatAre_31 (by decide) ?_
      exact ih (i + 1) _ (by omega) (by show _ = setL ν w i ||| _; rw [if_neg c_19, ← hv]; exact (Int32.or_zero).symm)
    · refine g_il2n (pc := 22) C dX0_thatAre_22 ?_
      refine g_iconst (pc := 23) (v := 1) C dX0_thatAre_23 (by decide) ?_
      refine g_il3n (pc := 24) C dX0_thatAre_24 ?_
      refine g_ishl (pc := 25) C dX0_thatAre_25 ?_
      refine g_ior (pc := 26) C dX0_thatAre_26 ?_
      refine g_is2n (pc := 27) C dX0_thatAre_27 ?_
      refine g_ii3 (pc := 28) (v := nI (i + 1)) C dX0_thatAre_28 (nI_inc1 _) ?_
      refine g_goto (pc := 31) (tgt := 4) C dX0_thatAre_31 (by decide) ?_
      exact ih (i + 1) _ (by omega) (by show _ = setL ν w i ||| _; rw [if_pos c_19, ← hv])

theorem c_thatAre {d : Nat} (hd : 1 ≤ d) (σ : Sg) {z : Nat} (hz : isW z) {ν : Nu} (hI : INV ν) (hR : RW σ z ν) (w : Int32) : CI d mX0_thatAre [.ref (z + 22), .int w] σ (setS ν w) σ := by
  refine con_of (by decide) (catL rfl) (Nat.le_of_ble_eq_true rfl) ?_
  intro μ ω C hr
  have C : Cx μ ω "TowField$Asks" cX0_thatAre 4 d := C
  have hr : (mH μ).sig.returnType = some .int := hr
  show G μ ω (RQ μ ω (pI (setS ν w) σ)) 0 [some (.ref (z + 22)), some (.int w), none, none] [] (mk σ) 0 0
  refine g_iconst (pc := 0) (v := 0) C dX0_thatAre_0 (by decide) ?_
  refine g_is2n (pc := 1) C dX0_thatAre_1 ?_
  refine g_iconst (pc := 2) (v := 0) C dX0_thatAre_2 (by decide) ?_
  refine g_is3n (pc := 3) C dX0_thatAre_3 ?_
  exact lp_thatAre hd C hr σ hz hI hR w (cnt ν 7) 0 0 (by omega) rfl

theorem c_crew {d : Nat} (hd : 1 ≤ d) (σ : Sg) {z : Nat} (hz : isW z) {ν : Nu} (hI : INV ν) (hR : RW σ z ν) {a : Nat} (ha : a < cnt ν 7) : CI d mX0_crew [.ref (z + 22), .int (nI a)] σ (crewA ν a) σ := by
  have h7 := hI.n7.2
  refine con_of (by decide) (catL rfl) (Nat.le_of_ble_eq_true rfl) ?_
  intro μ ω C hr
  have C : Cx μ ω "TowField$Asks" cX0_crew 3 d := C
  have hr : (mH μ).sig.returnType = some .int := hr
  show G μ ω (RQ μ ω (pI (crewA ν a) σ)) 0 [some (.ref (z + 22)), some (.int (nI a)), none] [] (mk σ) 0 0
  refine g_iconst (pc := 0) (v := 1) C dX0_crew_0 (by decide) ?_
  refine g_al0n (pc := 1) C dX0_crew_1 ?_
  refine s_getR (pc := 2) C fX0_9 (w22 hz) rfl dX0_crew_2 ?_
  refine g_il1n (pc := 5) C dX0_crew_5 ?_
  refine s_ialdv (pc := 6) (q := a) (v := aA ν a 0) C (w23 hz) rfl (by omega) (Nat.le_of_ble_eq_true rfl) (hR.a0 (by omega)) dX0_crew_6 ?_
  refine g_ishl (pc := 7) C dX0_crew_7 ?_
  refine g_is2n (pc := 8) C dX0_crew_8 ?_
  refine g_al0n (pc := 9) C dX0_crew_9 ?_
  refine s_getR (pc := 10) C fX0_13 (w22 hz) rfl dX0_crew_10 ?_
  refine g_il1n (pc := 13) C dX0_crew_13 ?_
  refine s_ialdv (pc := 14) (q := a) (v := aA ν a 1) C (w24 hz) rfl (by omega) (Nat.le_of_ble_eq_true rfl) (hR.a1 (by omega)) dX0_crew_14 ?_
  refine g_if_geL (pc := 15) (tgt := 22) C dX0_crew_15 (by decide) (fun c_15 => ?_) (fun c_15 => ?_)
  · refine g_il2n (pc := 22) C dX0_crew_22 ?_
    refine g_iconst (pc := 23) (v := 1) C dX0_crew_23 (by decide) ?_
    refine g_al0n (pc := 24) C dX0_crew_24 ?_
    refine s_getR (pc := 25) C fX0_13 (w22 hz) rfl dX0_crew_25 ?_
    refine g_il1n (pc := 28) C dX0_crew_28 ?_
    refine s_ialdv (pc := 29) (q := a) (v := aA ν a 1) C (w24 hz) rfl (by omega) (Nat.le_of_ble_eq_true rfl) (hR.a1 (by omega)) dX0_crew_29 ?_
    refine g_ishl (pc := 30) C dX0_crew_30 ?_
    refine g_ior (pc := 31) C dX0_crew_31 ?_
    exact r_I C hr dX0_crew_32 (by simp only [crewA, c_15, if_true, if_false]) rfl
  · refine g_il2n (pc := 18) C dX0_crew_18 ?_
    refine g_goto (pc := 19) (tgt := 32) C dX0_crew_19 (by decide) ?_
    exact r_I C hr dX0_crew_32 (by simp only [crewA, c_15, if_true, if_false]) rfl

theorem dueA_e (ν : Nu) (a : Nat) : dueA ν a = aA ν a 7 + spanA ν a + max32 (aA ν a 5) (ν 29) := rfl
theorem lp_due {μ : Mx} {ω : Om} {d : Nat} (hd : 2 ≤ d) (C : Cx μ ω "TowField$Asks" cX0_firstDue 7 d) (hr : (mH μ).sig.returnType = some .int) (σ : Sg) {z : Nat} (hz : isW z) {ν : Nu} (hI : INV ν) (hR : RW σ z ν) : ∀ (f i : Nat) (v : Int32) (x : Int32) (l6 : Option Value), i + f = cnt ν 7 → (v = o2i (bestD ν i)) → (∀ k, bestD ν i = some k → x = dueA ν k) → G μ ω (RQ μ ω (pI (o2i (bestD ν (cnt ν 7))) σ)) 8 [some (.ref (z + 22)), some (.int (ν 0)), some (.int (ν 29)), some (.int v), some (.int x), some (.int (nI i)), l6] [] (mk σ) 0 0 := by
  intro f
  induction f with
  | zero =>
    intro i v x l6 hif hv hv1
    have hin : i = cnt ν 7 := by omega
    have h7 := hI.n7.2
    rcases hb2 : bestD ν i with _ | j <;> (rw [hb2] at hv; simp only [o2i] at hv; subst hv)
    · refine g_il5 (pc := 8) C dX0_firstDue_8 ?_
      refine g_al0n (pc := 10) C dX0_firstDue_10 ?_
      refine s_getIv (pc := 11) (v := nI (cnt ν 7)) C fX0_46 (w22 hz) rfl (hR.n7 hI) dX0_firstDue_11 ?_
      refine g_icmp_geL (pc := 14) (tgt := 87) C dX0_firstDue_14 (by decide) (fun c_14 => ?_) (fun c_14 => absurd c_14 (nI_nlt (by omega) (by omega)))
      refine g_il3n (pc := 87) C dX0_firstDue_87 ?_
      exact r_I C hr dX0_firstDue_88 (by rw [hin] at hb2; rw [hb2]; rfl) rfl
    · refine g_il5 (pc := 8) C dX0_firstDue_8 ?_
      refine g_al0n (pc := 10) C dX0_firstDue_10 ?_
      refine s_getIv (pc := 11) (v := nI (cnt ν 7)) C fX0_46 (w22 hz) rfl (hR.n7 hI) dX0_firstDue_11 ?_
      refine g_icmp_geL (pc := 14) (tgt := 87) C dX0_firstDue_14 (by decide) (fun c_14 => ?_) (fun c_14 => absurd c_14 (nI_nlt (by omega) (by omega)))
      refine g_il3n (pc := 87) C dX0_firstDue_87 ?_
      exact r_I C hr dX0_firstDue_88 (by rw [hin] at hb2; rw [hb2]; rfl) rfl
  | succ f ih =>
    intro i v x l6 hif hv hv1
    have h7 := hI.n7.2
    rcases hb2 : bestD ν i with _ | j <;> (rw [hb2] at hv; simp only [o2i] at hv; subst hv)
    · refine g_il5 (pc := 8) C dX0_firstDue_8 ?_
      refine g_al0n (pc := 10) C dX0_firstDue_10 ?_
      refine s_getIv (pc := 11) (v := nI (cnt ν 7)) C fX0_46 (w22 hz) rfl (hR.n7 hI) dX0_firstDue_11 ?_
      refine g_icmp_geL (pc := 14) (tgt := 87) C dX0_firstDue_14 (by decide) (fun c_14 => absurd (nI_lt (by omega) (by omega)) c_14) (fun c_14 => ?_)
      refine g_al0n (pc := 17) C dX0_firstDue_17 ?_
      refine s_getR (pc := 18) C fX0_34 (w22 hz) rfl dX0_firstDue_18 ?_
      refine g_il5 (pc := 21) C dX0_firstDue_21 ?_
      refine s_ialdv (pc := 23) (q := i) (v := aA ν i 6) C (w31 hz) rfl (by omega) (Nat.le_of_ble_eq_true rfl) (hR.a8 (by omega)) dX0_firstDue_23 ?_
      refine g_iconst (pc := 24) (v := 1) C dX0_firstDue_24 (by decide) ?_
      refine g_icmp_ne (pc := 25) (tgt := 81) C dX0_firstDue_25 (by decide) (fun c_25 => ?_) (fun c_25 => ?_)
      · refine g_ii5 (pc := 81) (v := nI (i + 1)) C dX0_firstDue_81 (nI_inc1 _) ?_
        refine g_goto (pc := 84) (tgt := 8) C dX0_firstDue_84 (by decide) ?_
        have hbs : bestD ν (i + 1) = none := by
          rw [bestD_s, hb2]
          dsimp only
          simp only [dueA_e ν i, ← Int32.not_lt, c_25, eq_self, ne_eq, not_true_eq_false, not_false_eq_true, Classical.not_not, decide_true, decide_false, and_true, true_and, and_false, false_and, and_self, or_true, true_or, or_false, false_or, or_self, if_true, if_false, ite_true, ite_false, Bool.eq_false_iff, Bool.not_eq_eq_eq_not, Bool.true_eq_false, Bool.false_eq_true, reduceCtorEq]
        exact ih (i + 1) ((-1)) x _ (by omega) (by rw [hbs]; rfl) (fun k hk => by rw [hbs] at hk; cases hk)
      · refine g_al0n (pc := 28) C dX0_firstDue_28 ?_
        refine s_getR (pc := 29) C fX0_37 (w22 hz) rfl dX0_firstDue_29 ?_
        refine g_il5 (pc := 32) C dX0_firstDue_32 ?_
        refine s_ialdv (pc := 34) (q := i) (v := aA ν i 7) C (w32 hz) rfl (by omega) (Nat.le_of_ble_eq_true rfl) (hR.a9 (by omega)) dX0_firstDue_34 ?_
        refine g_al0n (pc := 35) C dX0_firstDue_35 ?_
        refine s_getR (pc := 36) C fX0_31 (w22 hz) rfl dX0_firstDue_36 ?_
        refine g_il5 (pc := 39) C dX0_firstDue_39 ?_
        refine s_ialdv (pc := 41) (q := i) (v := spanA ν i) C (w30 hz) rfl (by omega) (Nat.le_of_ble_eq_true rfl) (hR.a7 (by omega)) dX0_firstDue_41 ?_
        refine g_iadd (pc := 42) C dX0_firstDue_42 ?_
        refine g_al0n (pc := 43) C dX0_firstDue_43 ?_
        refine s_getR (pc := 44) C fX0_25 (w22 hz) rfl dX0_firstDue_44 ?_
        refine g_il5 (pc := 47) C dX0_firstDue_47 ?_
        refine s_ialdv (pc := 49) (q := i) (v := aA ν i 5) C (w28 hz) rfl (by omega) (Nat.le_of_ble_eq_true rfl) (hR.a5 (by omega)) dX0_firstDue_49 ?_
        refine g_il2n (pc := 50) C dX0_firstDue_50 ?_
        refine s_SI (pc := 51) (st := [(.int ((aA ν i 7) + (spanA ν i)))]) C (c_max (d := d - 1) (by omega) σ (aA ν i 5) (ν 29)) (by omega) lX0_68 dX0_firstDue_51 rfl (Nat.le_of_ble_eq_true rfl) rfl ?_
        refine g_iadd (pc := 54) C dX0_firstDue_54 ?_
        refine g_is6 (pc := 55) C dX0_firstDue_55 ?_
        refine g_il6 (pc := 57) C dX0_firstDue_57 ?_
        refine g_il1n (pc := 59) C dX0_firstDue_59 ?_
        refine g_icmp_gt (pc := 60) (tgt := 81) C dX0_firstDue_60 (by decide) (fun c_60 => ?_) (fun c_60 => ?_)
        · refine g_ii5 (pc := 81) (v := nI (i + 1)) C dX0_firstDue_81 (nI_inc1 _) ?_
          refine g_goto (pc := 84) (tgt := 8) C dX0_firstDue_84 (by decide) ?_
          have hbs : bestD ν (i + 1) = none := by
            rw [bestD_s, hb2]
            dsimp only
            simp only [dueA_e ν i, ← Int32.not_lt, c_25, c_60, eq_self, ne_eq, not_true_eq_false, not_false_eq_true, Classical.not_not, decide_true, decide_false, and_true, true_and, and_false, false_and, and_self, or_true, true_or, or_false, false_or, or_self, if_true, if_false, ite_true, ite_false, Bool.eq_false_iff, Bool.not_eq_eq_eq_not, Bool.true_eq_false, Bool.false_eq_true, reduceCtorEq]
          exact ih (i + 1) ((-1)) x _ (by omega) (by rw [hbs]; rfl) (fun k hk => by rw [hbs] at hk; cases hk)
        · refine g_il3n (pc := 63) C dX0_firstDue_63 ?_
          refine g_if_lt (pc := 64) (tgt := 74) C dX0_firstDue_64 (by decide) (fun _ => ?_) (fun c => absurd c (by decide))
          refine g_il5 (pc := 74) C dX0_firstDue_74 ?_
          refine g_is3n (pc := 76) C dX0_firstDue_76 ?_
          refine g_il6 (pc := 77) C dX0_firstDue_77 ?_
          refine g_is4 (pc := 79) C dX0_firstDue_79 ?_
          refine g_ii5 (pc := 81) (v := nI (i + 1)) C dX0_firstDue_81 (nI_inc1 _) ?_
          refine g_goto (pc := 84) (tgt := 8) C dX0_firstDue_84 (by decide) ?_
          have hbs : bestD ν (i + 1) = some i := by
            rw [bestD_s, hb2]
            dsimp only
            simp only [dueA_e ν i, ← Int32.not_lt, c_25, c_60, eq_self, ne_eq, not_true_eq_false, not_false_eq_true, Classical.not_not, decide_true, decide_false, and_true, true_and, and_false, false_and, and_self, or_true, true_or, or_false, false_or, or_self, if_true, if_false, ite_true, ite_false, Bool.eq_false_iff, Bool.not_eq_eq_eq_not, Bool.true_eq_false, Bool.false_eq_true, reduceCtorEq]
          exact ih (i + 1) (nI i) (((aA ν i 7) + (spanA ν i)) + (max32 (aA ν i 5) (ν 29))) _ (by omega) (by rw [hbs]; rfl) (fun k hk => by rw [hbs] at hk; cases hk; rfl)
    · refine g_il5 (pc := 8) C dX0_firstDue_8 ?_
      refine g_al0n (pc := 10) C dX0_firstDue_10 ?_
      refine s_getIv (pc := 11) (v := nI (cnt ν 7)) C fX0_46 (w22 hz) rfl (hR.n7 hI) dX0_firstDue_11 ?_
      refine g_icmp_geL (pc := 14) (tgt := 87) C dX0_firstDue_14 (by decide) (fun c_14 => absurd (nI_lt (by omega) (by omega)) c_14) (fun c_14 => ?_)
      refine g_al0n (pc := 17) C dX0_firstDue_17 ?_
      refine s_getR (pc := 18) C fX0_34 (w22 hz) rfl dX0_firstDue_18 ?_
      refine g_il5 (pc := 21) C dX0_firstDue_21 ?_
      refine s_ialdv (pc := 23) (q := i) (v := aA ν i 6) C (w31 hz) rfl (by omega) (Nat.le_of_ble_eq_true rfl) (hR.a8 (by omega)) dX0_firstDue_23 ?_
      refine g_iconst (pc := 24) (v := 1) C dX0_firstDue_24 (by decide) ?_
      refine g_icmp_ne (pc := 25) (tgt := 81) C dX0_firstDue_25 (by decide) (fun c_25 => ?_) (fun c_25 => ?_)
      · refine g_ii5 (pc := 81) (v := nI (i + 1)) C dX0_firstDue_81 (nI_inc1 _) ?_
        refine g_goto (pc := 84) (tgt := 8) C dX0_firstDue_84 (by decide) ?_
        have hbs : bestD ν (i + 1) = some j := by
          rw [bestD_s, hb2]
          dsimp only
          rw [← hv1 j hb2]
          simp only [dueA_e ν i, ← Int32.not_lt, c_25, eq_self, ne_eq, not_true_eq_false, not_false_eq_true, Classical.not_not, decide_true, decide_false, and_true, true_and, and_false, false_and, and_self, or_true, true_or, or_false, false_or, or_self, if_true, if_false, ite_true, ite_false, Bool.eq_false_iff, Bool.not_eq_eq_eq_not, Bool.true_eq_false, Bool.false_eq_true, reduceCtorEq]
        exact ih (i + 1) (nI j) x _ (by omega) (by rw [hbs]; rfl) (fun k hk => by rw [hbs] at hk; cases hk; exact hv1 _ hb2)
      · refine g_al0n (pc := 28) C dX0_firstDue_28 ?_
        refine s_getR (pc := 29) C fX0_37 (w22 hz) rfl dX0_firstDue_29 ?_
        refine g_il5 (pc := 32) C dX0_firstDue_32 ?_
        refine s_ialdv (pc := 34) (q := i) (v := aA ν i 7) C (w32 hz) rfl (by omega) (Nat.le_of_ble_eq_true rfl) (hR.a9 (by omega)) dX0_firstDue_34 ?_
        refine g_al0n (pc := 35) C dX0_firstDue_35 ?_
        refine s_getR (pc := 36) C fX0_31 (w22 hz) rfl dX0_firstDue_36 ?_
        refine g_il5 (pc := 39) C dX0_firstDue_39 ?_
        refine s_ialdv (pc := 41) (q := i) (v := spanA ν i) C (w30 hz) rfl (by omega) (Nat.le_of_ble_eq_true rfl) (hR.a7 (by omega)) dX0_firstDue_41 ?_
        refine g_iadd (pc := 42) C dX0_firstDue_42 ?_
        refine g_al0n (pc := 43) C dX0_firstDue_43 ?_
        refine s_getR (pc := 44) C fX0_25 (w22 hz) rfl dX0_firstDue_44 ?_
        refine g_il5 (pc := 47) C dX0_firstDue_47 ?_
        refine s_ialdv (pc := 49) (q := i) (v := aA ν i 5) C (w28 hz) rfl (by omega) (Nat.le_of_ble_eq_true rfl) (hR.a5 (by omega)) dX0_firstDue_49 ?_
        refine g_il2n (pc := 50) C dX0_firstDue_50 ?_
        refine s_SI (pc := 51) (st := [(.int ((aA ν i 7) + (spanA ν i)))]) C (c_max (d := d - 1) (by omega) σ (aA ν i 5) (ν 29)) (by omega) lX0_68 dX0_firstDue_51 rfl (Nat.le_of_ble_eq_true rfl) rfl ?_
        refine g_iadd (pc := 54) C dX0_firstDue_54 ?_
        refine g_is6 (pc := 55) C dX0_firstDue_55 ?_
        refine g_il6 (pc := 57) C dX0_firstDue_57 ?_
        refine g_il1n (pc := 59) C dX0_firstDue_59 ?_
        refine g_icmp_gt (pc := 60) (tgt := 81) C dX0_firstDue_60 (by decide) (fun c_60 => ?_) (fun c_60 => ?_)
        · refine g_ii5 (pc := 81) (v := nI (i + 1)) C dX0_firstDue_81 (nI_inc1 _) ?_
          refine g_goto (pc := 84) (tgt := 8) C dX0_firstDue_84 (by decide) ?_
          have hbs : bestD ν (i + 1) = some j := by
            rw [bestD_s, hb2]
            dsimp only
            rw [← hv1 j hb2]
            simp only [dueA_e ν i, ← Int32.not_lt, c_25, c_60, eq_self, ne_eq, not_true_eq_false, not_false_eq_true, Classical.not_not, decide_true, decide_false, and_true, true_and, and_false, false_and, and_self, or_true, true_or, or_false, false_or, or_self, if_true, if_false, ite_true, ite_false, Bool.eq_false_iff, Bool.not_eq_eq_eq_not, Bool.true_eq_false, Bool.false_eq_true, reduceCtorEq]
          exact ih (i + 1) (nI j) x _ (by omega) (by rw [hbs]; rfl) (fun k hk => by rw [hbs] at hk; cases hk; exact hv1 _ hb2)
        · refine g_il3n (pc := 63) C dX0_firstDue_63 ?_
          refine g_if_lt (pc := 64) (tgt := 74) C dX0_firstDue_64 (by decide) (fun c_64 => absurd c_64 (nI_pos (by have := bestD_lt hb2; omega))) (fun c_64 => ?_)
          refine g_il6 (pc := 67) C dX0_firstDue_67 ?_
          refine g_il4 (pc := 69) C dX0_firstDue_69 ?_
          refine g_icmp_geL (pc := 71) (tgt := 81) C dX0_firstDue_71 (by decide) (fun c_71 => ?_) (fun c_71 => ?_)
          · refine g_ii5 (pc := 81) (v := nI (i + 1)) C dX0_firstDue_81 (nI_inc1 _) ?_
            refine g_goto (pc := 84) (tgt := 8) C dX0_firstDue_84 (by decide) ?_
            have hbs : bestD ν (i + 1) = some j := by
              rw [bestD_s, hb2]
              dsimp only
              rw [← hv1 j hb2]
              simp only [dueA_e ν i, ← Int32.not_lt, c_25, c_60, c_71, eq_self, ne_eq, not_true_eq_false, not_false_eq_true, Classical.not_not, decide_true, decide_false, and_true, true_and, and_false, false_and, and_self, or_true, true_or, or_false, false_or, or_self, if_true, if_false, ite_true, ite_false, Bool.eq_false_iff, Bool.not_eq_eq_eq_not, Bool.true_eq_false, Bool.false_eq_true, reduceCtorEq]
            exact ih (i + 1) (nI j) x _ (by omega) (by rw [hbs]; rfl) (fun k hk => by rw [hbs] at hk; cases hk; exact hv1 _ hb2)
          · refine g_il5 (pc := 74) C dX0_firstDue_74 ?_
            refine g_is3n (pc := 76) C dX0_firstDue_76 ?_
            refine g_il6 (pc := 77) C dX0_firstDue_77 ?_
            refine g_is4 (pc := 79) C dX0_firstDue_79 ?_
            refine g_ii5 (pc := 81) (v := nI (i + 1)) C dX0_firstDue_81 (nI_inc1 _) ?_
            refine g_goto (pc := 84) (tgt := 8) C dX0_firstDue_84 (by decide) ?_
            have hbs : bestD ν (i + 1) = some i := by
              rw [bestD_s, hb2]
              dsimp only
              rw [← hv1 j hb2]
              simp only [dueA_e ν i, ← Int32.not_lt, c_25, c_60, c_71, eq_self, ne_eq, not_true_eq_false, not_false_eq_true, Classical.not_not, decide_true, decide_false, and_true, true_and, and_false, false_and, and_self, or_true, true_or, or_false, false_or, or_self, if_true, if_false, ite_true, ite_false, Bool.eq_false_iff, Bool.not_eq_eq_eq_not, Bool.true_eq_false, Bool.false_eq_true, reduceCtorEq]
            exact ih (i + 1) (nI i) (((aA ν i 7) + (spanA ν i)) + (max32 (aA ν i 5) (ν 29))) _ (by omega) (by rw [hbs]; rfl) (fun k hk => by rw [hbs] at hk; cases hk; rfl)

theorem c_firstDue {d : Nat} (hd : 2 ≤ d) (σ : Sg) {z : Nat} (hz : isW z) {ν : Nu} (hI : INV ν) (hR : RW σ z ν) : CI d mX0_firstDue [.ref (z + 22), .int (ν 0), .int (ν 29)] σ (o2i (bestD ν (cnt ν 7))) σ := by
  refine con_of (by decide) (catL rfl) (Nat.le_of_ble_eq_true rfl) ?_
  intro μ ω C hr
  have C : Cx μ ω "TowField$Asks" cX0_firstDue 7 d := C
  have hr : (mH μ).sig.returnType = some .int := hr
  show G μ ω (RQ μ ω (pI (o2i (bestD ν (cnt ν 7))) σ)) 0 [some (.ref (z + 22)), some (.int (ν 0)), some (.int (ν 29)), none, none, none, none] [] (mk σ) 0 0
  refine g_iconst (pc := 0) (v := (-1)) C dX0_firstDue_0 (by decide) ?_
  refine g_is3n (pc := 1) C dX0_firstDue_1 ?_
  refine g_iconst (pc := 2) (v := 0) C dX0_firstDue_2 (by decide) ?_
  refine g_is4 (pc := 3) C dX0_firstDue_3 ?_
  refine g_iconst (pc := 5) (v := 0) C dX0_firstDue_5 (by decide) ?_
  refine g_is5 (pc := 6) C dX0_firstDue_6 ?_
  exact lp_due hd C hr σ hz hI hR (cnt ν 7) 0 _ _ _ (by omega) rfl (fun k hk => by cases hk)

theorem c_hasPaper {d : Nat} (hd : 2 ≤ d) (σ : Sg) {z : Nat} (hz : isW z) {ν : Nu} (hI : INV ν) (hR : RW σ z ν) (p k : Int32) (hp : p = -1 ∨ isN p (cnt ν 4)) : CB d mX4_hasPaper [.ref (z + 6), .int p, .int k] σ (papers ν p k = true) σ := by
  have h4 := hI.n4.2
  refine con_of (by decide) (catL rfl) (Nat.le_of_ble_eq_true rfl) ?_
  intro μ ω C hr
  have C : Cx μ ω "TowField$People" cX4_hasPaper 3 d := C
  have hr : (mH μ).sig.returnType = some .boolean := hr
  show G μ ω (RQ μ ω (pB (papers ν p k = true) σ)) 0 [some (.ref (z + 6)), some (.int p), some (.int k)] [] (mk σ) 0 0
  refine g_il1n (pc := 0) C dX4_hasPaper_0 ?_
  refine g_if_lt (pc := 1) (tgt := 29) C dX4_hasPaper_1 (by decide) (fun c_1 => ?_) (fun c_1 => ?_)
  · refine g_iconst (pc := 29) (v := 0) C dX4_hasPaper_29 (by decide) ?_
    exact r_B0 C hr dX4_hasPaper_30 (by simp only [papers, c_1, eq_self, ne_eq, not_true_eq_false, not_false_eq_true, Classical.not_not, decide_true, decide_false, and_true, true_and, and_false, false_and, and_self, or_true, true_or, or_false, false_or, or_self, if_true, if_false, ite_true, ite_false, Bool.eq_false_iff, Bool.not_eq_eq_eq_not, Bool.true_eq_false, Bool.false_eq_true, reduceCtorEq]) rfl
  · refine g_il1n (pc := 4) C dX4_hasPaper_4 ?_
    refine g_al0n (pc := 5) C dX4_hasPaper_5 ?_
    refine s_getIv (pc := 6) (v := nI (cnt ν 4)) C fX4_22 (w6 hz) rfl (hR.n4 hI) dX4_hasPaper_6 ?_
    refine g_icmp_geL (pc := 9) (tgt := 29) C dX4_hasPaper_9 (by decide) (fun c_9 => absurd (by rw [(clamp_isN (hp.resolve_left (fun z => c_1 (by rw [z]; decide))) (by omega)).1]; exact nI_lt (clamp_isN (hp.resolve_left (fun z => c_1 (by rw [z]; decide))) (by omega)).2 (by omega)) c_9) (fun c_9 => ?_)
    have hq : isN p (cnt ν 4) := hp.resolve_left (fun z => c_1 (by rw [z]; decide))
    refine g_al0n (pc := 12) C dX4_hasPaper_12 ?_
    refine s_getR (pc := 13) C fX4_13 (w6 hz) rfl dX4_hasPaper_13 ?_
    refine g_il1n (pc := 16) C dX4_hasPaper_16 ?_
    refine s_ialdv (pc := 17) (q := p.toNatClampNeg) (v := aP ν p.toNatClampNeg 1) C (w8 hz) (clamp_isN hq (by omega)).1 (by have := (clamp_isN hq (by omega)).2; omega) (Nat.le_of_ble_eq_true rfl) (hR.p1 (clamp_isN hq (by omega)).2) dX4_hasPaper_17 ?_
    refine g_il2n (pc := 18) C dX4_hasPaper_18 ?_
    refine s_NB (pc := 19) (st := []) C (c_hasBit (d := d - 1) (by omega) σ (aP ν p.toNatClampNeg 1) k) (by omega) lX4_35 dX4_hasPaper_19 rfl (Nat.le_of_ble_eq_true rfl) rfl (fun b_19 => ?_) (fun b_19 => ?_)
    · refine g_if_eq (pc := 22) (tgt := 29) C dX4_hasPaper_22 (by decide) (fun c => absurd c (by decide)) (fun _ => ?_)
      refine g_iconst (pc := 25) (v := 1) C dX4_hasPaper_25 (by decide) ?_
      refine g_goto (pc := 26) (tgt := 30) C dX4_hasPaper_26 (by decide) ?_
      exact r_B1 C hr dX4_hasPaper_30 (by simp only [papers, c_1, eq_self, ne_eq, not_true_eq_false, not_false_eq_true, Classical.not_not, decide_true, decide_false, and_true, true_and, and_false, false_and, and_self, or_true, true_or, or_false, false_or, or_self, if_true, if_false, ite_true, ite_false, Bool.eq_false_iff, Bool.not_eq_eq_eq_not, Bool.true_eq_false, Bool.false_eq_true, reduceCtorEq]; exact b_19) rfl
    · refine g_if_eq (pc := 22) (tgt := 29) C dX4_hasPaper_22 (by decide) (fun _ => ?_) (fun c => absurd c (by decide))
      refine g_iconst (pc := 29) (v := 0) C dX4_hasPaper_29 (by decide) ?_
      exact r_B0 C hr dX4_hasPaper_30 (by simp only [papers, c_1, eq_self, ne_eq, not_true_eq_false, not_false_eq_true, Classical.not_not, decide_true, decide_false, and_true, true_and, and_false, false_and, and_self, or_true, true_or, or_false, false_or, or_self, if_true, if_false, ite_true, ite_false, Bool.eq_false_iff, Bool.not_eq_eq_eq_not, Bool.true_eq_false, Bool.false_eq_true, reduceCtorEq]; exact b_19) rfl

theorem c_all {d : Nat} (hd : 1 ≤ d) (σ : Sg) {z : Nat} (hz : isW z) : CI d mX4_all [.ref (z + 6)] σ ((1 : Int32) <<< (σ (z + 6) 4 &&& 31) - 1) σ := by
  refine con_of (by decide) (catL rfl) (Nat.le_of_ble_eq_true rfl) ?_
  intro μ ω C hr
  have C : Cx μ ω "TowField$People" cX4_all 1 d := C
  have hr : (mH μ).sig.returnType = some .int := hr
  show G μ ω (RQ μ ω (pI ((1 : Int32) <<< (σ (z + 6) 4 &&& 31) - 1) σ)) 0 [some (.ref (z + 6))] [] (mk σ) 0 0
  refine g_iconst (pc := 0) (v := 1) C dX4_all_0 (by decide) ?_
  refine g_al0n (pc := 1) C dX4_all_1 ?_
  refine s_getI (pc := 2) C fX4_22 (w6 hz) rfl dX4_all_2 ?_
  refine g_ishl (pc := 5) C dX4_all_5 ?_
  refine g_iconst (pc := 6) (v := 1) C dX4_all_6 (by decide) ?_
  refine g_isub (pc := 7) C dX4_all_7 ?_
  exact r_I C hr dX4_all_8 rfl rfl

theorem c_addP {d : Nat} (hd : 1 ≤ d) (σ : Sg) {z : Nat} (hz : isW z) {n : Nat} (hn : σ (z + 6) 4 = nI n) (hn3 : n < 14) (w p : Int32) : CI d mX4_add [.ref (z + 6), .int w, .int p] σ (nI n) (up (up (up (up (up σ (z + 7) n w) (z + 8) n p) (z + 9) n (-1)) (z + 10) n 0) (z + 6) 4 (nI n + 1)) := by
  refine con_of (by decide) (catL rfl) (Nat.le_of_ble_eq_true rfl) ?_
  intro μ ω C hr
  have C : Cx μ ω "TowField$People" cX4_add 4 d := C
  have hr : (mH μ).sig.returnType = some .int := hr
  show G μ ω (RQ μ ω (pI (nI n) (up (up (up (up (up σ (z + 7) n w) (z + 8) n p) (z + 9) n (-1)) (z + 10) n 0) (z + 6) 4 (nI n + 1)))) 0 [some (.ref (z + 6)), some (.int w), some (.int p), none] [] (mk σ) 0 0
  refine g_al0n (pc := 0) C dX4_add_0 ?_
  refine s_getIv (pc := 1) (v := nI n) C fX4_22 (w6 hz) rfl (by first | exact hn | (simp (disch := omega) only [up_ne]; exact hn)) dX4_add_1 ?_
  refine g_is3n (pc := 4) C dX4_add_4 ?_
  refine g_al0n (pc := 5) C dX4_add_5 ?_
  refine s_getR (pc := 6) C fX4_9 (w6 hz) rfl dX4_add_6 ?_
  refine g_il3n (pc := 9) C dX4_add_9 ?_
  refine g_il1n (pc := 10) C dX4_add_10 ?_
  refine s_iast (pc := 11) (q := n) C (w7 hz) rfl (by omega) (Nat.le_of_ble_eq_true rfl) dX4_add_11 ?_
  refine g_al0n (pc := 12) C dX4_add_12 ?_
  refine s_getR (pc := 13) C fX4_13 (w6 hz) rfl dX4_add_13 ?_
  refine g_il3n (pc := 16) C dX4_add_16 ?_
  refine g_il2n (pc := 17) C dX4_add_17 ?_
  refine s_iast (pc := 18) (q := n) C (w8 hz) rfl (by omega) (Nat.le_of_ble_eq_true rfl) dX4_add_18 ?_
  refine g_al0n (pc := 19) C dX4_add_19 ?_
  refine s_getR (pc := 20) C fX4_16 (w6 hz) rfl dX4_add_20 ?_
  refine g_il3n (pc := 23) C dX4_add_23 ?_
  refine g_iconst (pc := 24) (v := (-1)) C dX4_add_24 (by decide) ?_
  refine s_iast (pc := 25) (q := n) C (w9 hz) rfl (by omega) (Nat.le_of_ble_eq_true rfl) dX4_add_25 ?_
  refine g_al0n (pc := 26) C dX4_add_26 ?_
  refine s_getR (pc := 27) C fX4_19 (w6 hz) rfl dX4_add_27 ?_
  refine g_il3n (pc := 30) C dX4_add_30 ?_
  refine g_iconst (pc := 31) (v := 0) C dX4_add_31 (by decide) ?_
  refine s_iast (pc := 32) (q := n) C (w10 hz) rfl (by omega) (Nat.le_of_ble_eq_true rfl) dX4_add_32 ?_
  refine g_al0n (pc := 33) C dX4_add_33 ?_
  refine g_il3n (pc := 34) C dX4_add_34 ?_
  refine g_iconst (pc := 35) (v := 1) C dX4_add_35 (by decide) ?_
  refine g_iadd (pc := 36) C dX4_add_36 ?_
  refine s_putI (pc := 37) C pX4_22 (w6 hz) rfl dX4_add_37 ?_
  refine g_il3n (pc := 40) C dX4_add_40 ?_
  exact r_I C hr dX4_add_41 rfl rfl

theorem c_addG {d : Nat} (hd : 1 ≤ d) (σ : Sg) {z : Nat} (hz : isW z) {n : Nat} (hn : σ (z + 1) 4 = nI n) (hn3 : n < 10) (s m l w : Int32) : CI d mX1_add [.ref (z + 1), .int s, .int m, .int l, .int w] σ (nI n) (up (up (up (up (up σ (z + 2) n s) (z + 3) n m) (z + 4) n l) (z + 5) n w) (z + 1) 4 (nI n + 1)) := by
  refine con_of (by decide) (catL rfl) (Nat.le_of_ble_eq_true rfl) ?_
  intro μ ω C hr
  have C : Cx μ ω "TowField$Gliders" cX1_add 6 d := C
  have hr : (mH μ).sig.returnType = some .int := hr
  show G μ ω (RQ μ ω (pI (nI n) (up (up (up (up (up σ (z + 2) n s) (z + 3) n m) (z + 4) n l) (z + 5) n w) (z + 1) 4 (nI n + 1)))) 0 [some (.ref (z + 1)), some (.int s), some (.int m), some (.int l), some (.int w), none] [] (mk σ) 0 0
  refine g_al0n (pc := 0) C dX1_add_0 ?_
  refine s_getIv (pc := 1) (v := nI n) C fX1_22 (w1 hz) rfl (by first | exact hn | (simp (disch := omega) only [up_ne]; exact hn)) dX1_add_1 ?_
  refine g_is5 (pc := 4) C dX1_add_4 ?_
  refine g_al0n (pc := 6) C dX1_add_6 ?_
  refine s_getR (pc := 7) C fX1_9 (w1 hz) rfl dX1_add_7 ?_
  refine g_il5 (pc := 10) C dX1_add_10 ?_
  refine g_il1n (pc := 12) C dX1_add_12 ?_
  refine s_iast (pc := 13) (q := n) C (w2 hz) rfl (by omega) (Nat.le_of_ble_eq_true rfl) dX1_add_13 ?_
  refine g_al0n (pc := 14) C dX1_add_14 ?_
  refine s_getR (pc := 15) C fX1_13 (w1 hz) rfl dX1_add_15 ?_
  refine g_il5 (pc := 18) C dX1_add_18 ?_
  refine g_il2n (pc := 20) C dX1_add_20 ?_
  refine s_iast (pc := 21) (q := n) C (w3 hz) rfl (by omega) (Nat.le_of_ble_eq_true rfl) dX1_add_21 ?_
  refine g_al0n (pc := 22) C dX1_add_22 ?_
  refine s_getR (pc := 23) C fX1_16 (w1 hz) rfl dX1_add_23 ?_
  refine g_il5 (pc := 26) C dX1_add_26 ?_
  refine g_il3n (pc := 28) C dX1_add_28 ?_
  refine s_iast (pc := 29) (q := n) C (w4 hz) rfl (by omega) (Nat.le_of_ble_eq_true rfl) dX1_add_29 ?_
  refine g_al0n (pc := 30) C dX1_add_30 ?_
  refine s_getR (pc := 31) C fX1_19 (w1 hz) rfl dX1_add_31 ?_
  refine g_il5 (pc := 34) C dX1_add_34 ?_
  refine g_il4 (pc := 36) C dX1_add_36 ?_
  refine s_iast (pc := 38) (q := n) C (w5 hz) rfl (by omega) (Nat.le_of_ble_eq_true rfl) dX1_add_38 ?_
  refine g_al0n (pc := 39) C dX1_add_39 ?_
  refine g_il5 (pc := 40) C dX1_add_40 ?_
  refine g_iconst (pc := 42) (v := 1) C dX1_add_42 (by decide) ?_
  refine g_iadd (pc := 43) C dX1_add_43 ?_
  refine s_putI (pc := 44) C pX1_22 (w1 hz) rfl dX1_add_44 ?_
  refine g_il5 (pc := 47) C dX1_add_47 ?_
  exact r_I C hr dX1_add_49 rfl rfl

theorem c_tellG {d : Nat} (hd : 2 ≤ d) (σ : Sg) {z : Nat} (hz : isW z) {k : Nat} (hk : k < 10) (w : Int32) : CI d mX1_tell [.ref (z + 1), .int (nI k), .int w] σ (if w = 0 then σ (z + 2) k else if w = 1 then σ (z + 3) k else if w = 2 then σ (z + 4) k else if w = 3 then σ (z + 5) k else if hb (σ (z + 1) 5) (nI k) = true then 0 else 1) σ := by
  refine con_of (by decide) (catL rfl) (Nat.le_of_ble_eq_true rfl) ?_
  intro μ ω C hr
  have C : Cx μ ω "TowField$Gliders" cX1_tell 3 d := C
  have hr : (mH μ).sig.returnType = some .int := hr
  show G μ ω (RQ μ ω (pI (if w = 0 then σ (z + 2) k else if w = 1 then σ (z + 3) k else if w = 2 then σ (z + 4) k else if w = 3 then σ (z + 5) k else if hb (σ (z + 1) 5) (nI k) = true then 0 else 1) σ)) 0 [some (.ref (z + 1)), some (.int (nI k)), some (.int w)] [] (mk σ) 0 0
  refine g_il2n (pc := 0) C dX1_tell_0 ?_
  rcases sw_0_3 w with w_1 | w_1 | w_1 | w_1 | w_1
  · refine g_tabE (pc := 1) (tgt := 32) (off := 31) (v := 0) C dX1_tell_1 w_1 (by decide) (by decide) (by decide) (by decide) ?_
    refine g_al0n (pc := 32) C dX1_tell_32 ?_
    refine s_getR (pc := 33) C fX1_9 (w1 hz) rfl dX1_tell_33 ?_
    refine g_il1n (pc := 36) C dX1_tell_36 ?_
    refine s_iald (pc := 37) (q := k) C (w2 hz) rfl (by omega) (Nat.le_of_ble_eq_true rfl) dX1_tell_37 ?_
    subst w_1
    exact r_I C hr dX1_tell_38 rfl rfl
  · refine g_tabE (pc := 1) (tgt := 39) (off := 38) (v := 1) C dX1_tell_1 w_1 (by decide) (by decide) (by decide) (by decide) ?_
    refine g_al0n (pc := 39) C dX1_tell_39 ?_
    refine s_getR (pc := 40) C fX1_13 (w1 hz) rfl dX1_tell_40 ?_
    refine g_il1n (pc := 43) C dX1_tell_43 ?_
    refine s_iald (pc := 44) (q := k) C (w3 hz) rfl (by omega) (Nat.le_of_ble_eq_true rfl) dX1_tell_44 ?_
    subst w_1
    exact r_I C hr dX1_tell_45 rfl rfl
  · refine g_tabE (pc := 1) (tgt := 46) (off := 45) (v := 2) C dX1_tell_1 w_1 (by decide) (by decide) (by decide) (by decide) ?_
    refine g_al0n (pc := 46) C dX1_tell_46 ?_
    refine s_getR (pc := 47) C fX1_16 (w1 hz) rfl dX1_tell_47 ?_
    refine g_il1n (pc := 50) C dX1_tell_50 ?_
    refine s_iald (pc := 51) (q := k) C (w4 hz) rfl (by omega) (Nat.le_of_ble_eq_true rfl) dX1_tell_51 ?_
    subst w_1
    exact r_I C hr dX1_tell_52 rfl rfl
  · refine g_tabE (pc := 1) (tgt := 53) (off := 52) (v := 3) C dX1_tell_1 w_1 (by decide) (by decide) (by decide) (by decide) ?_
    refine g_al0n (pc := 53) C dX1_tell_53 ?_
    refine s_getR (pc := 54) C fX1_19 (w1 hz) rfl dX1_tell_54 ?_
    refine g_il1n (pc := 57) C dX1_tell_57 ?_
    refine s_iald (pc := 58) (q := k) C (w5 hz) rfl (by omega) (Nat.le_of_ble_eq_true rfl) dX1_tell_58 ?_
    subst w_1
    exact r_I C hr dX1_tell_59 rfl rfl
  · refine g_tabOut (pc := 1) (tgt := 60) C dX1_tell_1 w_1 (by decide) ?_
    refine g_al0n (pc := 60) C dX1_tell_60 ?_
    refine s_getI (pc := 61) C fX1_26 (w1 hz) rfl dX1_tell_61 ?_
    refine g_il1n (pc := 64) C dX1_tell_64 ?_
    refine s_NB (pc := 65) (st := []) C (c_hasBit (d := d - 1) (by omega) σ (σ (z + 1) 5) (nI k)) (by omega) lX1_35 dX1_tell_65 rfl (Nat.le_of_ble_eq_true rfl) rfl (fun b_65 => ?_) (fun b_65 => ?_)
    · refine g_if_eq (pc := 68) (tgt := 75) C dX1_tell_68 (by decide) (fun c => absurd c (by decide)) (fun _ => ?_)
      refine g_iconst (pc := 71) (v := 0) C dX1_tell_71 (by decide) ?_
      refine g_goto (pc := 72) (tgt := 76) C dX1_tell_72 (by decide) ?_
      have hne : ∀ z : Int32, (0 ≤ z.toInt ∧ z.toInt ≤ 3) → ¬ w = z := fun z hz q => by subst q; omega
      exact r_I C hr dX1_tell_76 (by simp only [hne 0 (by decide), hne 1 (by decide), hne 2 (by decide), hne 3 (by decide), b_65, eq_self, ne_eq, not_true_eq_false, not_false_eq_true, Classical.not_not, decide_true, decide_false, and_true, true_and, and_false, false_and, and_self, or_true, true_or, or_false, false_or, or_self, if_true, if_false, ite_true, ite_false, Bool.eq_false_iff, Bool.not_eq_eq_eq_not, Bool.true_eq_false, Bool.false_eq_true, reduceCtorEq]) rfl
    · refine g_if_eq (pc := 68) (tgt := 75) C dX1_tell_68 (by decide) (fun _ => ?_) (fun c => absurd c (by decide))
      refine g_iconst (pc := 75) (v := 1) C dX1_tell_75 (by decide) ?_
      have hne : ∀ z : Int32, (0 ≤ z.toInt ∧ z.toInt ≤ 3) → ¬ w = z := fun z hz q => by subst q; omega
      exact r_I C hr dX1_tell_76 (by simp only [hne 0 (by decide), hne 1 (by decide), hne 2 (by decide), hne 3 (by decide), b_65, eq_self, ne_eq, not_true_eq_false, not_false_eq_true, Classical.not_not, decide_true, decide_false, and_true, true_and, and_false, false_and, and_self, or_true, true_or, or_false, false_or, or_self, if_true, if_false, ite_true, ite_false, Bool.eq_false_iff, Bool.not_eq_eq_eq_not, Bool.true_eq_false, Bool.false_eq_true, reduceCtorEq]) rfl

theorem c_tellP {d : Nat} (hd : 2 ≤ d) (σ : Sg) {z : Nat} (hz : isW z) {k : Nat} (hk : k < 14) (w : Int32) : CI d mX4_tell [.ref (z + 6), .int (nI k), .int w] σ (if w = 0 then σ (z + 7) k else if w = 1 then σ (z + 8) k else if w = 2 then σ (z + 9) k else if w = 3 then σ (z + 10) k else if hb (σ (z + 6) 5) (nI k) = true then 1 else 0) σ := by
  refine con_of (by decide) (catL rfl) (Nat.le_of_ble_eq_true rfl) ?_
  intro μ ω C hr
  have C : Cx μ ω "TowField$People" cX4_tell 3 d := C
  have hr : (mH μ).sig.returnType = some .int := hr
  show G μ ω (RQ μ ω (pI (if w = 0 then σ (z + 7) k else if w = 1 then σ (z + 8) k else if w = 2 then σ (z + 9) k else if w = 3 then σ (z + 10) k else if hb (σ (z + 6) 5) (nI k) = true then 1 else 0) σ)) 0 [some (.ref (z + 6)), some (.int (nI k)), some (.int w)] [] (mk σ) 0 0
  refine g_il2n (pc := 0) C dX4_tell_0 ?_
  rcases sw_0_3 w with w_1 | w_1 | w_1 | w_1 | w_1
  · refine g_tabE (pc := 1) (tgt := 32) (off := 31) (v := 0) C dX4_tell_1 w_1 (by decide) (by decide) (by decide) (by decide) ?_
    refine g_al0n (pc := 32) C dX4_tell_32 ?_
    refine s_getR (pc := 33) C fX4_9 (w6 hz) rfl dX4_tell_33 ?_
    refine g_il1n (pc := 36) C dX4_tell_36 ?_
    refine s_iald (pc := 37) (q := k) C (w7 hz) rfl (by omega) (Nat.le_of_ble_eq_true rfl) dX4_tell_37 ?_
    subst w_1
    exact r_I C hr dX4_tell_38 rfl rfl
  · refine g_tabE (pc := 1) (tgt := 39) (off := 38) (v := 1) C dX4_tell_1 w_1 (by decide) (by decide) (by decide) (by decide) ?_
    refine g_al0n (pc := 39) C dX4_tell_39 ?_
    refine s_getR (pc := 40) C fX4_13 (w6 hz) rfl dX4_tell_40 ?_
    refine g_il1n (pc := 43) C dX4_tell_43 ?_
    refine s_iald (pc := 44) (q := k) C (w8 hz) rfl (by omega) (Nat.le_of_ble_eq_true rfl) dX4_tell_44 ?_
    subst w_1
    exact r_I C hr dX4_tell_45 rfl rfl
  · refine g_tabE (pc := 1) (tgt := 46) (off := 45) (v := 2) C dX4_tell_1 w_1 (by decide) (by decide) (by decide) (by decide) ?_
    refine g_al0n (pc := 46) C dX4_tell_46 ?_
    refine s_getR (pc := 47) C fX4_16 (w6 hz) rfl dX4_tell_47 ?_
    refine g_il1n (pc := 50) C dX4_tell_50 ?_
    refine s_iald (pc := 51) (q := k) C (w9 hz) rfl (by omega) (Nat.le_of_ble_eq_true rfl) dX4_tell_51 ?_
    subst w_1
    exact r_I C hr dX4_tell_52 rfl rfl
  · refine g_tabE (pc := 1) (tgt := 53) (off := 52) (v := 3) C dX4_tell_1 w_1 (by decide) (by decide) (by decide) (by decide) ?_
    refine g_al0n (pc := 53) C dX4_tell_53 ?_
    refine s_getR (pc := 54) C fX4_19 (w6 hz) rfl dX4_tell_54 ?_
    refine g_il1n (pc := 57) C dX4_tell_57 ?_
    refine s_iald (pc := 58) (q := k) C (w10 hz) rfl (by omega) (Nat.le_of_ble_eq_true rfl) dX4_tell_58 ?_
    subst w_1
    exact r_I C hr dX4_tell_59 rfl rfl
  · refine g_tabOut (pc := 1) (tgt := 60) C dX4_tell_1 w_1 (by decide) ?_
    refine g_al0n (pc := 60) C dX4_tell_60 ?_
    refine s_getI (pc := 61) C fX4_26 (w6 hz) rfl dX4_tell_61 ?_
    refine g_il1n (pc := 64) C dX4_tell_64 ?_
    refine s_NB (pc := 65) (st := []) C (c_hasBit (d := d - 1) (by omega) σ (σ (z + 6) 5) (nI k)) (by omega) lX4_35 dX4_tell_65 rfl (Nat.le_of_ble_eq_true rfl) rfl (fun b_65 => ?_) (fun b_65 => ?_)
    · refine g_if_eq (pc := 68) (tgt := 75) C dX4_tell_68 (by decide) (fun c => absurd c (by decide)) (fun _ => ?_)
      refine g_iconst (pc := 71) (v := 1) C dX4_tell_71 (by decide) ?_
      refine g_goto (pc := 72) (tgt := 76) C dX4_tell_72 (by decide) ?_
      have hne : ∀ z : Int32, (0 ≤ z.toInt ∧ z.toInt ≤ 3) → ¬ w = z := fun z hz q => by subst q; omega
      exact r_I C hr dX4_tell_76 (by simp only [hne 0 (by decide), hne 1 (by decide), hne 2 (by decide), hne 3 (by decide), b_65, eq_self, ne_eq, not_true_eq_false, not_false_eq_true, Classical.not_not, decide_true, decide_false, and_true, true_and, and_false, false_and, and_self, or_true, true_or, or_false, false_or, or_self, if_true, if_false, ite_true, ite_false, Bool.eq_false_iff, Bool.not_eq_eq_eq_not, Bool.true_eq_false, Bool.false_eq_true, reduceCtorEq]) rfl
    · refine g_if_eq (pc := 68) (tgt := 75) C dX4_tell_68 (by decide) (fun _ => ?_) (fun c => absurd c (by decide))
      refine g_iconst (pc := 75) (v := 0) C dX4_tell_75 (by decide) ?_
      have hne : ∀ z : Int32, (0 ≤ z.toInt ∧ z.toInt ≤ 3) → ¬ w = z := fun z hz q => by subst q; omega
      exact r_I C hr dX4_tell_76 (by simp only [hne 0 (by decide), hne 1 (by decide), hne 2 (by decide), hne 3 (by decide), b_65, eq_self, ne_eq, not_true_eq_false, not_false_eq_true, Classical.not_not, decide_true, decide_false, and_true, true_and, and_false, false_and, and_self, or_true, true_or, or_false, false_or, or_self, if_true, if_false, ite_true, ite_false, Bool.eq_false_iff, Bool.not_eq_eq_eq_not, Bool.true_eq_false, Bool.false_eq_true, reduceCtorEq]) rfl

theorem c_tellA {d : Nat} (hd : 1 ≤ d) (σ : Sg) {z : Nat} (hz : isW z) {k : Nat} (hk : k < 20) (w : Int32) : CI d mX0_tell [.ref (z + 22), .int (nI k), .int w] σ (if w = 0 then σ (z + 23) k else if w = 1 then σ (z + 24) k else if w = 2 then σ (z + 25) k else if w = 3 then σ (z + 26) k else if w = 4 then σ (z + 27) k else if w = 5 then σ (z + 28) k else if w = 6 then σ (z + 31) k else if w = 7 then σ (z + 32) k else if w = 8 then σ (z + 33) k else σ (z + 34) k) σ := by
  refine con_of (by decide) (catL rfl) (Nat.le_of_ble_eq_true rfl) ?_
  intro μ ω C hr
  have C : Cx μ ω "TowField$Asks" cX0_tell 3 d := C
  have hr : (mH μ).sig.returnType = some .int := hr
  show G μ ω (RQ μ ω (pI (if w = 0 then σ (z + 23) k else if w = 1 then σ (z + 24) k else if w = 2 then σ (z + 25) k else if w = 3 then σ (z + 26) k else if w = 4 then σ (z + 27) k else if w = 5 then σ (z + 28) k else if w = 6 then σ (z + 31) k else if w = 7 then σ (z + 32) k else if w = 8 then σ (z + 33) k else σ (z + 34) k) σ)) 0 [some (.ref (z + 22)), some (.int (nI k)), some (.int w)] [] (mk σ) 0 0
  refine g_il2n (pc := 0) C dX0_tell_0 ?_
  rcases sw_0_8 w with w_1 | w_1 | w_1 | w_1 | w_1 | w_1 | w_1 | w_1 | w_1 | w_1
  · refine g_tabE (pc := 1) (tgt := 52) (off := 51) (v := 0) C dX0_tell_1 w_1 (by decide) (by decide) (by decide) (by decide) ?_
    refine g_al0n (pc := 52) C dX0_tell_52 ?_
    refine s_getR (pc := 53) C fX0_9 (w22 hz) rfl dX0_tell_53 ?_
    refine g_il1n (pc := 56) C dX0_tell_56 ?_
    refine s_iald (pc := 57) (q := k) C (w23 hz) rfl (by omega) (Nat.le_of_ble_eq_true rfl) dX0_tell_57 ?_
    subst w_1
    exact r_I C hr dX0_tell_58 rfl rfl
  · refine g_tabE (pc := 1) (tgt := 59) (off := 58) (v := 1) C dX0_tell_1 w_1 (by decide) (by decide) (by decide) (by decide) ?_
    refine g_al0n (pc := 59) C dX0_tell_59 ?_
    refine s_getR (pc := 60) C fX0_13 (w22 hz) rfl dX0_tell_60 ?_
    refine g_il1n (pc := 63) C dX0_tell_63 ?_
    refine s_iald (pc := 64) (q := k) C (w24 hz) rfl (by omega) (Nat.le_of_ble_eq_true rfl) dX0_tell_64 ?_
    subst w_1
    exact r_I C hr dX0_tell_65 rfl rfl
  · refine g_tabE (pc := 1) (tgt := 66) (off := 65) (v := 2) C dX0_tell_1 w_1 (by decide) (by decide) (by decide) (by decide) ?_
    refine g_al0n (pc := 66) C dX0_tell_66 ?_
    refine s_getR (pc := 67) C fX0_16 (w22 hz) rfl dX0_tell_67 ?_
    refine g_il1n (pc := 70) C dX0_tell_70 ?_
    refine s_iald (pc := 71) (q := k) C (w25 hz) rfl (by omega) (Nat.le_of_ble_eq_true rfl) dX0_tell_71 ?_
    subst w_1
    exact r_I C hr dX0_tell_72 rfl rfl
  · refine g_tabE (pc := 1) (tgt := 73) (off := 72) (v := 3) C dX0_tell_1 w_1 (by decide) (by decide) (by decide) (by decide) ?_
    refine g_al0n (pc := 73) C dX0_tell_73 ?_
    refine s_getR (pc := 74) C fX0_19 (w22 hz) rfl dX0_tell_74 ?_
    refine g_il1n (pc := 77) C dX0_tell_77 ?_
    refine s_iald (pc := 78) (q := k) C (w26 hz) rfl (by omega) (Nat.le_of_ble_eq_true rfl) dX0_tell_78 ?_
    subst w_1
    exact r_I C hr dX0_tell_79 rfl rfl
  · refine g_tabE (pc := 1) (tgt := 80) (off := 79) (v := 4) C dX0_tell_1 w_1 (by decide) (by decide) (by decide) (by decide) ?_
    refine g_al0n (pc := 80) C dX0_tell_80 ?_
    refine s_getR (pc := 81) C fX0_22 (w22 hz) rfl dX0_tell_81 ?_
    refine g_il1n (pc := 84) C dX0_tell_84 ?_
    refine s_iald (pc := 85) (q := k) C (w27 hz) rfl (by omega) (Nat.le_of_ble_eq_true rfl) dX0_tell_85 ?_
    subst w_1
    exact r_I C hr dX0_tell_86 rfl rfl
  · refine g_tabE (pc := 1) (tgt := 87) (off := 86) (v := 5) C dX0_tell_1 w_1 (by decide) (by decide) (by decide) (by decide) ?_
    refine g_al0n (pc := 87) C dX0_tell_87 ?_
    refine s_getR (pc := 88) C fX0_25 (w22 hz) rfl dX0_tell_88 ?_
    refine g_il1n (pc := 91) C dX0_tell_91 ?_
    refine s_iald (pc := 92) (q := k) C (w28 hz) rfl (by omega) (Nat.le_of_ble_eq_true rfl) dX0_tell_92 ?_
    subst w_1
    exact r_I C hr dX0_tell_93 rfl rfl
  · refine g_tabE (pc := 1) (tgt := 94) (off := 93) (v := 6) C dX0_tell_1 w_1 (by decide) (by decide) (by decide) (by decide) ?_
    refine g_al0n (pc := 94) C dX0_tell_94 ?_
    refine s_getR (pc := 95) C fX0_34 (w22 hz) rfl dX0_tell_95 ?_
    refine g_il1n (pc := 98) C dX0_tell_98 ?_
    refine s_iald (pc := 99) (q := k) C (w31 hz) rfl (by omega) (Nat.le_of_ble_eq_true rfl) dX0_tell_99 ?_
    subst w_1
    exact r_I C hr dX0_tell_100 rfl rfl
  · refine g_tabE (pc := 1) (tgt := 101) (off := 100) (v := 7) C dX0_tell_1 w_1 (by decide) (by decide) (by decide) (by decide) ?_
    refine g_al0n (pc := 101) C dX0_tell_101 ?_
    refine s_getR (pc := 102) C fX0_37 (w22 hz) rfl dX0_tell_102 ?_
    refine g_il1n (pc := 105) C dX0_tell_105 ?_
    refine s_iald (pc := 106) (q := k) C (w32 hz) rfl (by omega) (Nat.le_of_ble_eq_true rfl) dX0_tell_106 ?_
    subst w_1
    exact r_I C hr dX0_tell_107 rfl rfl
  · refine g_tabE (pc := 1) (tgt := 108) (off := 107) (v := 8) C dX0_tell_1 w_1 (by decide) (by decide) (by decide) (by decide) ?_
    refine g_al0n (pc := 108) C dX0_tell_108 ?_
    refine s_getR (pc := 109) C fX0_40 (w22 hz) rfl dX0_tell_109 ?_
    refine g_il1n (pc := 112) C dX0_tell_112 ?_
    refine s_iald (pc := 113) (q := k) C (w33 hz) rfl (by omega) (Nat.le_of_ble_eq_true rfl) dX0_tell_113 ?_
    subst w_1
    exact r_I C hr dX0_tell_114 rfl rfl
  · refine g_tabOut (pc := 1) (tgt := 115) C dX0_tell_1 w_1 (by decide) ?_
    refine g_al0n (pc := 115) C dX0_tell_115 ?_
    refine s_getR (pc := 116) C fX0_43 (w22 hz) rfl dX0_tell_116 ?_
    refine g_il1n (pc := 119) C dX0_tell_119 ?_
    refine s_iald (pc := 120) (q := k) C (w34 hz) rfl (by omega) (Nat.le_of_ble_eq_true rfl) dX0_tell_120 ?_
    have hne : ∀ z : Int32, (0 ≤ z.toInt ∧ z.toInt ≤ 8) → ¬ w = z := fun z hz q => by subst q; omega
    exact r_I C hr dX0_tell_121 (by simp only [hne 0 (by decide), hne 1 (by decide), hne 2 (by decide), hne 3 (by decide), hne 4 (by decide), hne 5 (by decide), hne 6 (by decide), hne 7 (by decide), hne 8 (by decide), eq_self, ne_eq, not_true_eq_false, not_false_eq_true, Classical.not_not, decide_true, decide_false, and_true, true_and, and_false, false_and, and_self, or_true, true_or, or_false, false_or, or_self, if_true, if_false, ite_true, ite_false, Bool.eq_false_iff, Bool.not_eq_eq_eq_not, Bool.true_eq_false, Bool.false_eq_true, reduceCtorEq]) rfl

theorem lp_bills {μ : Mx} {ω : Om} {d : Nat} (hd : 1 ≤ d) (C : Cx μ ω "TowField$People" cX4_bills 3 d) (hr : (mH μ).sig.returnType = some .int) (σ : Sg) {z : Nat} (hz : isW z) {ν : Nu} (hI : INV ν) (hR : RW σ z ν) : ∀ (f i : Nat) (v : Int32), i + f = cnt ν 4 → (v = sumL (fun p => aP ν p 3) i) → G μ ω (RQ μ ω (pI (billsS ν) σ)) 4 [some (.ref (z + 6)), some (.int v), some (.int (nI i))] [] (mk σ) 0 0 := by
  intro f
  induction f with
  | zero =>
    intro i v hif hv
    have hin : i = cnt ν 4 := by omega
    have h4 := hI.n4.2
    refine g_il2n (pc := 4) C dX4_bills_4 ?_
    refine g_al0n (pc := 5) C dX4_bills_5 ?_
    refine s_getIv (pc := 6) (v := nI (cnt ν 4)) C fX4_22 (w6 hz) rfl (hR.n4 hI) dX4_bills_6 ?_
    refine g_icmp_geL (pc := 9) (tgt := 27) C dX4_bills_9 (by decide) (fun c_9 => ?_) (fun c_9 => absurd c_9 (nI_nlt (by omega) (by omega)))
    refine g_il1n (pc := 27) C dX4_bills_27 ?_
    exact r_I C hr dX4_bills_28 (by rw [hin] at hv; exact hv) rfl
  | succ f ih =>
    intro i v hif hv
    have h4 := hI.n4.2
    refine g_il2n (pc := 4) C dX4_bills_4 ?_
    refine g_al0n (pc := 5) C dX4_bills_5 ?_
    refine s_getIv (pc := 6) (v := nI (cnt ν 4)) C fX4_22 (w6 hz) rfl (hR.n4 hI) dX4_bills_6 ?_
    refine g_icmp_geL (pc := 9) (tgt := 27) C dX4_bills_9 (by decide) (fun c_9 => absurd (nI_lt (by omega) (by omega)) c_9) (fun c_9 => ?_)
    refine g_il1n (pc := 12) C dX4_bills_12 ?_
    refine g_al0n (pc := 13) C dX4_bills_13 ?_
    refine s_getR (pc := 14) C fX4_19 (w6 hz) rfl dX4_bills_14 ?_
    refine g_il2n (pc := 17) C dX4_bills_17 ?_
    refine s_ialdv (pc := 18) (q := i) (v := aP ν i 3) C (w10 hz) rfl (by omega) (Nat.le_of_ble_eq_true rfl) (hR.p3 (by omega)) dX4_bills_18 ?_
    refine g_iadd (pc := 19) C dX4_bills_19 ?_
    refine g_is1n (pc := 20) C dX4_bills_20 ?_
    refine g_ii2 (pc := 21) (v := nI (i + 1)) C dX4_bills_21 (nI_inc1 _) ?_
    refine g_goto (pc := 24) (tgt := 4) C dX4_bills_24 (by decide) ?_
    exact ih (i + 1) _ (by omega) (by rw [sumL_s, ← hv])

theorem c_bills {d : Nat} (hd : 1 ≤ d) (σ : Sg) {z : Nat} (hz : isW z) {ν : Nu} (hI : INV ν) (hR : RW σ z ν) : CI d mX4_bills [.ref (z + 6)] σ (billsS ν) σ := by
  refine con_of (by decide) (catL rfl) (Nat.le_of_ble_eq_true rfl) ?_
  intro μ ω C hr
  have C : Cx μ ω "TowField$People" cX4_bills 3 d := C
  have hr : (mH μ).sig.returnType = some .int := hr
  show G μ ω (RQ μ ω (pI (billsS ν) σ)) 0 [some (.ref (z + 6)), none, none] [] (mk σ) 0 0
  refine g_iconst (pc := 0) (v := 0) C dX4_bills_0 (by decide) ?_
  refine g_is1n (pc := 1) C dX4_bills_1 ?_
  refine g_iconst (pc := 2) (v := 0) C dX4_bills_2 (by decide) ?_
  refine g_is2n (pc := 3) C dX4_bills_3 ?_
  exact lp_bills hd C hr σ hz hI hR (cnt ν 4) 0 0 (by omega) rfl

theorem c_addA {d : Nat} (hd : 4 ≤ d) (σ : Sg) {z : Nat} (hz : isW z) {n : Nat} (hn : σ (z + 22) 12 = nI n) (hn3 : n < 20) {k : Nat} (hk : k ≤ 5) (p w g h m : Int32) (hh : jrem h 10 = nI k) : CP d mX0_add [.ref (z + 22), .int p, .int w, .int g, .int h, .int m] σ (fun v τ => v = nI n ∧ τ = up (up (up (up (up (up (up (up (up (up (up (up (up σ (z + 23) n p) (z + 24) n w) (z + 25) n g) (z + 26) n (nI k)) (z + 27) n (h / 10)) (z + 28) n m) (z + 29) n (if undK (nI k) 2 = true then 1 else 0)) (z + 30) n (spanK (nI k) (h / 10))) (z + 31) n 0) (z + 32) n (-1)) (z + 33) n (-1)) (z + 34) n (-1)) (z + 22) 12 (nI n + 1)) := by
  refine con_of (by decide) (catL rfl) (Nat.le_of_ble_eq_true rfl) ?_
  intro μ ω C hr
  have C : Cx μ ω "TowField$Asks" cX0_add 7 d := C
  have hr : (mH μ).sig.returnType = some .int := hr
  show G μ ω (RQ μ ω (pP (fun v τ => v = nI n ∧ τ = up (up (up (up (up (up (up (up (up (up (up (up (up σ (z + 23) n p) (z + 24) n w) (z + 25) n g) (z + 26) n (nI k)) (z + 27) n (h / 10)) (z + 28) n m) (z + 29) n (if undK (nI k) 2 = true then 1 else 0)) (z + 30) n (spanK (nI k) (h / 10))) (z + 31) n 0) (z + 32) n (-1)) (z + 33) n (-1)) (z + 34) n (-1)) (z + 22) 12 (nI n + 1)))) 0 [some (.ref (z + 22)), some (.int p), some (.int w), some (.int g), some (.int h), some (.int m), none] [] (mk σ) 0 0
  refine g_al0n (pc := 0) C dX0_add_0 ?_
  refine s_getIv (pc := 1) (v := nI n) C fX0_46 (w22 hz) rfl (by first | exact hn | (simp (disch := omega) only [up_ne]; exact hn)) dX0_add_1 ?_
  refine g_is6 (pc := 4) C dX0_add_4 ?_
  refine g_al0n (pc := 6) C dX0_add_6 ?_
  refine s_getR (pc := 7) C fX0_9 (w22 hz) rfl dX0_add_7 ?_
  refine g_il6 (pc := 10) C dX0_add_10 ?_
  refine g_il1n (pc := 12) C dX0_add_12 ?_
  refine s_iast (pc := 13) (q := n) C (w23 hz) rfl (by omega) (Nat.le_of_ble_eq_true rfl) dX0_add_13 ?_
  refine g_al0n (pc := 14) C dX0_add_14 ?_
  refine s_getR (pc := 15) C fX0_13 (w22 hz) rfl dX0_add_15 ?_
  refine g_il6 (pc := 18) C dX0_add_18 ?_
  refine g_il2n (pc := 20) C dX0_add_20 ?_
  refine s_iast (pc := 21) (q := n) C (w24 hz) rfl (by omega) (Nat.le_of_ble_eq_true rfl) dX0_add_21 ?_
  refine g_al0n (pc := 22) C dX0_add_22 ?_
  refine s_getR (pc := 23) C fX0_16 (w22 hz) rfl dX0_add_23 ?_
  refine g_il6 (pc := 26) C dX0_add_26 ?_
  refine g_il3n (pc := 28) C dX0_add_28 ?_
  refine s_iast (pc := 29) (q := n) C (w25 hz) rfl (by omega) (Nat.le_of_ble_eq_true rfl) dX0_add_29 ?_
  refine g_al0n (pc := 30) C dX0_add_30 ?_
  refine s_getR (pc := 31) C fX0_19 (w22 hz) rfl dX0_add_31 ?_
  refine g_il6 (pc := 34) C dX0_add_34 ?_
  refine g_il4 (pc := 36) C dX0_add_36 ?_
  refine g_bipush (pc := 38) (v := 10) C dX0_add_38 (by decide) ?_
  refine g_irem (pc := 40) C dX0_add_40 (by decide) ?_
  rw [hh]
  refine s_iast (pc := 41) (q := n) C (w26 hz) rfl (by omega) (Nat.le_of_ble_eq_true rfl) dX0_add_41 ?_
  refine g_al0n (pc := 42) C dX0_add_42 ?_
  refine s_getR (pc := 43) C fX0_22 (w22 hz) rfl dX0_add_43 ?_
  refine g_il6 (pc := 46) C dX0_add_46 ?_
  refine g_il4 (pc := 48) C dX0_add_48 ?_
  refine g_bipush (pc := 50) (v := 10) C dX0_add_50 (by decide) ?_
  refine g_idiv (pc := 52) C dX0_add_52 (by decide) ?_
  refine s_iast (pc := 53) (q := n) C (w27 hz) rfl (by omega) (Nat.le_of_ble_eq_true rfl) dX0_add_53 ?_
  refine g_al0n (pc := 54) C dX0_add_54 ?_
  refine s_getR (pc := 55) C fX0_25 (w22 hz) rfl dX0_add_55 ?_
  refine g_il6 (pc := 58) C dX0_add_58 ?_
  refine g_il5 (pc := 60) C dX0_add_60 ?_
  refine s_iast (pc := 62) (q := n) C (w28 hz) rfl (by omega) (Nat.le_of_ble_eq_true rfl) dX0_add_62 ?_
  refine g_al0n (pc := 63) C dX0_add_63 ?_
  refine s_getR (pc := 64) C fX0_28 (w22 hz) rfl dX0_add_64 ?_
  refine g_il6 (pc := 67) C dX0_add_67 ?_
  refine g_al0n (pc := 69) C dX0_add_69 ?_
  refine s_getR (pc := 70) C fX0_19 (w22 hz) rfl dX0_add_70 ?_
  refine g_il6 (pc := 73) C dX0_add_73 ?_
  refine s_ialdv (pc := 75) (q := n) (v := nI k) C (w26 hz) rfl (by omega) (Nat.le_of_ble_eq_true rfl) (by simp (disch := omega) only [up_ne, up_at, upd_at]) dX0_add_75 ?_
  refine g_iconst (pc := 76) (v := 2) C dX0_add_76 (by decide) ?_
  refine s_SB (pc := 77) (st := [(.int (nI n)), (.ref (z + 29))]) C (c_isOrUnder (d := d - 1) (by omega) ((up (up (up (up (up (up σ (z + 23) n p) (z + 24) n w) (z + 25) n g) (z + 26) n (nI k)) (z + 27) n (h / 10)) (z + 28) n m)) (k := k) (by omega) 2) (by omega) lX0_58 dX0_add_77 rfl (Nat.le_of_ble_eq_true rfl) rfl (fun b_77 => ?_) (fun b_77 => ?_)
  · refine g_if_eq (pc := 80) (tgt := 87) C dX0_add_80 (by decide) (fun c => absurd c (by decide)) (fun _ => ?_)
    refine g_iconst (pc := 83) (v := 1) C dX0_add_83 (by decide) ?_
    refine g_goto (pc := 84) (tgt := 88) C dX0_add_84 (by decide) ?_
    refine s_iast (pc := 88) (q := n) C (w29 hz) rfl (by omega) (Nat.le_of_ble_eq_true rfl) dX0_add_88 ?_
    refine g_al0n (pc := 89) C dX0_add_89 ?_
    refine s_getR (pc := 90) C fX0_31 (w22 hz) rfl dX0_add_90 ?_
    refine g_il6 (pc := 93) C dX0_add_93 ?_
    refine g_al0n (pc := 95) C dX0_add_95 ?_
    refine s_getR (pc := 96) C fX0_19 (w22 hz) rfl dX0_add_96 ?_
    refine g_il6 (pc := 99) C dX0_add_99 ?_
    refine s_ialdv (pc := 101) (q := n) (v := nI k) C (w26 hz) rfl (by omega) (Nat.le_of_ble_eq_true rfl) (by simp (disch := omega) only [up_ne, up_at, upd_at]) dX0_add_101 ?_
    refine g_al0n (pc := 102) C dX0_add_102 ?_
    refine s_getR (pc := 103) C fX0_22 (w22 hz) rfl dX0_add_103 ?_
    refine g_il6 (pc := 106) C dX0_add_106 ?_
    refine s_ialdv (pc := 108) (q := n) (v := h / 10) C (w27 hz) rfl (by omega) (Nat.le_of_ble_eq_true rfl) (by simp (disch := omega) only [up_ne, up_at, upd_at]) dX0_add_108 ?_
    refine s_SI (pc := 109) (st := [(.int (nI n)), (.ref (z + 30))]) C (c_minutesOnLane (d := d - 1) (by omega) ((up (up (up (up (up (up (up σ (z + 23) n p) (z + 24) n w) (z + 25) n g) (z + 26) n (nI k)) (z + 27) n (h / 10)) (z + 28) n m) (z + 29) n 1)) (nI k) (h / 10)) (by omega) lX0_64 dX0_add_109 rfl (Nat.le_of_ble_eq_true rfl) rfl ?_
    refine s_iast (pc := 112) (q := n) C (w30 hz) rfl (by omega) (Nat.le_of_ble_eq_true rfl) dX0_add_112 ?_
    refine g_al0n (pc := 113) C dX0_add_113 ?_
    refine s_getR (pc := 114) C fX0_34 (w22 hz) rfl dX0_add_114 ?_
    refine g_il6 (pc := 117) C dX0_add_117 ?_
    refine g_iconst (pc := 119) (v := 0) C dX0_add_119 (by decide) ?_
    refine s_iast (pc := 120) (q := n) C (w31 hz) rfl (by omega) (Nat.le_of_ble_eq_true rfl) dX0_add_120 ?_
    refine g_al0n (pc := 121) C dX0_add_121 ?_
    refine s_getR (pc := 122) C fX0_37 (w22 hz) rfl dX0_add_122 ?_
    refine g_il6 (pc := 125) C dX0_add_125 ?_
    refine g_iconst (pc := 127) (v := (-1)) C dX0_add_127 (by decide) ?_
    refine s_iast (pc := 128) (q := n) C (w32 hz) rfl (by omega) (Nat.le_of_ble_eq_true rfl) dX0_add_128 ?_
    refine g_al0n (pc := 129) C dX0_add_129 ?_
    refine s_getR (pc := 130) C fX0_40 (w22 hz) rfl dX0_add_130 ?_
    refine g_il6 (pc := 133) C dX0_add_133 ?_
    refine g_iconst (pc := 135) (v := (-1)) C dX0_add_135 (by decide) ?_
    refine s_iast (pc := 136) (q := n) C (w33 hz) rfl (by omega) (Nat.le_of_ble_eq_true rfl) dX0_add_136 ?_
    refine g_al0n (pc := 137) C dX0_add_137 ?_
    refine s_getR (pc := 138) C fX0_43 (w22 hz) rfl dX0_add_138 ?_
    refine g_il6 (pc := 141) C dX0_add_141 ?_
    refine g_iconst (pc := 143) (v := (-1)) C dX0_add_143 (by decide) ?_
    refine s_iast (pc := 144) (q := n) C (w34 hz) rfl (by omega) (Nat.le_of_ble_eq_true rfl) dX0_add_144 ?_
    refine g_al0n (pc := 145) C dX0_add_145 ?_
    refine g_il6 (pc := 146) C dX0_add_146 ?_
    refine g_iconst (pc := 148) (v := 1) C dX0_add_148 (by decide) ?_
    refine g_iadd (pc := 149) C dX0_add_149 ?_
    refine s_putI (pc := 150) C pX0_46 (w22 hz) rfl dX0_add_150 ?_
    refine g_il6 (pc := 153) C dX0_add_153 ?_
    exact r_P C hr dX0_add_155 ⟨rfl, by rw [if_pos b_77]⟩
  · refine g_if_eq (pc := 80) (tgt := 87) C dX0_add_80 (by decide) (fun _ => ?_) (fun c => absurd c (by decide))
    refine g_iconst (pc := 87) (v := 0) C dX0_add_87 (by decide) ?_
    refine s_iast (pc := 88) (q := n) C (w29 hz) rfl (by omega) (Nat.le_of_ble_eq_true rfl) dX0_add_88 ?_
    refine g_al0n (pc := 89) C dX0_add_89 ?_
    refine s_getR (pc := 90) C fX0_31 (w22 hz) rfl dX0_add_90 ?_
    refine g_il6 (pc := 93) C dX0_add_93 ?_
    refine g_al0n (pc := 95) C dX0_add_95 ?_
    refine s_getR (pc := 96) C fX0_19 (w22 hz) rfl dX0_add_96 ?_
    refine g_il6 (pc := 99) C dX0_add_99 ?_
    refine s_ialdv (pc := 101) (q := n) (v := nI k) C (w26 hz) rfl (by omega) (Nat.le_of_ble_eq_true rfl) (by simp (disch := omega) only [up_ne, up_at, upd_at]) dX0_add_101 ?_
    refine g_al0n (pc := 102) C dX0_add_102 ?_
    refine s_getR (pc := 103) C fX0_22 (w22 hz) rfl dX0_add_103 ?_
    refine g_il6 (pc := 106) C dX0_add_106 ?_
    refine s_ialdv (pc := 108) (q := n) (v := h / 10) C (w27 hz) rfl (by omega) (Nat.le_of_ble_eq_true rfl) (by simp (disch := omega) only [up_ne, up_at, upd_at]) dX0_add_108 ?_
    refine s_SI (pc := 109) (st := [(.int (nI n)), (.ref (z + 30))]) C (c_minutesOnLane (d := d - 1) (by omega) ((up (up (up (up (up (up (up σ (z + 23) n p) (z + 24) n w) (z + 25) n g) (z + 26) n (nI k)) (z + 27) n (h / 10)) (z + 28) n m) (z + 29) n 0)) (nI k) (h / 10)) (by omega) lX0_64 dX0_add_109 rfl (Nat.le_of_ble_eq_true rfl) rfl ?_
    refine s_iast (pc := 112) (q := n) C (w30 hz) rfl (by omega) (Nat.le_of_ble_eq_true rfl) dX0_add_112 ?_
    refine g_al0n (pc := 113) C dX0_add_113 ?_
    refine s_getR (pc := 114) C fX0_34 (w22 hz) rfl dX0_add_114 ?_
    refine g_il6 (pc := 117) C dX0_add_117 ?_
    refine g_iconst (pc := 119) (v := 0) C dX0_add_119 (by decide) ?_
    refine s_iast (pc := 120) (q := n) C (w31 hz) rfl (by omega) (Nat.le_of_ble_eq_true rfl) dX0_add_120 ?_
    refine g_al0n (pc := 121) C dX0_add_121 ?_
    refine s_getR (pc := 122) C fX0_37 (w22 hz) rfl dX0_add_122 ?_
    refine g_il6 (pc := 125) C dX0_add_125 ?_
    refine g_iconst (pc := 127) (v := (-1)) C dX0_add_127 (by decide) ?_
    refine s_iast (pc := 128) (q := n) C (w32 hz) rfl (by omega) (Nat.le_of_ble_eq_true rfl) dX0_add_128 ?_
    refine g_al0n (pc := 129) C dX0_add_129 ?_
    refine s_getR (pc := 130) C fX0_40 (w22 hz) rfl dX0_add_130 ?_
    refine g_il6 (pc := 133) C dX0_add_133 ?_
    refine g_iconst (pc := 135) (v := (-1)) C dX0_add_135 (by decide) ?_
    refine s_iast (pc := 136) (q := n) C (w33 hz) rfl (by omega) (Nat.le_of_ble_eq_true rfl) dX0_add_136 ?_
    refine g_al0n (pc := 137) C dX0_add_137 ?_
    refine s_getR (pc := 138) C fX0_43 (w22 hz) rfl dX0_add_138 ?_
    refine g_il6 (pc := 141) C dX0_add_141 ?_
    refine g_iconst (pc := 143) (v := (-1)) C dX0_add_143 (by decide) ?_
    refine s_iast (pc := 144) (q := n) C (w34 hz) rfl (by omega) (Nat.le_of_ble_eq_true rfl) dX0_add_144 ?_
    refine g_al0n (pc := 145) C dX0_add_145 ?_
    refine g_il6 (pc := 146) C dX0_add_146 ?_
    refine g_iconst (pc := 148) (v := 1) C dX0_add_148 (by decide) ?_
    refine g_iadd (pc := 149) C dX0_add_149 ?_
    refine s_putI (pc := 150) C pX0_46 (w22 hz) rfl dX0_add_150 ?_
    refine g_il6 (pc := 153) C dX0_add_153 ?_
    exact r_P C hr dX0_add_155 ⟨rfl, by rw [if_neg b_77]⟩

