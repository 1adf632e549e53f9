/-! ===== the model: kinds and steps ===== -/
theorem sw_1_5 (x : Int32) : x = 1 ∨ x = 2 ∨ x = 3 ∨ x = 4 ∨ x = 5 ∨ (x.toInt < 1 ∨ 5 < x.toInt) := by
  by_cases h : x.toInt < 1 ∨ 5 < x.toInt
  · exact Or.inr (Or.inr (Or.inr (Or.inr (Or.inr (h)))))
  · have h2 : x.toInt = 1 ∨ x.toInt = 2 ∨ x.toInt = 3 ∨ x.toInt = 4 ∨ x.toInt = 5 := by omega
    rcases h2 with h2 | h2 | h2 | h2 | h2
    · exact Or.inl (Int32.toInt_inj.mp (h2.trans (by decide)))
    · exact Or.inr (Or.inl (Int32.toInt_inj.mp (h2.trans (by decide))))
    · exact Or.inr (Or.inr (Or.inl (Int32.toInt_inj.mp (h2.trans (by decide)))))
    · exact Or.inr (Or.inr (Or.inr (Or.inl (Int32.toInt_inj.mp (h2.trans (by decide))))))
    · exact Or.inr (Or.inr (Or.inr (Or.inr (Or.inl (Int32.toInt_inj.mp (h2.trans (by decide)))))))
theorem sw_10100_10109 (x : Int32) : x = 10100 ∨ x = 10101 ∨ x = 10102 ∨ x = 10103 ∨ x = 10104 ∨ x = 10105 ∨ x = 10106 ∨ x = 10107 ∨ x = 10108 ∨ x = 10109 ∨ (x.toInt < 10100 ∨ 10109 < x.toInt) := by
  by_cases h : x.toInt < 10100 ∨ 10109 < x.toInt
  · exact Or.inr (Or.inr (Or.inr (Or.inr (Or.inr (Or.inr (Or.inr (Or.inr (Or.inr (Or.inr (h))))))))))
  · have h2 : x.toInt = 10100 ∨ x.toInt = 10101 ∨ x.toInt = 10102 ∨ x.toInt = 10103 ∨ x.toInt = 10104 ∨ x.toInt = 10105 ∨ x.toInt = 10106 ∨ x.toInt = 10107 ∨ x.toInt = 10108 ∨ x.toInt = 10109 := by omega
    rcases h2 with h2 | h2 | h2 | h2 | h2 | h2 | h2 | h2 | h2 | h2
    · exact Or.inl (Int32.toInt_inj.mp (h2.trans (by decide)))
    · exact Or.inr (Or.inl (Int32.toInt_inj.mp (h2.trans (by decide))))
    · exact Or.inr (Or.inr (Or.inl (Int32.toInt_inj.mp (h2.trans (by decide)))))
    · exact Or.inr (Or.inr (Or.inr (Or.inl (Int32.toInt_inj.mp (h2.trans (by decide))))))
    · exact Or.inr (Or.inr (Or.inr (Or.inr (Or.inl (Int32.toInt_inj.mp (h2.trans (by decide)))))))
    · exact Or.inr (Or.inr (Or.inr (Or.inr (Or.inr (Or.inl (Int32.toInt_inj.mp (h2.trans (by decide))))))))
    · exact Or.inr (Or.inr (Or.inr (Or.inr (Or.inr (Or.inr (Or.inl (Int32.toInt_inj.mp (h2.trans (by decide)))))))))
    · exact Or.inr (Or.inr (Or.inr (Or.inr (Or.inr (Or.inr (Or.inr (Or.inl (Int32.toInt_inj.mp (h2.trans (by decide))))))))))
    · exact Or.inr (Or.inr (Or.inr (Or.inr (Or.inr (Or.inr (Or.inr (Or.inr (Or.inl (Int32.toInt_inj.mp (h2.trans (by decide)))))))))))
    · exact Or.inr (Or.inr (Or.inr (Or.inr (Or.inr (Or.inr (Or.inr (Or.inr (Or.inr (Or.inl (Int32.toInt_inj.mp (h2.trans (by decide))))))))))))
theorem c_max {d : Nat} (hd : 1 ≤ d) (σ : Sg) (a b : Int32) : CI d mJ9_max_7cf53 [.int a, .int b] σ (max32 a b) σ := by
  refine con_ofF (by decide +kernel) (catL rfl) (Nat.le_of_ble_eq_true rfl) ?_
  intro μ ω C hr
  have C : Cx μ ω "java/lang/Math" cJ9_max_7cf53 2 d := C
  have hr : (mH μ).sig.returnType = some .int := hr
  show G μ ω (RQ μ ω (pI (max32 a b) σ)) 0 [some (.int a), some (.int b)] [] (mk σ) 0 0
  refine g_il0n (pc := 0) C dJ9_max_7cf53_0 ?_
  refine g_il1n (pc := 1) C dJ9_max_7cf53_1 ?_
  refine g_icmp_lt (pc := 2) (tgt := 9) C dJ9_max_7cf53_2 (by decide) (fun c_2 => ?_) (fun c_2 => ?_)
  · refine g_il1n (pc := 9) C dJ9_max_7cf53_9 ?_
    exact r_I C hr dJ9_max_7cf53_10 (by unfold max32; first | rw [if_pos (le_of_nlt32 (by assumption))] | rw [if_neg (nle_of_lt32 (by assumption))] | (rw [if_pos (by assumption)]) | (rw [if_neg (by assumption)])) rfl
  · refine g_il0n (pc := 5) C dJ9_max_7cf53_5 ?_
    refine g_goto (pc := 6) (tgt := 10) C dJ9_max_7cf53_6 (by decide) ?_
    exact r_I C hr dJ9_max_7cf53_10 (by unfold max32; first | rw [if_pos (le_of_nlt32 (by assumption))] | rw [if_neg (nle_of_lt32 (by assumption))] | (rw [if_pos (by assumption)]) | (rw [if_neg (by assumption)])) rfl

theorem c_min {d : Nat} (hd : 1 ≤ d) (σ : Sg) (a b : Int32) : CI d mJ9_min_7cf53 [.int a, .int b] σ (min32 a b) σ := by
  refine con_ofF (by decide +kernel) (catL rfl) (Nat.le_of_ble_eq_true rfl) ?_
  intro μ ω C hr
  have C : Cx μ ω "java/lang/Math" cJ9_min_7cf53 2 d := C
  have hr : (mH μ).sig.returnType = some .int := hr
  show G μ ω (RQ μ ω (pI (min32 a b) σ)) 0 [some (.int a), some (.int b)] [] (mk σ) 0 0
  refine g_il0n (pc := 0) C dJ9_min_7cf53_0 ?_
  refine g_il1n (pc := 1) C dJ9_min_7cf53_1 ?_
  refine g_icmp_gt (pc := 2) (tgt := 9) C dJ9_min_7cf53_2 (by decide) (fun c_2 => ?_) (fun c_2 => ?_)
  · refine g_il1n (pc := 9) C dJ9_min_7cf53_9 ?_
    exact r_I C hr dJ9_min_7cf53_10 (by unfold min32; first | rw [if_pos (le_of_nlt32 (by assumption))] | rw [if_neg (nle_of_lt32 (by assumption))] | (rw [if_pos (by assumption)]) | (rw [if_neg (by assumption)])) rfl
  · refine g_il0n (pc := 5) C dJ9_min_7cf53_5 ?_
    refine g_goto (pc := 6) (tgt := 10) C dJ9_min_7cf53_6 (by decide) ?_
    exact r_I C hr dJ9_min_7cf53_10 (by unfold min32; first | rw [if_pos (le_of_nlt32 (by assumption))] | rw [if_neg (nle_of_lt32 (by assumption))] | (rw [if_pos (by assumption)]) | (rw [if_neg (by assumption)])) rfl

theorem c_X12_boundOf_0 {d : Nat} (hd : 1 ≤ d) (σ : Sg) : CI d mX12_boundOf [.int 0] σ 25 σ := by
  refine con_of (by decide) (catL rfl) (Nat.le_of_ble_eq_true rfl) ?_
  intro μ ω C hr
  have C : Cx μ ω "TowFieldModel" cX12_boundOf 1 d := C
  have hr : (mH μ).sig.returnType = some .int := hr
  show G μ ω (RQ μ ω (pI 25 σ)) 0 [some (.int 0)] [] (mk σ) 0 0
  refine g_il0n (pc := 0) C dX12_boundOf_0 ?_
  refine g_tabOut (pc := 1) (tgt := 65) C dX12_boundOf_1 (by decide) (by decide) ?_
  refine g_bipush (pc := 65) (v := 25) C dX12_boundOf_65 (by decide) ?_
  exact r_I C hr dX12_boundOf_67 rfl rfl

theorem c_X12_boundOf_2 {d : Nat} (hd : 1 ≤ d) (σ : Sg) : CI d mX12_boundOf [.int 2] σ 25 σ := by
  refine con_of (by decide) (catL rfl) (Nat.le_of_ble_eq_true rfl) ?_
  intro μ ω C hr
  have C : Cx μ ω "TowFieldModel" cX12_boundOf 1 d := C
  have hr : (mH μ).sig.returnType = some .int := hr
  show G μ ω (RQ μ ω (pI 25 σ)) 0 [some (.int 2)] [] (mk σ) 0 0
  refine g_il0n (pc := 0) C dX12_boundOf_0 ?_
  refine g_tabIn (pc := 1) (tgt := 65) (off := 64) C dX12_boundOf_1 (by decide) (by decide) (by decide) (by decide) ?_
  refine g_bipush (pc := 65) (v := 25) C dX12_boundOf_65 (by decide) ?_
  exact r_I C hr dX12_boundOf_67 rfl rfl

theorem c_X12_boundOf_1 {d : Nat} (hd : 2 ≤ d) (σ : Sg) : CI d mX12_boundOf [.int 1] σ 20 σ := by
  refine con_of (by decide) (catL rfl) (Nat.le_of_ble_eq_true rfl) ?_
  intro μ ω C hr
  have C : Cx μ ω "TowFieldModel" cX12_boundOf 1 d := C
  have hr : (mH μ).sig.returnType = some .int := hr
  show G μ ω (RQ μ ω (pI 20 σ)) 0 [some (.int 1)] [] (mk σ) 0 0
  refine g_il0n (pc := 0) C dX12_boundOf_0 ?_
  refine g_tabIn (pc := 1) (tgt := 36) (off := 35) C dX12_boundOf_1 (by decide) (by decide) (by decide) (by decide) ?_
  refine g_iconst (pc := 36) (v := 0) C dX12_boundOf_36 (by decide) ?_
  refine s_SI (pc := 37) (st := []) C (c_X12_boundOf_0 (d := d - 1) (by omega) σ) (by omega) lX12_106 dX12_boundOf_37 rfl (Nat.le_of_ble_eq_true rfl) rfl ?_
  refine g_iconst (pc := 40) (v := 5) C dX12_boundOf_40 (by decide) ?_
  refine g_isub (pc := 41) C dX12_boundOf_41 ?_
  exact r_I C hr dX12_boundOf_42 (by decide) rfl

theorem c_X12_boundOf {d : Nat} (hd : 3 ≤ d) (σ : Sg) (k : Int32) : CI d mX12_boundOf [.int k] σ (boundK k) σ := by
  refine con_of (by decide) (catL rfl) (Nat.le_of_ble_eq_true rfl) ?_
  intro μ ω C hr
  have C : Cx μ ω "TowFieldModel" cX12_boundOf 1 d := C
  have hr : (mH μ).sig.returnType = some .int := hr
  show G μ ω (RQ μ ω (pI (boundK k) σ)) 0 [some (.int k)] [] (mk σ) 0 0
  refine g_il0n (pc := 0) C dX12_boundOf_0 ?_
  rcases sw_1_5 k with w_1 | w_1 | w_1 | w_1 | w_1 | w_1
  · refine g_tabE (pc := 1) (tgt := 36) (off := 35) (v := 1) C dX12_boundOf_1 w_1 (by decide) (by decide) (by decide) (by decide) ?_
    refine g_iconst (pc := 36) (v := 0) C dX12_boundOf_36 (by decide) ?_
    refine s_SI (pc := 37) (st := []) C (c_X12_boundOf_0 (d := d - 1) (by omega) σ) (by omega) lX12_106 dX12_boundOf_37 rfl (Nat.le_of_ble_eq_true rfl) rfl ?_
    refine g_iconst (pc := 40) (v := 5) C dX12_boundOf_40 (by decide) ?_
    refine g_isub (pc := 41) C dX12_boundOf_41 ?_
    exact r_I C hr dX12_boundOf_42 (by rw [w_1]; decide) rfl
  · refine g_tabE (pc := 1) (tgt := 65) (off := 64) (v := 2) C dX12_boundOf_1 w_1 (by decide) (by decide) (by decide) (by decide) ?_
    refine g_bipush (pc := 65) (v := 25) C dX12_boundOf_65 (by decide) ?_
    exact r_I C hr dX12_boundOf_67 (by rw [w_1]; decide) rfl
  · refine g_tabE (pc := 1) (tgt := 43) (off := 42) (v := 3) C dX12_boundOf_1 w_1 (by decide) (by decide) (by decide) (by decide) ?_
    refine g_iconst (pc := 43) (v := 1) C dX12_boundOf_43 (by decide) ?_
    refine s_SI (pc := 44) (st := []) C (c_X12_boundOf_1 (d := d - 1) (by omega) σ) (by omega) lX12_106 dX12_boundOf_44 rfl (Nat.le_of_ble_eq_true rfl) rfl ?_
    refine g_iconst (pc := 47) (v := 2) C dX12_boundOf_47 (by decide) ?_
    refine g_idiv (pc := 48) C dX12_boundOf_48 (by decide) ?_
    exact r_I C hr dX12_boundOf_49 (by rw [w_1]; decide) rfl
  · refine g_tabE (pc := 1) (tgt := 50) (off := 49) (v := 4) C dX12_boundOf_1 w_1 (by decide) (by decide) (by decide) (by decide) ?_
    refine g_iconst (pc := 50) (v := 0) C dX12_boundOf_50 (by decide) ?_
    refine s_SI (pc := 51) (st := []) C (c_X12_boundOf_0 (d := d - 1) (by omega) σ) (by omega) lX12_106 dX12_boundOf_51 rfl (Nat.le_of_ble_eq_true rfl) rfl ?_
    refine g_bipush (pc := 54) (v := 10) C dX12_boundOf_54 (by decide) ?_
    refine g_isub (pc := 56) C dX12_boundOf_56 ?_
    exact r_I C hr dX12_boundOf_57 (by rw [w_1]; decide) rfl
  · refine g_tabE (pc := 1) (tgt := 58) (off := 57) (v := 5) C dX12_boundOf_1 w_1 (by decide) (by decide) (by decide) (by decide) ?_
    refine g_iconst (pc := 58) (v := 2) C dX12_boundOf_58 (by decide) ?_
    refine s_SI (pc := 59) (st := []) C (c_X12_boundOf_2 (d := d - 1) (by omega) σ) (by omega) lX12_106 dX12_boundOf_59 rfl (Nat.le_of_ble_eq_true rfl) rfl ?_
    refine g_iconst (pc := 62) (v := 3) C dX12_boundOf_62 (by decide) ?_
    refine g_iadd (pc := 63) C dX12_boundOf_63 ?_
    exact r_I C hr dX12_boundOf_64 (by rw [w_1]; decide) rfl
  · refine g_tabOut (pc := 1) (tgt := 65) C dX12_boundOf_1 w_1 (by decide) ?_
    refine g_bipush (pc := 65) (v := 25) C dX12_boundOf_65 (by decide) ?_
    exact r_I C hr dX12_boundOf_67 (by unfold boundK; rw [if_neg (fun e => by rw [e] at w_1; exact absurd w_1 (by decide)), if_neg (fun e => by rw [e] at w_1; exact absurd w_1 (by decide)), if_neg (fun e => by rw [e] at w_1; exact absurd w_1 (by decide)), if_neg (fun e => by rw [e] at w_1; exact absurd w_1 (by decide))]) rfl

theorem c_X12_spanOf_0 {d : Nat} (hd : 1 ≤ d) (σ : Sg) (h : Int32) : CI d mX12_spanOf [.int 0, .int h] σ 1 σ := by
  refine con_of (by decide) (catL rfl) (Nat.le_of_ble_eq_true rfl) ?_
  intro μ ω C hr
  have C : Cx μ ω "TowFieldModel" cX12_spanOf 2 d := C
  have hr : (mH μ).sig.returnType = some .int := hr
  show G μ ω (RQ μ ω (pI 1 σ)) 0 [some (.int 0), some (.int h)] [] (mk σ) 0 0
  refine g_il0n (pc := 0) C dX12_spanOf_0 ?_
  refine g_tabOut (pc := 1) (tgt := 82) C dX12_spanOf_1 (by decide) (by decide) ?_
  refine g_iconst (pc := 82) (v := 1) C dX12_spanOf_82 (by decide) ?_
  exact r_I C hr dX12_spanOf_83 rfl rfl

theorem c_X12_spanOf_1 {d : Nat} (hd : 2 ≤ d) (σ : Sg) (h : Int32) : CI d mX12_spanOf [.int 1, .int h] σ 2 σ := by
  refine con_of (by decide) (catL rfl) (Nat.le_of_ble_eq_true rfl) ?_
  intro μ ω C hr
  have C : Cx μ ω "TowFieldModel" cX12_spanOf 2 d := C
  have hr : (mH μ).sig.returnType = some .int := hr
  show G μ ω (RQ μ ω (pI 2 σ)) 0 [some (.int 1), some (.int h)] [] (mk σ) 0 0
  refine g_il0n (pc := 0) C dX12_spanOf_0 ?_
  refine g_tabIn (pc := 1) (tgt := 36) (off := 35) C dX12_spanOf_1 (by decide) (by decide) (by decide) (by decide) ?_
  refine g_iconst (pc := 36) (v := 0) C dX12_spanOf_36 (by decide) ?_
  refine g_il1n (pc := 37) C dX12_spanOf_37 ?_
  refine s_SI (pc := 38) (st := []) C (c_X12_spanOf_0 (d := d - 1) (by omega) σ h) (by omega) lX12_109 dX12_spanOf_38 rfl (Nat.le_of_ble_eq_true rfl) rfl ?_
  refine g_iconst (pc := 41) (v := 1) C dX12_spanOf_41 (by decide) ?_
  refine g_iadd (pc := 42) C dX12_spanOf_42 ?_
  exact r_I C hr dX12_spanOf_43 (by decide) rfl

theorem c_X12_spanOf_2 {d : Nat} (hd : 2 ≤ d) (σ : Sg) (h : Int32) : CI d mX12_spanOf [.int 2, .int h] σ (1 + h / 5) σ := by
  refine con_of (by decide) (catL rfl) (Nat.le_of_ble_eq_true rfl) ?_
  intro μ ω C hr
  have C : Cx μ ω "TowFieldModel" cX12_spanOf 2 d := C
  have hr : (mH μ).sig.returnType = some .int := hr
  show G μ ω (RQ μ ω (pI (1 + h / 5) σ)) 0 [some (.int 2), some (.int h)] [] (mk σ) 0 0
  refine g_il0n (pc := 0) C dX12_spanOf_0 ?_
  refine g_tabIn (pc := 1) (tgt := 52) (off := 51) C dX12_spanOf_1 (by decide) (by decide) (by decide) (by decide) ?_
  refine g_iconst (pc := 52) (v := 0) C dX12_spanOf_52 (by decide) ?_
  refine g_il1n (pc := 53) C dX12_spanOf_53 ?_
  refine s_SI (pc := 54) (st := []) C (c_X12_spanOf_0 (d := d - 1) (by omega) σ h) (by omega) lX12_109 dX12_spanOf_54 rfl (Nat.le_of_ble_eq_true rfl) rfl ?_
  refine g_il1n (pc := 57) C dX12_spanOf_57 ?_
  refine g_iconst (pc := 58) (v := 5) C dX12_spanOf_58 (by decide) ?_
  refine g_idiv (pc := 59) C dX12_spanOf_59 (by decide) ?_
  refine g_iadd (pc := 60) C dX12_spanOf_60 ?_
  exact r_I C hr dX12_spanOf_61 rfl rfl

theorem c_X12_spanOf {d : Nat} (hd : 3 ≤ d) (σ : Sg) (k h : Int32) : CI d mX12_spanOf [.int k, .int h] σ (spanK k h) σ := by
  refine con_of (by decide) (catL rfl) (Nat.le_of_ble_eq_true rfl) ?_
  intro μ ω C hr
  have C : Cx μ ω "TowFieldModel" cX12_spanOf 2 d := C
  have hr : (mH μ).sig.returnType = some .int := hr
  show G μ ω (RQ μ ω (pI (spanK k h) σ)) 0 [some (.int k), some (.int h)] [] (mk σ) 0 0
  refine g_il0n (pc := 0) C dX12_spanOf_0 ?_
  rcases sw_1_5 k with w_1 | w_1 | w_1 | w_1 | w_1 | w_1
  · refine g_tabE (pc := 1) (tgt := 36) (off := 35) (v := 1) C dX12_spanOf_1 w_1 (by decide) (by decide) (by decide) (by decide) ?_
    refine g_iconst (pc := 36) (v := 0) C dX12_spanOf_36 (by decide) ?_
    refine g_il1n (pc := 37) C dX12_spanOf_37 ?_
    refine s_SI (pc := 38) (st := []) C (c_X12_spanOf_0 (d := d - 1) (by omega) σ h) (by omega) lX12_109 dX12_spanOf_38 rfl (Nat.le_of_ble_eq_true rfl) rfl ?_
    refine g_iconst (pc := 41) (v := 1) C dX12_spanOf_41 (by decide) ?_
    refine g_iadd (pc := 42) C dX12_spanOf_42 ?_
    exact r_I C hr dX12_spanOf_43 (by rw [w_1]; first | rfl | decide | simp [spanK, max32]) rfl
  · refine g_tabE (pc := 1) (tgt := 52) (off := 51) (v := 2) C dX12_spanOf_1 w_1 (by decide) (by decide) (by decide) (by decide) ?_
    refine g_iconst (pc := 52) (v := 0) C dX12_spanOf_52 (by decide) ?_
    refine g_il1n (pc := 53) C dX12_spanOf_53 ?_
    refine s_SI (pc := 54) (st := []) C (c_X12_spanOf_0 (d := d - 1) (by omega) σ h) (by omega) lX12_109 dX12_spanOf_54 rfl (Nat.le_of_ble_eq_true rfl) rfl ?_
    refine g_il1n (pc := 57) C dX12_spanOf_57 ?_
    refine g_iconst (pc := 58) (v := 5) C dX12_spanOf_58 (by decide) ?_
    refine g_idiv (pc := 59) C dX12_spanOf_59 (by decide) ?_
    refine g_iadd (pc := 60) C dX12_spanOf_60 ?_
    exact r_I C hr dX12_spanOf_61 (by rw [w_1]; first | rfl | decide | simp [spanK, max32]) rfl
  · refine g_tabE (pc := 1) (tgt := 44) (off := 43) (v := 3) C dX12_spanOf_1 w_1 (by decide) (by decide) (by decide) (by decide) ?_
    refine g_iconst (pc := 44) (v := 2) C dX12_spanOf_44 (by decide) ?_
    refine g_iconst (pc := 45) (v := 1) C dX12_spanOf_45 (by decide) ?_
    refine g_il1n (pc := 46) C dX12_spanOf_46 ?_
    refine s_SI (pc := 47) (st := [(.int 2)]) C (c_X12_spanOf_1 (d := d - 1) (by omega) σ h) (by omega) lX12_109 dX12_spanOf_47 rfl (Nat.le_of_ble_eq_true rfl) rfl ?_
    refine g_imul (pc := 50) C dX12_spanOf_50 ?_
    exact r_I C hr dX12_spanOf_51 (by rw [w_1]; first | rfl | decide | simp [spanK, max32]) rfl
  · refine g_tabE (pc := 1) (tgt := 62) (off := 61) (v := 4) C dX12_spanOf_1 w_1 (by decide) (by decide) (by decide) (by decide) ?_
    refine g_iconst (pc := 62) (v := 1) C dX12_spanOf_62 (by decide) ?_
    refine g_iconst (pc := 63) (v := 2) C dX12_spanOf_63 (by decide) ?_
    refine g_il1n (pc := 64) C dX12_spanOf_64 ?_
    refine s_SI (pc := 65) (st := [(.int 1)]) C (c_X12_spanOf_2 (d := d - 1) (by omega) σ h) (by omega) lX12_109 dX12_spanOf_65 rfl (Nat.le_of_ble_eq_true rfl) rfl ?_
    refine g_iconst (pc := 68) (v := 1) C dX12_spanOf_68 (by decide) ?_
    refine g_isub (pc := 69) C dX12_spanOf_69 ?_
    refine s_SI (pc := 70) (st := []) C (c_max (d := d - 1) (by omega) σ 1 ((1 + h / 5) - 1)) (by omega) lX12_112 dX12_spanOf_70 rfl (Nat.le_of_ble_eq_true rfl) rfl ?_
    exact r_I C hr dX12_spanOf_73 (by rw [w_1]; first | rfl | decide | simp [spanK, max32]) rfl
  · refine g_tabE (pc := 1) (tgt := 74) (off := 73) (v := 5) C dX12_spanOf_1 w_1 (by decide) (by decide) (by decide) (by decide) ?_
    refine g_iconst (pc := 74) (v := 2) C dX12_spanOf_74 (by decide) ?_
    refine g_il1n (pc := 75) C dX12_spanOf_75 ?_
    refine s_SI (pc := 76) (st := []) C (c_X12_spanOf_2 (d := d - 1) (by omega) σ h) (by omega) lX12_109 dX12_spanOf_76 rfl (Nat.le_of_ble_eq_true rfl) rfl ?_
    refine g_iconst (pc := 79) (v := 4) C dX12_spanOf_79 (by decide) ?_
    refine g_iadd (pc := 80) C dX12_spanOf_80 ?_
    exact r_I C hr dX12_spanOf_81 (by rw [w_1]; first | rfl | decide | simp [spanK, max32]) rfl
  · refine g_tabOut (pc := 1) (tgt := 82) C dX12_spanOf_1 w_1 (by decide) ?_
    refine g_iconst (pc := 82) (v := 1) C dX12_spanOf_82 (by decide) ?_
    exact r_I C hr dX12_spanOf_83 (by unfold spanK; rw [if_neg (fun e => by rw [e] at w_1; exact absurd w_1 (by decide)), if_neg (fun e => by rw [e] at w_1; exact absurd w_1 (by decide)), if_neg (fun e => by rw [e] at w_1; exact absurd w_1 (by decide)), if_neg (fun e => by rw [e] at w_1; exact absurd w_1 (by decide)), if_neg (fun e => by rw [e] at w_1; exact absurd w_1 (by decide))]) rfl

theorem c_X12_above_0 {d : Nat} (hd : 1 ≤ d) (σ : Sg) : CI d mX12_above [.int 0] σ ((-1)) σ := by
  refine con_of (by decide) (catL rfl) (Nat.le_of_ble_eq_true rfl) ?_
  intro μ ω C hr
  have C : Cx μ ω "TowFieldModel" cX12_above 1 d := C
  have hr : (mH μ).sig.returnType = some .int := hr
  show G μ ω (RQ μ ω (pI ((-1)) σ)) 0 [some (.int 0)] [] (mk σ) 0 0
  refine g_il0n (pc := 0) C dX12_above_0 ?_
  refine g_iconst (pc := 1) (v := 3) C dX12_above_1 (by decide) ?_
  refine g_icmp_ne (pc := 2) (tgt := 9) C dX12_above_2 (by decide) (fun _ => ?_) (fun c => absurd c (by decide))
  refine g_il0n (pc := 9) C dX12_above_9 ?_
  refine g_iconst (pc := 10) (v := 4) C dX12_above_10 (by decide) ?_
  refine g_icmp_eq (pc := 11) (tgt := 19) C dX12_above_11 (by decide) (fun c => absurd c (by decide)) (fun _ => ?_)
  refine g_il0n (pc := 14) C dX12_above_14 ?_
  refine g_iconst (pc := 15) (v := 5) C dX12_above_15 (by decide) ?_
  refine g_icmp_ne (pc := 16) (tgt := 23) C dX12_above_16 (by decide) (fun _ => ?_) (fun c => absurd c (by decide))
  refine g_il0n (pc := 23) C dX12_above_23 ?_
  refine g_if_ne (pc := 24) (tgt := 31) C dX12_above_24 (by decide) (fun c => absurd c (by decide)) (fun _ => ?_)
  refine g_iconst (pc := 27) (v := (-1)) C dX12_above_27 (by decide) ?_
  refine g_goto (pc := 28) (tgt := 32) C dX12_above_28 (by decide) ?_
  exact r_I C hr dX12_above_32 rfl rfl

theorem c_X12_above_1 {d : Nat} (hd : 1 ≤ d) (σ : Sg) : CI d mX12_above [.int 1] σ 0 σ := by
  refine con_of (by decide) (catL rfl) (Nat.le_of_ble_eq_true rfl) ?_
  intro μ ω C hr
  have C : Cx μ ω "TowFieldModel" cX12_above 1 d := C
  have hr : (mH μ).sig.returnType = some .int := hr
  show G μ ω (RQ μ ω (pI 0 σ)) 0 [some (.int 1)] [] (mk σ) 0 0
  refine g_il0n (pc := 0) C dX12_above_0 ?_
  refine g_iconst (pc := 1) (v := 3) C dX12_above_1 (by decide) ?_
  refine g_icmp_ne (pc := 2) (tgt := 9) C dX12_above_2 (by decide) (fun _ => ?_) (fun c => absurd c (by decide))
  refine g_il0n (pc := 9) C dX12_above_9 ?_
  refine g_iconst (pc := 10) (v := 4) C dX12_above_10 (by decide) ?_
  refine g_icmp_eq (pc := 11) (tgt := 19) C dX12_above_11 (by decide) (fun c => absurd c (by decide)) (fun _ => ?_)
  refine g_il0n (pc := 14) C dX12_above_14 ?_
  refine g_iconst (pc := 15) (v := 5) C dX12_above_15 (by decide) ?_
  refine g_icmp_ne (pc := 16) (tgt := 23) C dX12_above_16 (by decide) (fun _ => ?_) (fun c => absurd c (by decide))
  refine g_il0n (pc := 23) C dX12_above_23 ?_
  refine g_if_ne (pc := 24) (tgt := 31) C dX12_above_24 (by decide) (fun _ => ?_) (fun c => absurd c (by decide))
  refine g_iconst (pc := 31) (v := 0) C dX12_above_31 (by decide) ?_
  exact r_I C hr dX12_above_32 rfl rfl

theorem c_X12_above_2 {d : Nat} (hd : 1 ≤ d) (σ : Sg) : CI d mX12_above [.int 2] σ 0 σ := by
  refine con_of (by decide) (catL rfl) (Nat.le_of_ble_eq_true rfl) ?_
  intro μ ω C hr
  have C : Cx μ ω "TowFieldModel" cX12_above 1 d := C
  have hr : (mH μ).sig.returnType = some .int := hr
  show G μ ω (RQ μ ω (pI 0 σ)) 0 [some (.int 2)] [] (mk σ) 0 0
  refine g_il0n (pc := 0) C dX12_above_0 ?_
  refine g_iconst (pc := 1) (v := 3) C dX12_above_1 (by decide) ?_
  refine g_icmp_ne (pc := 2) (tgt := 9) C dX12_above_2 (by decide) (fun _ => ?_) (fun c => absurd c (by decide))
  refine g_il0n (pc := 9) C dX12_above_9 ?_
  refine g_iconst (pc := 10) (v := 4) C dX12_above_10 (by decide) ?_
  refine g_icmp_eq (pc := 11) (tgt := 19) C dX12_above_11 (by decide) (fun c => absurd c (by decide)) (fun _ => ?_)
  refine g_il0n (pc := 14) C dX12_above_14 ?_
  refine g_iconst (pc := 15) (v := 5) C dX12_above_15 (by decide) ?_
  refine g_icmp_ne (pc := 16) (tgt := 23) C dX12_above_16 (by decide) (fun _ => ?_) (fun c => absurd c (by decide))
  refine g_il0n (pc := 23) C dX12_above_23 ?_
  refine g_if_ne (pc := 24) (tgt := 31) C dX12_above_24 (by decide) (fun _ => ?_) (fun c => absurd c (by decide))
  refine g_iconst (pc := 31) (v := 0) C dX12_above_31 (by decide) ?_
  exact r_I C hr dX12_above_32 rfl rfl

theorem c_X12_above_3 {d : Nat} (hd : 1 ≤ d) (σ : Sg) : CI d mX12_above [.int 3] σ 1 σ := by
  refine con_of (by decide) (catL rfl) (Nat.le_of_ble_eq_true rfl) ?_
  intro μ ω C hr
  have C : Cx μ ω "TowFieldModel" cX12_above 1 d := C
  have hr : (mH μ).sig.returnType = some .int := hr
  show G μ ω (RQ μ ω (pI 1 σ)) 0 [some (.int 3)] [] (mk σ) 0 0
  refine g_il0n (pc := 0) C dX12_above_0 ?_
  refine g_iconst (pc := 1) (v := 3) C dX12_above_1 (by decide) ?_
  refine g_icmp_ne (pc := 2) (tgt := 9) C dX12_above_2 (by decide) (fun c => absurd c (by decide)) (fun _ => ?_)
  refine g_iconst (pc := 5) (v := 1) C dX12_above_5 (by decide) ?_
  refine g_goto (pc := 6) (tgt := 32) C dX12_above_6 (by decide) ?_
  exact r_I C hr dX12_above_32 rfl rfl

theorem c_X12_above_4 {d : Nat} (hd : 1 ≤ d) (σ : Sg) : CI d mX12_above [.int 4] σ 2 σ := by
  refine con_of (by decide) (catL rfl) (Nat.le_of_ble_eq_true rfl) ?_
  intro μ ω C hr
  have C : Cx μ ω "TowFieldModel" cX12_above 1 d := C
  have hr : (mH μ).sig.returnType = some .int := hr
  show G μ ω (RQ μ ω (pI 2 σ)) 0 [some (.int 4)] [] (mk σ) 0 0
  refine g_il0n (pc := 0) C dX12_above_0 ?_
  refine g_iconst (pc := 1) (v := 3) C dX12_above_1 (by decide) ?_
  refine g_icmp_ne (pc := 2) (tgt := 9) C dX12_above_2 (by decide) (fun _ => ?_) (fun c => absurd c (by decide))
  refine g_il0n (pc := 9) C dX12_above_9 ?_
  refine g_iconst (pc := 10) (v := 4) C dX12_above_10 (by decide) ?_
  refine g_icmp_eq (pc := 11) (tgt := 19) C dX12_above_11 (by decide) (fun _ => ?_) (fun c => absurd c (by decide))
  refine g_iconst (pc := 19) (v := 2) C dX12_above_19 (by decide) ?_
  refine g_goto (pc := 20) (tgt := 32) C dX12_above_20 (by decide) ?_
  exact r_I C hr dX12_above_32 rfl rfl

theorem c_X12_above_5 {d : Nat} (hd : 1 ≤ d) (σ : Sg) : CI d mX12_above [.int 5] σ 2 σ := by
  refine con_of (by decide) (catL rfl) (Nat.le_of_ble_eq_true rfl) ?_
  intro μ ω C hr
  have C : Cx μ ω "TowFieldModel" cX12_above 1 d := C
  have hr : (mH μ).sig.returnType = some .int := hr
  show G μ ω (RQ μ ω (pI 2 σ)) 0 [some (.int 5)] [] (mk σ) 0 0
  refine g_il0n (pc := 0) C dX12_above_0 ?_
  refine g_iconst (pc := 1) (v := 3) C dX12_above_1 (by decide) ?_
  refine g_icmp_ne (pc := 2) (tgt := 9) C dX12_above_2 (by decide) (fun _ => ?_) (fun c => absurd c (by decide))
  refine g_il0n (pc := 9) C dX12_above_9 ?_
  refine g_iconst (pc := 10) (v := 4) C dX12_above_10 (by decide) ?_
  refine g_icmp_eq (pc := 11) (tgt := 19) C dX12_above_11 (by decide) (fun c => absurd c (by decide)) (fun _ => ?_)
  refine g_il0n (pc := 14) C dX12_above_14 ?_
  refine g_iconst (pc := 15) (v := 5) C dX12_above_15 (by decide) ?_
  refine g_icmp_ne (pc := 16) (tgt := 23) C dX12_above_16 (by decide) (fun c => absurd c (by decide)) (fun _ => ?_)
  refine g_iconst (pc := 19) (v := 2) C dX12_above_19 (by decide) ?_
  refine g_goto (pc := 20) (tgt := 32) C dX12_above_20 (by decide) ?_
  exact r_I C hr dX12_above_32 rfl rfl

theorem c_X12_isUnder_0 {d : Nat} (hd : 2 ≤ d) (σ : Sg) (q : Int32) : CB d mX12_isUnder [.int 0, .int q] σ (undK 0 q = true) σ := by
  refine con_of (by decide) (catL rfl) (Nat.le_of_ble_eq_true rfl) ?_
  intro μ ω C hr
  have C : Cx μ ω "TowFieldModel" cX12_isUnder 3 d := C
  have hr : (mH μ).sig.returnType = some .boolean := hr
  show G μ ω (RQ μ ω (pB (undK 0 q = true) σ)) 0 [some (.int 0), some (.int q), none] [] (mk σ) 0 0
  refine g_il0n (pc := 0) C dX12_isUnder_0 ?_
  refine g_is2n (pc := 1) C dX12_isUnder_1 ?_
  refine g_il2n (pc := 2) C dX12_isUnder_2 ?_
  refine g_if_lt (pc := 3) (tgt := 19) C dX12_isUnder_3 (by decide) (fun c => absurd c (by decide)) (fun _ => ?_)
  refine g_il2n (pc := 6) C dX12_isUnder_6 ?_
  refine g_il1n (pc := 7) C dX12_isUnder_7 ?_
  refine g_icmp_eq (pc := 8) (tgt := 19) C dX12_isUnder_8 (by decide) (fun c_8 => ?_) (fun c_8 => ?_)
  · refine g_il2n (pc := 19) C dX12_isUnder_19 ?_
    refine g_if_lt (pc := 20) (tgt := 27) C dX12_isUnder_20 (by decide) (fun c => absurd c (by decide)) (fun _ => ?_)
    refine g_iconst (pc := 23) (v := 1) C dX12_isUnder_23 (by decide) ?_
    refine g_goto (pc := 24) (tgt := 28) C dX12_isUnder_24 (by decide) ?_
    exact r_B1 C hr dX12_isUnder_28 (by simp_all [undK]) rfl
  · refine g_il2n (pc := 11) C dX12_isUnder_11 ?_
    refine s_SI (pc := 12) (st := []) C (c_X12_above_0 (d := d - 1) (by omega) σ) (by omega) lX12_120 dX12_isUnder_12 rfl (Nat.le_of_ble_eq_true rfl) rfl ?_
    refine g_is2n (pc := 15) C dX12_isUnder_15 ?_
    refine g_goto (pc := 16) (tgt := 2) C dX12_isUnder_16 (by decide) ?_
    refine g_il2n (pc := 2) C dX12_isUnder_2 ?_
    refine g_if_lt (pc := 3) (tgt := 19) C dX12_isUnder_3 (by decide) (fun _ => ?_) (fun c => absurd c (by decide))
    refine g_il2n (pc := 19) C dX12_isUnder_19 ?_
    refine g_if_lt (pc := 20) (tgt := 27) C dX12_isUnder_20 (by decide) (fun _ => ?_) (fun c => absurd c (by decide))
    refine g_iconst (pc := 27) (v := 0) C dX12_isUnder_27 (by decide) ?_
    exact r_B0 C hr dX12_isUnder_28 (by simp_all [undK, eq_comm]) rfl

theorem c_X12_isUnder_1 {d : Nat} (hd : 2 ≤ d) (σ : Sg) (q : Int32) : CB d mX12_isUnder [.int 1, .int q] σ (undK 1 q = true) σ := by
  refine con_of (by decide) (catL rfl) (Nat.le_of_ble_eq_true rfl) ?_
  intro μ ω C hr
  have C : Cx μ ω "TowFieldModel" cX12_isUnder 3 d := C
  have hr : (mH μ).sig.returnType = some .boolean := hr
  show G μ ω (RQ μ ω (pB (undK 1 q = true) σ)) 0 [some (.int 1), some (.int q), none] [] (mk σ) 0 0
  refine g_il0n (pc := 0) C dX12_isUnder_0 ?_
  refine g_is2n (pc := 1) C dX12_isUnder_1 ?_
  refine g_il2n (pc := 2) C dX12_isUnder_2 ?_
  refine g_if_lt (pc := 3) (tgt := 19) C dX12_isUnder_3 (by decide) (fun c => absurd c (by decide)) (fun _ => ?_)
  refine g_il2n (pc := 6) C dX12_isUnder_6 ?_
  refine g_il1n (pc := 7) C dX12_isUnder_7 ?_
  refine g_icmp_eq (pc := 8) (tgt := 19) C dX12_isUnder_8 (by decide) (fun c_8 => ?_) (fun c_8 => ?_)
  · refine g_il2n (pc := 19) C dX12_isUnder_19 ?_
    refine g_if_lt (pc := 20) (tgt := 27) C dX12_isUnder_20 (by decide) (fun c => absurd c (by decide)) (fun _ => ?_)
    refine g_iconst (pc := 23) (v := 1) C dX12_isUnder_23 (by decide) ?_
    refine g_goto (pc := 24) (tgt := 28) C dX12_isUnder_24 (by decide) ?_
    exact r_B1 C hr dX12_isUnder_28 (by simp_all [undK]) rfl
  · refine g_il2n (pc := 11) C dX12_isUnder_11 ?_
    refine s_SI (pc := 12) (st := []) C (c_X12_above_1 (d := d - 1) (by omega) σ) (by omega) lX12_120 dX12_isUnder_12 rfl (Nat.le_of_ble_eq_true rfl) rfl ?_
    refine g_is2n (pc := 15) C dX12_isUnder_15 ?_
    refine g_goto (pc := 16) (tgt := 2) C dX12_isUnder_16 (by decide) ?_
    refine g_il2n (pc := 2) C dX12_isUnder_2 ?_
    refine g_if_lt (pc := 3) (tgt := 19) C dX12_isUnder_3 (by decide) (fun c => absurd c (by decide)) (fun _ => ?_)
    refine g_il2n (pc := 6) C dX12_isUnder_6 ?_
    refine g_il1n (pc := 7) C dX12_isUnder_7 ?_
    refine g_icmp_eq (pc := 8) (tgt := 19) C dX12_isUnder_8 (by decide) (fun c_8 => ?_) (fun c_8 => ?_)
    · refine g_il2n (pc := 19) C dX12_isUnder_19 ?_
      refine g_if_lt (pc := 20) (tgt := 27) C dX12_isUnder_20 (by decide) (fun c => absurd c (by decide)) (fun _ => ?_)
      refine g_iconst (pc := 23) (v := 1) C dX12_isUnder_23 (by decide) ?_
      refine g_goto (pc := 24) (tgt := 28) C dX12_isUnder_24 (by decide) ?_
      exact r_B1 C hr dX12_isUnder_28 (by simp_all [undK]) rfl
    · refine g_il2n (pc := 11) C dX12_isUnder_11 ?_
      refine s_SI (pc := 12) (st := []) C (c_X12_above_0 (d := d - 1) (by omega) σ) (by omega) lX12_120 dX12_isUnder_12 rfl (Nat.le_of_ble_eq_true rfl) rfl ?_
      refine g_is2n (pc := 15) C dX12_isUnder_15 ?_
      refine g_goto (pc := 16) (tgt := 2) C dX12_isUnder_16 (by decide) ?_
      refine g_il2n (pc := 2) C dX12_isUnder_2 ?_
      refine g_if_lt (pc := 3) (tgt := 19) C dX12_isUnder_3 (by decide) (fun _ => ?_) (fun c => absurd c (by decide))
      refine g_il2n (pc := 19) C dX12_isUnder_19 ?_
      refine g_if_lt (pc := 20) (tgt := 27) C dX12_isUnder_20 (by decide) (fun _ => ?_) (fun c => absurd c (by decide))
      refine g_iconst (pc := 27) (v := 0) C dX12_isUnder_27 (by decide) ?_
      exact r_B0 C hr dX12_isUnder_28 (by simp_all [undK, eq_comm]) rfl

theorem c_X12_isUnder_2 {d : Nat} (hd : 2 ≤ d) (σ : Sg) (q : Int32) : CB d mX12_isUnder [.int 2, .int q] σ (undK 2 q = true) σ := by
  refine con_of (by decide) (catL rfl) (Nat.le_of_ble_eq_true rfl) ?_
  intro μ ω C hr
  have C : Cx μ ω "TowFieldModel" cX12_isUnder 3 d := C
  have hr : (mH μ).sig.returnType = some .boolean := hr
  show G μ ω (RQ μ ω (pB (undK 2 q = true) σ)) 0 [some (.int 2), some (.int q), none] [] (mk σ) 0 0
  refine g_il0n (pc := 0) C dX12_isUnder_0 ?_
  refine g_is2n (pc := 1) C dX12_isUnder_1 ?_
  refine g_il2n (pc := 2) C dX12_isUnder_2 ?_
  refine g_if_lt (pc := 3) (tgt := 19) C dX12_isUnder_3 (by decide) (fun c => absurd c (by decide)) (fun _ => ?_)
  refine g_il2n (pc := 6) C dX12_isUnder_6 ?_
  refine g_il1n (pc := 7) C dX12_isUnder_7 ?_
  refine g_icmp_eq (pc := 8) (tgt := 19) C dX12_isUnder_8 (by decide) (fun c_8 => ?_) (fun c_8 => ?_)
  · refine g_il2n (pc := 19) C dX12_isUnder_19 ?_
    refine g_if_lt (pc := 20) (tgt := 27) C dX12_isUnder_20 (by decide) (fun c => absurd c (by decide)) (fun _ => ?_)
    refine g_iconst (pc := 23) (v := 1) C dX12_isUnder_23 (by decide) ?_
    refine g_goto (pc := 24) (tgt := 28) C dX12_isUnder_24 (by decide) ?_
    exact r_B1 C hr dX12_isUnder_28 (by simp_all [undK]) rfl
  · refine g_il2n (pc := 11) C dX12_isUnder_11 ?_
    refine s_SI (pc := 12) (st := []) C (c_X12_above_2 (d := d - 1) (by omega) σ) (by omega) lX12_120 dX12_isUnder_12 rfl (Nat.le_of_ble_eq_true rfl) rfl ?_
    refine g_is2n (pc := 15) C dX12_isUnder_15 ?_
    refine g_goto (pc := 16) (tgt := 2) C dX12_isUnder_16 (by decide) ?_
    refine g_il2n (pc := 2) C dX12_isUnder_2 ?_
    refine g_if_lt (pc := 3) (tgt := 19) C dX12_isUnder_3 (by decide) (fun c => absurd c (by decide)) (fun _ => ?_)
    refine g_il2n (pc := 6) C dX12_isUnder_6 ?_
    refine g_il1n (pc := 7) C dX12_isUnder_7 ?_
    refine g_icmp_eq (pc := 8) (tgt := 19) C dX12_isUnder_8 (by decide) (fun c_8 => ?_) (fun c_8 => ?_)
    · refine g_il2n (pc := 19) C dX12_isUnder_19 ?_
      refine g_if_lt (pc := 20) (tgt := 27) C dX12_isUnder_20 (by decide) (fun c => absurd c (by decide)) (fun _ => ?_)
      refine g_iconst (pc := 23) (v := 1) C dX12_isUnder_23 (by decide) ?_
      refine g_goto (pc := 24) (tgt := 28) C dX12_isUnder_24 (by decide) ?_
      exact r_B1 C hr dX12_isUnder_28 (by simp_all [undK]) rfl
    · refine g_il2n (pc := 11) C dX12_isUnder_11 ?_
      refine s_SI (pc := 12) (st := []) C (c_X12_above_0 (d := d - 1) (by omega) σ) (by omega) lX12_120 dX12_isUnder_12 rfl (Nat.le_of_ble_eq_true rfl) rfl ?_
      refine g_is2n (pc := 15) C dX12_isUnder_15 ?_
      refine g_goto (pc := 16) (tgt := 2) C dX12_isUnder_16 (by decide) ?_
      refine g_il2n (pc := 2) C dX12_isUnder_2 ?_
      refine g_if_lt (pc := 3) (tgt := 19) C dX12_isUnder_3 (by decide) (fun _ => ?_) (fun c => absurd c (by decide))
      refine g_il2n (pc := 19) C dX12_isUnder_19 ?_
      refine g_if_lt (pc := 20) (tgt := 27) C dX12_isUnder_20 (by decide) (fun _ => ?_) (fun c => absurd c (by decide))
      refine g_iconst (pc := 27) (v := 0) C dX12_isUnder_27 (by decide) ?_
      exact r_B0 C hr dX12_isUnder_28 (by simp_all [undK, eq_comm]) rfl

theorem c_X12_isUnder_3 {d : Nat} (hd : 2 ≤ d) (σ : Sg) (q : Int32) : CB d mX12_isUnder [.int 3, .int q] σ (undK 3 q = true) σ := by
  refine con_of (by decide) (catL rfl) (Nat.le_of_ble_eq_true rfl) ?_
  intro μ ω C hr
  have C : Cx μ ω "TowFieldModel" cX12_isUnder 3 d := C
  have hr : (mH μ).sig.returnType = some .boolean := hr
  show G μ ω (RQ μ ω (pB (undK 3 q = true) σ)) 0 [some (.int 3), some (.int q), none] [] (mk σ) 0 0
  refine g_il0n (pc := 0) C dX12_isUnder_0 ?_
  refine g_is2n (pc := 1) C dX12_isUnder_1 ?_
  refine g_il2n (pc := 2) C dX12_isUnder_2 ?_
  refine g_if_lt (pc := 3) (tgt := 19) C dX12_isUnder_3 (by decide) (fun c => absurd c (by decide)) (fun _ => ?_)
  refine g_il2n (pc := 6) C dX12_isUnder_6 ?_
  refine g_il1n (pc := 7) C dX12_isUnder_7 ?_
  refine g_icmp_eq (pc := 8) (tgt := 19) C dX12_isUnder_8 (by decide) (fun c_8 => ?_) (fun c_8 => ?_)
  · refine g_il2n (pc := 19) C dX12_isUnder_19 ?_
    refine g_if_lt (pc := 20) (tgt := 27) C dX12_isUnder_20 (by decide) (fun c => absurd c (by decide)) (fun _ => ?_)
    refine g_iconst (pc := 23) (v := 1) C dX12_isUnder_23 (by decide) ?_
    refine g_goto (pc := 24) (tgt := 28) C dX12_isUnder_24 (by decide) ?_
    exact r_B1 C hr dX12_isUnder_28 (by simp_all [undK]) rfl
  · refine g_il2n (pc := 11) C dX12_isUnder_11 ?_
    refine s_SI (pc := 12) (st := []) C (c_X12_above_3 (d := d - 1) (by omega) σ) (by omega) lX12_120 dX12_isUnder_12 rfl (Nat.le_of_ble_eq_true rfl) rfl ?_
    refine g_is2n (pc := 15) C dX12_isUnder_15 ?_
    refine g_goto (pc := 16) (tgt := 2) C dX12_isUnder_16 (by decide) ?_
    refine g_il2n (pc := 2) C dX12_isUnder_2 ?_
    refine g_if_lt (pc := 3) (tgt := 19) C dX12_isUnder_3 (by decide) (fun c => absurd c (by decide)) (fun _ => ?_)
    refine g_il2n (pc := 6) C dX12_isUnder_6 ?_
    refine g_il1n (pc := 7) C dX12_isUnder_7 ?_
    refine g_icmp_eq (pc := 8) (tgt := 19) C dX12_isUnder_8 (by decide) (fun c_8 => ?_) (fun c_8 => ?_)
    · refine g_il2n (pc := 19) C dX12_isUnder_19 ?_
      refine g_if_lt (pc := 20) (tgt := 27) C dX12_isUnder_20 (by decide) (fun c => absurd c (by decide)) (fun _ => ?_)
      refine g_iconst (pc := 23) (v := 1) C dX12_isUnder_23 (by decide) ?_
      refine g_goto (pc := 24) (tgt := 28) C dX12_isUnder_24 (by decide) ?_
      exact r_B1 C hr dX12_isUnder_28 (by simp_all [undK]) rfl
    · refine g_il2n (pc := 11) C dX12_isUnder_11 ?_
      refine s_SI (pc := 12) (st := []) C (c_X12_above_1 (d := d - 1) (by omega) σ) (by omega) lX12_120 dX12_isUnder_12 rfl (Nat.le_of_ble_eq_true rfl) rfl ?_
      refine g_is2n (pc := 15) C dX12_isUnder_15 ?_
      refine g_goto (pc := 16) (tgt := 2) C dX12_isUnder_16 (by decide) ?_
      refine g_il2n (pc := 2) C dX12_isUnder_2 ?_
      refine g_if_lt (pc := 3) (tgt := 19) C dX12_isUnder_3 (by decide) (fun c => absurd c (by decide)) (fun _ => ?_)
      refine g_il2n (pc := 6) C dX12_isUnder_6 ?_
      refine g_il1n (pc := 7) C dX12_isUnder_7 ?_
      refine g_icmp_eq (pc := 8) (tgt := 19) C dX12_isUnder_8 (by decide) (fun c_8 => ?_) (fun c_8 => ?_)
      · refine g_il2n (pc := 19) C dX12_isUnder_19 ?_
        refine g_if_lt (pc := 20) (tgt := 27) C dX12_isUnder_20 (by decide) (fun c => absurd c (by decide)) (fun _ => ?_)
        refine g_iconst (pc := 23) (v := 1) C dX12_isUnder_23 (by decide) ?_
        refine g_goto (pc := 24) (tgt := 28) C dX12_isUnder_24 (by decide) ?_
        exact r_B1 C hr dX12_isUnder_28 (by simp_all [undK]) rfl
      · refine g_il2n (pc := 11) C dX12_isUnder_11 ?_
        refine s_SI (pc := 12) (st := []) C (c_X12_above_0 (d := d - 1) (by omega) σ) (by omega) lX12_120 dX12_isUnder_12 rfl (Nat.le_of_ble_eq_true rfl) rfl ?_
        refine g_is2n (pc := 15) C dX12_isUnder_15 ?_
        refine g_goto (pc := 16) (tgt := 2) C dX12_isUnder_16 (by decide) ?_
        refine g_il2n (pc := 2) C dX12_isUnder_2 ?_
        refine g_if_lt (pc := 3) (tgt := 19) C dX12_isUnder_3 (by decide) (fun _ => ?_) (fun c => absurd c (by decide))
        refine g_il2n (pc := 19) C dX12_isUnder_19 ?_
        refine g_if_lt (pc := 20) (tgt := 27) C dX12_isUnder_20 (by decide) (fun _ => ?_) (fun c => absurd c (by decide))
        refine g_iconst (pc := 27) (v := 0) C dX12_isUnder_27 (by decide) ?_
        exact r_B0 C hr dX12_isUnder_28 (by simp_all [undK, eq_comm]) rfl

theorem c_X12_isUnder_4 {d : Nat} (hd : 2 ≤ d) (σ : Sg) (q : Int32) : CB d mX12_isUnder [.int 4, .int q] σ (undK 4 q = true) σ := by
  refine con_of (by decide) (catL rfl) (Nat.le_of_ble_eq_true rfl) ?_
  intro μ ω C hr
  have C : Cx μ ω "TowFieldModel" cX12_isUnder 3 d := C
  have hr : (mH μ).sig.returnType = some .boolean := hr
  show G μ ω (RQ μ ω (pB (undK 4 q = true) σ)) 0 [some (.int 4), some (.int q), none] [] (mk σ) 0 0
  refine g_il0n (pc := 0) C dX12_isUnder_0 ?_
  refine g_is2n (pc := 1) C dX12_isUnder_1 ?_
  refine g_il2n (pc := 2) C dX12_isUnder_2 ?_
  refine g_if_lt (pc := 3) (tgt := 19) C dX12_isUnder_3 (by decide) (fun c => absurd c (by decide)) (fun _ => ?_)
  refine g_il2n (pc := 6) C dX12_isUnder_6 ?_
  refine g_il1n (pc := 7) C dX12_isUnder_7 ?_
  refine g_icmp_eq (pc := 8) (tgt := 19) C dX12_isUnder_8 (by decide) (fun c_8 => ?_) (fun c_8 => ?_)
  · refine g_il2n (pc := 19) C dX12_isUnder_19 ?_
    refine g_if_lt (pc := 20) (tgt := 27) C dX12_isUnder_20 (by decide) (fun c => absurd c (by decide)) (fun _ => ?_)
    refine g_iconst (pc := 23) (v := 1) C dX12_isUnder_23 (by decide) ?_
    refine g_goto (pc := 24) (tgt := 28) C dX12_isUnder_24 (by decide) ?_
    exact r_B1 C hr dX12_isUnder_28 (by simp_all [undK]) rfl
  · refine g_il2n (pc := 11) C dX12_isUnder_11 ?_
    refine s_SI (pc := 12) (st := []) C (c_X12_above_4 (d := d - 1) (by omega) σ) (by omega) lX12_120 dX12_isUnder_12 rfl (Nat.le_of_ble_eq_true rfl) rfl ?_
    refine g_is2n (pc := 15) C dX12_isUnder_15 ?_
    refine g_goto (pc := 16) (tgt := 2) C dX12_isUnder_16 (by decide) ?_
    refine g_il2n (pc := 2) C dX12_isUnder_2 ?_
    refine g_if_lt (pc := 3) (tgt := 19) C dX12_isUnder_3 (by decide) (fun c => absurd c (by decide)) (fun _ => ?_)
    refine g_il2n (pc := 6) C dX12_isUnder_6 ?_
    refine g_il1n (pc := 7) C dX12_isUnder_7 ?_
    refine g_icmp_eq (pc := 8) (tgt := 19) C dX12_isUnder_8 (by decide) (fun c_8 => ?_) (fun c_8 => ?_)
    · refine g_il2n (pc := 19) C dX12_isUnder_19 ?_
      refine g_if_lt (pc := 20) (tgt := 27) C dX12_isUnder_20 (by decide) (fun c => absurd c (by decide)) (fun _ => ?_)
      refine g_iconst (pc := 23) (v := 1) C dX12_isUnder_23 (by decide) ?_
      refine g_goto (pc := 24) (tgt := 28) C dX12_isUnder_24 (by decide) ?_
      exact r_B1 C hr dX12_isUnder_28 (by simp_all [undK]) rfl
    · refine g_il2n (pc := 11) C dX12_isUnder_11 ?_
      refine s_SI (pc := 12) (st := []) C (c_X12_above_2 (d := d - 1) (by omega) σ) (by omega) lX12_120 dX12_isUnder_12 rfl (Nat.le_of_ble_eq_true rfl) rfl ?_
      refine g_is2n (pc := 15) C dX12_isUnder_15 ?_
      refine g_goto (pc := 16) (tgt := 2) C dX12_isUnder_16 (by decide) ?_
      refine g_il2n (pc := 2) C dX12_isUnder_2 ?_
      refine g_if_lt (pc := 3) (tgt := 19) C dX12_isUnder_3 (by decide) (fun c => absurd c (by decide)) (fun _ => ?_)
      refine g_il2n (pc := 6) C dX12_isUnder_6 ?_
      refine g_il1n (pc := 7) C dX12_isUnder_7 ?_
      refine g_icmp_eq (pc := 8) (tgt := 19) C dX12_isUnder_8 (by decide) (fun c_8 => ?_) (fun c_8 => ?_)
      · refine g_il2n (pc := 19) C dX12_isUnder_19 ?_
        refine g_if_lt (pc := 20) (tgt := 27) C dX12_isUnder_20 (by decide) (fun c => absurd c (by decide)) (fun _ => ?_)
        refine g_iconst (pc := 23) (v := 1) C dX12_isUnder_23 (by decide) ?_
        refine g_goto (pc := 24) (tgt := 28) C dX12_isUnder_24 (by decide) ?_
        exact r_B1 C hr dX12_isUnder_28 (by simp_all [undK]) rfl
      · refine g_il2n (pc := 11) C dX12_isUnder_11 ?_
        refine s_SI (pc := 12) (st := []) C (c_X12_above_0 (d := d - 1) (by omega) σ) (by omega) lX12_120 dX12_isUnder_12 rfl (Nat.le_of_ble_eq_true rfl) rfl ?_
        refine g_is2n (pc := 15) C dX12_isUnder_15 ?_
        refine g_goto (pc := 16) (tgt := 2) C dX12_isUnder_16 (by decide) ?_
        refine g_il2n (pc := 2) C dX12_isUnder_2 ?_
        refine g_if_lt (pc := 3) (tgt := 19) C dX12_isUnder_3 (by decide) (fun _ => ?_) (fun c => absurd c (by decide))
        refine g_il2n (pc := 19) C dX12_isUnder_19 ?_
        refine g_if_lt (pc := 20) (tgt := 27) C dX12_isUnder_20 (by decide) (fun _ => ?_) (fun c => absurd c (by decide))
        refine g_iconst (pc := 27) (v := 0) C dX12_isUnder_27 (by decide) ?_
        exact r_B0 C hr dX12_isUnder_28 (by simp_all [undK, eq_comm]) rfl

theorem c_X12_isUnder_5 {d : Nat} (hd : 2 ≤ d) (σ : Sg) (q : Int32) : CB d mX12_isUnder [.int 5, .int q] σ (undK 5 q = true) σ := by
  refine con_of (by decide) (catL rfl) (Nat.le_of_ble_eq_true rfl) ?_
  intro μ ω C hr
  have C : Cx μ ω "TowFieldModel" cX12_isUnder 3 d := C
  have hr : (mH μ).sig.returnType = some .boolean := hr
  show G μ ω (RQ μ ω (pB (undK 5 q = true) σ)) 0 [some (.int 5), some (.int q), none] [] (mk σ) 0 0
  refine g_il0n (pc := 0) C dX12_isUnder_0 ?_
  refine g_is2n (pc := 1) C dX12_isUnder_1 ?_
  refine g_il2n (pc := 2) C dX12_isUnder_2 ?_
  refine g_if_lt (pc := 3) (tgt := 19) C dX12_isUnder_3 (by decide) (fun c => absurd c (by decide)) (fun _ => ?_)
  refine g_il2n (pc := 6) C dX12_isUnder_6 ?_
  refine g_il1n (pc := 7) C dX12_isUnder_7 ?_
  refine g_icmp_eq (pc := 8) (tgt := 19) C dX12_isUnder_8 (by decide) (fun c_8 => ?_) (fun c_8 => ?_)
  · refine g_il2n (pc := 19) C dX12_isUnder_19 ?_
    refine g_if_lt (pc := 20) (tgt := 27) C dX12_isUnder_20 (by decide) (fun c => absurd c (by decide)) (fun _ => ?_)
    refine g_iconst (pc := 23) (v := 1) C dX12_isUnder_23 (by decide) ?_
    refine g_goto (pc := 24) (tgt := 28) C dX12_isUnder_24 (by decide) ?_
    exact r_B1 C hr dX12_isUnder_28 (by simp_all [undK]) rfl
  · refine g_il2n (pc := 11) C dX12_isUnder_11 ?_
    refine s_SI (pc := 12) (st := []) C (c_X12_above_5 (d := d - 1) (by omega) σ) (by omega) lX12_120 dX12_isUnder_12 rfl (Nat.le_of_ble_eq_true rfl) rfl ?_
    refine g_is2n (pc := 15) C dX12_isUnder_15 ?_
    refine g_goto (pc := 16) (tgt := 2) C dX12_isUnder_16 (by decide) ?_
    refine g_il2n (pc := 2) C dX12_isUnder_2 ?_
    refine g_if_lt (pc := 3) (tgt := 19) C dX12_isUnder_3 (by decide) (fun c => absurd c (by decide)) (fun _ => ?_)
    refine g_il2n (pc := 6) C dX12_isUnder_6 ?_
    refine g_il1n (pc := 7) C dX12_isUnder_7 ?_
    refine g_icmp_eq (pc := 8) (tgt := 19) C dX12_isUnder_8 (by decide) (fun c_8 => ?_) (fun c_8 => ?_)
    · refine g_il2n (pc := 19) C dX12_isUnder_19 ?_
      refine g_if_lt (pc := 20) (tgt := 27) C dX12_isUnder_20 (by decide) (fun c => absurd c (by decide)) (fun _ => ?_)
      refine g_iconst (pc := 23) (v := 1) C dX12_isUnder_23 (by decide) ?_
      refine g_goto (pc := 24) (tgt := 28) C dX12_isUnder_24 (by decide) ?_
      exact r_B1 C hr dX12_isUnder_28 (by simp_all [undK]) rfl
    · refine g_il2n (pc := 11) C dX12_isUnder_11 ?_
      refine s_SI (pc := 12) (st := []) C (c_X12_above_2 (d := d - 1) (by omega) σ) (by omega) lX12_120 dX12_isUnder_12 rfl (Nat.le_of_ble_eq_true rfl) rfl ?_
      refine g_is2n (pc := 15) C dX12_isUnder_15 ?_
      refine g_goto (pc := 16) (tgt := 2) C dX12_isUnder_16 (by decide) ?_
      refine g_il2n (pc := 2) C dX12_isUnder_2 ?_
      refine g_if_lt (pc := 3) (tgt := 19) C dX12_isUnder_3 (by decide) (fun c => absurd c (by decide)) (fun _ => ?_)
      refine g_il2n (pc := 6) C dX12_isUnder_6 ?_
      refine g_il1n (pc := 7) C dX12_isUnder_7 ?_
      refine g_icmp_eq (pc := 8) (tgt := 19) C dX12_isUnder_8 (by decide) (fun c_8 => ?_) (fun c_8 => ?_)
      · refine g_il2n (pc := 19) C dX12_isUnder_19 ?_
        refine g_if_lt (pc := 20) (tgt := 27) C dX12_isUnder_20 (by decide) (fun c => absurd c (by decide)) (fun _ => ?_)
        refine g_iconst (pc := 23) (v := 1) C dX12_isUnder_23 (by decide) ?_
        refine g_goto (pc := 24) (tgt := 28) C dX12_isUnder_24 (by decide) ?_
        exact r_B1 C hr dX12_isUnder_28 (by simp_all [undK]) rfl
      · refine g_il2n (pc := 11) C dX12_isUnder_11 ?_
        refine s_SI (pc := 12) (st := []) C (c_X12_above_0 (d := d - 1) (by omega) σ) (by omega) lX12_120 dX12_isUnder_12 rfl (Nat.le_of_ble_eq_true rfl) rfl ?_
        refine g_is2n (pc := 15) C dX12_isUnder_15 ?_
        refine g_goto (pc := 16) (tgt := 2) C dX12_isUnder_16 (by decide) ?_
        refine g_il2n (pc := 2) C dX12_isUnder_2 ?_
        refine g_if_lt (pc := 3) (tgt := 19) C dX12_isUnder_3 (by decide) (fun _ => ?_) (fun c => absurd c (by decide))
        refine g_il2n (pc := 19) C dX12_isUnder_19 ?_
        refine g_if_lt (pc := 20) (tgt := 27) C dX12_isUnder_20 (by decide) (fun _ => ?_) (fun c => absurd c (by decide))
        refine g_iconst (pc := 27) (v := 0) C dX12_isUnder_27 (by decide) ?_
        exact r_B0 C hr dX12_isUnder_28 (by simp_all [undK, eq_comm]) rfl

theorem c_X12_isUnder {d : Nat} (hd : 2 ≤ d) (σ : Sg) (k q : Int32) (hk : isN k 6) : CB d mX12_isUnder [.int k, .int q] σ (undK k q = true) σ := by
  obtain ⟨j, hj, rfl⟩ := hk
  rcases (show j = 0 ∨ j = 1 ∨ j = 2 ∨ j = 3 ∨ j = 4 ∨ j = 5 by omega) with rfl | rfl | rfl | rfl | rfl | rfl
  · exact c_X12_isUnder_0 hd σ q
  · exact c_X12_isUnder_1 hd σ q
  · exact c_X12_isUnder_2 hd σ q
  · exact c_X12_isUnder_3 hd σ q
  · exact c_X12_isUnder_4 hd σ q
  · exact c_X12_isUnder_5 hd σ q

theorem c_X12_done {d : Nat} (hd : 1 ≤ d) (σ : Sg) (s a b : Int32) : CI d mX12_done [.int s, .int a, .int b] σ (opK s a b) σ := by
  refine con_of (by decide) (catL rfl) (Nat.le_of_ble_eq_true rfl) ?_
  intro μ ω C hr
  have C : Cx μ ω "TowFieldModel" cX12_done 3 d := C
  have hr : (mH μ).sig.returnType = some .int := hr
  show G μ ω (RQ μ ω (pI (opK s a b) σ)) 0 [some (.int s), some (.int a), some (.int b)] [] (mk σ) 0 0
  refine g_il0n (pc := 0) C dX12_done_0 ?_
  rcases sw_10100_10109 s with w_1 | w_1 | w_1 | w_1 | w_1 | w_1 | w_1 | w_1 | w_1 | w_1 | w_1
  · refine g_tabE (pc := 1) (tgt := 56) (off := 55) (v := 10100) C dX12_done_1 w_1 (by decide) (by decide) (by decide) (by decide) ?_
    refine g_il1n (pc := 56) C dX12_done_56 ?_
    refine g_il2n (pc := 57) C dX12_done_57 ?_
    refine g_iadd (pc := 58) C dX12_done_58 ?_
    exact r_I C hr dX12_done_59 (by rw [w_1]; simp_all [opK]) rfl
  · refine g_tabE (pc := 1) (tgt := 60) (off := 59) (v := 10101) C dX12_done_1 w_1 (by decide) (by decide) (by decide) (by decide) ?_
    refine g_il1n (pc := 60) C dX12_done_60 ?_
    refine g_il2n (pc := 61) C dX12_done_61 ?_
    refine g_isub (pc := 62) C dX12_done_62 ?_
    exact r_I C hr dX12_done_63 (by rw [w_1]; simp_all [opK]) rfl
  · refine g_tabE (pc := 1) (tgt := 80) (off := 79) (v := 10102) C dX12_done_1 w_1 (by decide) (by decide) (by decide) (by decide) ?_
    refine g_il1n (pc := 80) C dX12_done_80 ?_
    refine g_il2n (pc := 81) C dX12_done_81 ?_
    refine g_icmp_ge (pc := 82) (tgt := 89) C dX12_done_82 (by decide) (fun c_82 => ?_) (fun c_82 => ?_)
    · refine g_iconst (pc := 89) (v := 0) C dX12_done_89 (by decide) ?_
      exact r_I C hr dX12_done_90 (by rw [w_1]; simp_all [opK]) rfl
    · refine g_iconst (pc := 85) (v := 1) C dX12_done_85 (by decide) ?_
      refine g_goto (pc := 86) (tgt := 90) C dX12_done_86 (by decide) ?_
      exact r_I C hr dX12_done_90 (by rw [w_1]; simp_all [opK]) rfl
  · refine g_tabE (pc := 1) (tgt := 91) (off := 90) (v := 10103) C dX12_done_1 w_1 (by decide) (by decide) (by decide) (by decide) ?_
    refine g_il1n (pc := 91) C dX12_done_91 ?_
    refine g_il2n (pc := 92) C dX12_done_92 ?_
    refine g_icmp_ne (pc := 93) (tgt := 100) C dX12_done_93 (by decide) (fun c_93 => ?_) (fun c_93 => ?_)
    · refine g_iconst (pc := 100) (v := 0) C dX12_done_100 (by decide) ?_
      exact r_I C hr dX12_done_101 (by rw [w_1]; simp_all [opK]) rfl
    · refine g_iconst (pc := 96) (v := 1) C dX12_done_96 (by decide) ?_
      refine g_goto (pc := 97) (tgt := 101) C dX12_done_97 (by decide) ?_
      exact r_I C hr dX12_done_101 (by rw [w_1]; simp_all [opK]) rfl
  · refine g_tabE (pc := 1) (tgt := 102) (off := 101) (v := 10104) C dX12_done_1 w_1 (by decide) (by decide) (by decide) (by decide) ?_
    refine g_il1n (pc := 102) C dX12_done_102 ?_
    refine g_il2n (pc := 103) C dX12_done_103 ?_
    refine g_icmp_le (pc := 104) (tgt := 111) C dX12_done_104 (by decide) (fun c_104 => ?_) (fun c_104 => ?_)
    · refine g_iconst (pc := 111) (v := 0) C dX12_done_111 (by decide) ?_
      exact r_I C hr dX12_done_112 (by rw [w_1]; simp_all [opK]) rfl
    · refine g_iconst (pc := 107) (v := 1) C dX12_done_107 (by decide) ?_
      refine g_goto (pc := 108) (tgt := 112) C dX12_done_108 (by decide) ?_
      exact r_I C hr dX12_done_112 (by rw [w_1]; simp_all [opK]) rfl
  · refine g_tabE (pc := 1) (tgt := 113) (off := 112) (v := 10105) C dX12_done_1 w_1 (by decide) (by decide) (by decide) (by decide) ?_
    refine g_il1n (pc := 113) C dX12_done_113 ?_
    refine g_if_eq (pc := 114) (tgt := 125) C dX12_done_114 (by decide) (fun c_114 => ?_) (fun c_114 => ?_)
    · refine g_iconst (pc := 125) (v := 0) C dX12_done_125 (by decide) ?_
      exact r_I C hr dX12_done_126 (by rw [w_1]; simp_all [opK]) rfl
    · refine g_il2n (pc := 117) C dX12_done_117 ?_
      refine g_if_eq (pc := 118) (tgt := 125) C dX12_done_118 (by decide) (fun c_118 => ?_) (fun c_118 => ?_)
      · refine g_iconst (pc := 125) (v := 0) C dX12_done_125 (by decide) ?_
        exact r_I C hr dX12_done_126 (by rw [w_1]; simp_all [opK]) rfl
      · refine g_iconst (pc := 121) (v := 1) C dX12_done_121 (by decide) ?_
        refine g_goto (pc := 122) (tgt := 126) C dX12_done_122 (by decide) ?_
        exact r_I C hr dX12_done_126 (by rw [w_1]; simp_all [opK]) rfl
  · refine g_tabE (pc := 1) (tgt := 127) (off := 126) (v := 10106) C dX12_done_1 w_1 (by decide) (by decide) (by decide) (by decide) ?_
    refine g_il1n (pc := 127) C dX12_done_127 ?_
    refine g_if_ne (pc := 128) (tgt := 135) C dX12_done_128 (by decide) (fun c_128 => ?_) (fun c_128 => ?_)
    · refine g_iconst (pc := 135) (v := 1) C dX12_done_135 (by decide) ?_
      refine g_goto (pc := 136) (tgt := 140) C dX12_done_136 (by decide) ?_
      exact r_I C hr dX12_done_140 (by rw [w_1]; simp_all [opK]) rfl
    · refine g_il2n (pc := 131) C dX12_done_131 ?_
      refine g_if_eq (pc := 132) (tgt := 139) C dX12_done_132 (by decide) (fun c_132 => ?_) (fun c_132 => ?_)
      · refine g_iconst (pc := 139) (v := 0) C dX12_done_139 (by decide) ?_
        exact r_I C hr dX12_done_140 (by rw [w_1]; simp_all [opK]) rfl
      · refine g_iconst (pc := 135) (v := 1) C dX12_done_135 (by decide) ?_
        refine g_goto (pc := 136) (tgt := 140) C dX12_done_136 (by decide) ?_
        exact r_I C hr dX12_done_140 (by rw [w_1]; simp_all [opK]) rfl
  · refine g_tabE (pc := 1) (tgt := 127) (off := 126) (v := 10107) C dX12_done_1 w_1 (by decide) (by decide) (by decide) (by decide) ?_
    refine g_il1n (pc := 127) C dX12_done_127 ?_
    refine g_if_ne (pc := 128) (tgt := 135) C dX12_done_128 (by decide) (fun c_128 => ?_) (fun c_128 => ?_)
    · refine g_iconst (pc := 135) (v := 1) C dX12_done_135 (by decide) ?_
      refine g_goto (pc := 136) (tgt := 140) C dX12_done_136 (by decide) ?_
      exact r_I C hr dX12_done_140 (by rw [w_1]; simp_all [opK]) rfl
    · refine g_il2n (pc := 131) C dX12_done_131 ?_
      refine g_if_eq (pc := 132) (tgt := 139) C dX12_done_132 (by decide) (fun c_132 => ?_) (fun c_132 => ?_)
      · refine g_iconst (pc := 139) (v := 0) C dX12_done_139 (by decide) ?_
        exact r_I C hr dX12_done_140 (by rw [w_1]; simp_all [opK]) rfl
      · refine g_iconst (pc := 135) (v := 1) C dX12_done_135 (by decide) ?_
        refine g_goto (pc := 136) (tgt := 140) C dX12_done_136 (by decide) ?_
        exact r_I C hr dX12_done_140 (by rw [w_1]; simp_all [opK]) rfl
  · refine g_tabE (pc := 1) (tgt := 64) (off := 63) (v := 10108) C dX12_done_1 w_1 (by decide) (by decide) (by decide) (by decide) ?_
    refine g_il1n (pc := 64) C dX12_done_64 ?_
    refine g_il2n (pc := 65) C dX12_done_65 ?_
    refine g_imul (pc := 66) C dX12_done_66 ?_
    exact r_I C hr dX12_done_67 (by rw [w_1]; simp_all [opK]) rfl
  · refine g_tabE (pc := 1) (tgt := 68) (off := 67) (v := 10109) C dX12_done_1 w_1 (by decide) (by decide) (by decide) (by decide) ?_
    refine g_il2n (pc := 68) C dX12_done_68 ?_
    refine g_if_ne (pc := 69) (tgt := 76) C dX12_done_69 (by decide) (fun c_69 => ?_) (fun c_69 => ?_)
    · refine g_il1n (pc := 76) C dX12_done_76 ?_
      refine g_il2n (pc := 77) C dX12_done_77 ?_
      refine g_idiv (pc := 78) C dX12_done_78 (by assumption) ?_
      exact r_I C hr dX12_done_79 (by rw [w_1]; simp_all [opK]) rfl
    · refine g_iconst (pc := 72) (v := 0) C dX12_done_72 (by decide) ?_
      refine g_goto (pc := 73) (tgt := 79) C dX12_done_73 (by decide) ?_
      exact r_I C hr dX12_done_79 (by rw [w_1]; simp_all [opK]) rfl
  · refine g_tabOut (pc := 1) (tgt := 127) C dX12_done_1 w_1 (by decide) ?_
    refine g_il1n (pc := 127) C dX12_done_127 ?_
    refine g_if_ne (pc := 128) (tgt := 135) C dX12_done_128 (by decide) (fun c_128 => ?_) (fun c_128 => ?_)
    · refine g_iconst (pc := 135) (v := 1) C dX12_done_135 (by decide) ?_
      refine g_goto (pc := 136) (tgt := 140) C dX12_done_136 (by decide) ?_
      exact r_I C hr dX12_done_140 (by unfold opK; rw [if_neg (fun e => by rw [e] at w_1; exact absurd w_1 (by decide)), if_neg (fun e => by rw [e] at w_1; exact absurd w_1 (by decide)), if_neg (fun e => by rw [e] at w_1; exact absurd w_1 (by decide)), if_neg (fun e => by rw [e] at w_1; exact absurd w_1 (by decide)), if_neg (fun e => by rw [e] at w_1; exact absurd w_1 (by decide)), if_neg (fun e => by rw [e] at w_1; exact absurd w_1 (by decide)), if_neg (fun e => by rw [e] at w_1; exact absurd w_1 (by decide)), if_neg (fun e => by rw [e] at w_1; exact absurd w_1 (by decide))]; simp_all) rfl
    · refine g_il2n (pc := 131) C dX12_done_131 ?_
      refine g_if_eq (pc := 132) (tgt := 139) C dX12_done_132 (by decide) (fun c_132 => ?_) (fun c_132 => ?_)
      · refine g_iconst (pc := 139) (v := 0) C dX12_done_139 (by decide) ?_
        exact r_I C hr dX12_done_140 (by unfold opK; rw [if_neg (fun e => by rw [e] at w_1; exact absurd w_1 (by decide)), if_neg (fun e => by rw [e] at w_1; exact absurd w_1 (by decide)), if_neg (fun e => by rw [e] at w_1; exact absurd w_1 (by decide)), if_neg (fun e => by rw [e] at w_1; exact absurd w_1 (by decide)), if_neg (fun e => by rw [e] at w_1; exact absurd w_1 (by decide)), if_neg (fun e => by rw [e] at w_1; exact absurd w_1 (by decide)), if_neg (fun e => by rw [e] at w_1; exact absurd w_1 (by decide)), if_neg (fun e => by rw [e] at w_1; exact absurd w_1 (by decide))]; simp_all) rfl
      · refine g_iconst (pc := 135) (v := 1) C dX12_done_135 (by decide) ?_
        refine g_goto (pc := 136) (tgt := 140) C dX12_done_136 (by decide) ?_
        exact r_I C hr dX12_done_140 (by unfold opK; rw [if_neg (fun e => by rw [e] at w_1; exact absurd w_1 (by decide)), if_neg (fun e => by rw [e] at w_1; exact absurd w_1 (by decide)), if_neg (fun e => by rw [e] at w_1; exact absurd w_1 (by decide)), if_neg (fun e => by rw [e] at w_1; exact absurd w_1 (by decide)), if_neg (fun e => by rw [e] at w_1; exact absurd w_1 (by decide)), if_neg (fun e => by rw [e] at w_1; exact absurd w_1 (by decide)), if_neg (fun e => by rw [e] at w_1; exact absurd w_1 (by decide)), if_neg (fun e => by rw [e] at w_1; exact absurd w_1 (by decide))]; simp_all) rfl

