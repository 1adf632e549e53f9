/-! ===== the class: texts ===== -/
theorem nI_sub2 (t : Nat) : nI (t + 2) - 2 = nI t := nI_sub (a := 2) (b := t + 2) (by omega)
theorem nI_sub1 (t : Nat) : nI (t + 2) - 1 = nI (t + 1) := nI_pred (t + 1)
/-- a step's code in the class -/
def clC (c : Int32) : Int32 := if c < 10000 then c else if c < 10100 then 9999 - c else if c = 10100 then -143 else if c = 10101 then -145 else if c = 10102 then -160 else if c = 10103 then -161 else if c = 10104 then -162 else if c = 10105 then -138 else if c = 10106 then -224 else if c = 10107 then -133 else if c = 10108 then -142 else -147
theorem c_work43 {d : Nat} (hd : 1 ≤ d) (σ : Sg) (a b : Int32) : CI d mX8_workOut [.int 43, .int a, .int b] σ (opK 10100 a b) σ := by
  refine con_of (by decide) (catL rfl) (Nat.le_of_ble_eq_true rfl) ?_
  intro μ ω C hr
  have C : Cx μ ω "TowField$Texts" cX8_workOut 3 d := C
  have hr : (mH μ).sig.returnType = some .int := hr
  show G μ ω (RQ μ ω (pI (opK 10100 a b) σ)) 0 [some (.int 43), some (.int a), some (.int b)] [] (mk σ) 0 0
  refine g_il0n (pc := 0) C dX8_workOut_0 ?_
  refine g_lookup (pc := 1) (tgt := 155) (off := 154) C dX8_workOut_1 (by decide) (by decide) (by decide) ?_
  refine g_il1n (pc := 155) C dX8_workOut_155 ?_
  refine g_il2n (pc := 156) C dX8_workOut_156 ?_
  refine g_iadd (pc := 157) C dX8_workOut_157 ?_
  exact r_I C hr dX8_workOut_158 (by simp [opK]) rfl

theorem c_work45 {d : Nat} (hd : 1 ≤ d) (σ : Sg) (a b : Int32) : CI d mX8_workOut [.int 45, .int a, .int b] σ (opK 10101 a b) σ := by
  refine con_of (by decide) (catL rfl) (Nat.le_of_ble_eq_true rfl) ?_
  intro μ ω C hr
  have C : Cx μ ω "TowField$Texts" cX8_workOut 3 d := C
  have hr : (mH μ).sig.returnType = some .int := hr
  show G μ ω (RQ μ ω (pI (opK 10101 a b) σ)) 0 [some (.int 45), some (.int a), some (.int b)] [] (mk σ) 0 0
  refine g_il0n (pc := 0) C dX8_workOut_0 ?_
  refine g_lookup (pc := 1) (tgt := 159) (off := 158) C dX8_workOut_1 (by decide) (by decide) (by decide) ?_
  refine g_il1n (pc := 159) C dX8_workOut_159 ?_
  refine g_il2n (pc := 160) C dX8_workOut_160 ?_
  refine g_isub (pc := 161) C dX8_workOut_161 ?_
  exact r_I C hr dX8_workOut_162 (by simp [opK]) rfl

theorem c_work60 {d : Nat} (hd : 1 ≤ d) (σ : Sg) (a b : Int32) : CI d mX8_workOut [.int 60, .int a, .int b] σ (opK 10102 a b) σ := by
  refine con_of (by decide) (catL rfl) (Nat.le_of_ble_eq_true rfl) ?_
  intro μ ω C hr
  have C : Cx μ ω "TowField$Texts" cX8_workOut 3 d := C
  have hr : (mH μ).sig.returnType = some .int := hr
  show G μ ω (RQ μ ω (pI (opK 10102 a b) σ)) 0 [some (.int 60), some (.int a), some (.int b)] [] (mk σ) 0 0
  refine g_il0n (pc := 0) C dX8_workOut_0 ?_
  refine g_lookup (pc := 1) (tgt := 122) (off := 121) C dX8_workOut_1 (by decide) (by decide) (by decide) ?_
  refine g_il1n (pc := 122) C dX8_workOut_122 ?_
  refine g_il2n (pc := 123) C dX8_workOut_123 ?_
  refine g_icmp_geL (pc := 124) (tgt := 131) C dX8_workOut_124 (by decide) (fun c_124 => ?_) (fun c_124 => ?_)
  · refine g_iconst (pc := 131) (v := 0) C dX8_workOut_131 (by decide) ?_
    exact r_I C hr dX8_workOut_132 (by simp [opK, c_124]) rfl
  · refine g_iconst (pc := 127) (v := 1) C dX8_workOut_127 (by decide) ?_
    refine g_goto (pc := 128) (tgt := 132) C dX8_workOut_128 (by decide) ?_
    exact r_I C hr dX8_workOut_132 (by simp [opK, c_124]) rfl

theorem c_work61 {d : Nat} (hd : 1 ≤ d) (σ : Sg) (a b : Int32) : CI d mX8_workOut [.int 61, .int a, .int b] σ (opK 10103 a b) σ := by
  refine con_of (by decide) (catL rfl) (Nat.le_of_ble_eq_true rfl) ?_
  intro μ ω C hr
  have C : Cx μ ω "TowField$Texts" cX8_workOut 3 d := C
  have hr : (mH μ).sig.returnType = some .int := hr
  show G μ ω (RQ μ ω (pI (opK 10103 a b) σ)) 0 [some (.int 61), some (.int a), some (.int b)] [] (mk σ) 0 0
  refine g_il0n (pc := 0) C dX8_workOut_0 ?_
  refine g_lookup (pc := 1) (tgt := 133) (off := 132) C dX8_workOut_1 (by decide) (by decide) (by decide) ?_
  refine g_il1n (pc := 133) C dX8_workOut_133 ?_
  refine g_il2n (pc := 134) C dX8_workOut_134 ?_
  refine g_icmp_ne (pc := 135) (tgt := 142) C dX8_workOut_135 (by decide) (fun c_135 => ?_) (fun c_135 => ?_)
  · refine g_iconst (pc := 142) (v := 0) C dX8_workOut_142 (by decide) ?_
    exact r_I C hr dX8_workOut_143 (by simp [opK, c_135]) rfl
  · refine g_iconst (pc := 138) (v := 1) C dX8_workOut_138 (by decide) ?_
    refine g_goto (pc := 139) (tgt := 143) C dX8_workOut_139 (by decide) ?_
    exact r_I C hr dX8_workOut_143 (by simp [opK, c_135]) rfl

theorem c_work62 {d : Nat} (hd : 1 ≤ d) (σ : Sg) (a b : Int32) : CI d mX8_workOut [.int 62, .int a, .int b] σ (opK 10104 a b) σ := by
  refine con_of (by decide) (catL rfl) (Nat.le_of_ble_eq_true rfl) ?_
  intro μ ω C hr
  have C : Cx μ ω "TowField$Texts" cX8_workOut 3 d := C
  have hr : (mH μ).sig.returnType = some .int := hr
  show G μ ω (RQ μ ω (pI (opK 10104 a b) σ)) 0 [some (.int 62), some (.int a), some (.int b)] [] (mk σ) 0 0
  refine g_il0n (pc := 0) C dX8_workOut_0 ?_
  refine g_lookup (pc := 1) (tgt := 144) (off := 143) C dX8_workOut_1 (by decide) (by decide) (by decide) ?_
  refine g_il1n (pc := 144) C dX8_workOut_144 ?_
  refine g_il2n (pc := 145) C dX8_workOut_145 ?_
  refine g_icmp_leL (pc := 146) (tgt := 153) C dX8_workOut_146 (by decide) (fun c_146 => ?_) (fun c_146 => ?_)
  · refine g_iconst (pc := 153) (v := 0) C dX8_workOut_153 (by decide) ?_
    exact r_I C hr dX8_workOut_154 (by simp [opK, c_146]) rfl
  · refine g_iconst (pc := 149) (v := 1) C dX8_workOut_149 (by decide) ?_
    refine g_goto (pc := 150) (tgt := 154) C dX8_workOut_150 (by decide) ?_
    exact r_I C hr dX8_workOut_154 (by simp [opK, c_146]) rfl

theorem c_work38 {d : Nat} (hd : 1 ≤ d) (σ : Sg) (a b : Int32) : CI d mX8_workOut [.int 38, .int a, .int b] σ (opK 10105 a b) σ := by
  refine con_of (by decide) (catL rfl) (Nat.le_of_ble_eq_true rfl) ?_
  intro μ ω C hr
  have C : Cx μ ω "TowField$Texts" cX8_workOut 3 d := C
  have hr : (mH μ).sig.returnType = some .int := hr
  show G μ ω (RQ μ ω (pI (opK 10105 a b) σ)) 0 [some (.int 38), some (.int a), some (.int b)] [] (mk σ) 0 0
  refine g_il0n (pc := 0) C dX8_workOut_0 ?_
  refine g_lookup (pc := 1) (tgt := 98) (off := 97) C dX8_workOut_1 (by decide) (by decide) (by decide) ?_
  refine g_il1n (pc := 98) C dX8_workOut_98 ?_
  refine g_if_eq (pc := 99) (tgt := 110) C dX8_workOut_99 (by decide) (fun c_99 => ?_) (fun c_99 => ?_)
  · refine g_iconst (pc := 110) (v := 0) C dX8_workOut_110 (by decide) ?_
    exact r_I C hr dX8_workOut_111 (by simp [opK, c_99]) rfl
  · refine g_il2n (pc := 102) C dX8_workOut_102 ?_
    refine g_if_eq (pc := 103) (tgt := 110) C dX8_workOut_103 (by decide) (fun c_103 => ?_) (fun c_103 => ?_)
    · refine g_iconst (pc := 110) (v := 0) C dX8_workOut_110 (by decide) ?_
      exact r_I C hr dX8_workOut_111 (by simp [opK, c_99, c_103]) rfl
    · refine g_iconst (pc := 106) (v := 1) C dX8_workOut_106 (by decide) ?_
      refine g_goto (pc := 107) (tgt := 111) C dX8_workOut_107 (by decide) ?_
      exact r_I C hr dX8_workOut_111 (by simp [opK, c_99, c_103]) rfl

theorem c_work124 {d : Nat} (hd : 1 ≤ d) (σ : Sg) (a b : Int32) : CI d mX8_workOut [.int 124, .int a, .int b] σ (opK 10106 a b) σ := by
  refine con_of (by decide) (catL rfl) (Nat.le_of_ble_eq_true rfl) ?_
  intro μ ω C hr
  have C : Cx μ ω "TowField$Texts" cX8_workOut 3 d := C
  have hr : (mH μ).sig.returnType = some .int := hr
  show G μ ω (RQ μ ω (pI (opK 10106 a b) σ)) 0 [some (.int 124), some (.int a), some (.int b)] [] (mk σ) 0 0
  refine g_il0n (pc := 0) C dX8_workOut_0 ?_
  refine g_lookup (pc := 1) (tgt := 84) (off := 83) C dX8_workOut_1 (by decide) (by decide) (by decide) ?_
  refine g_il1n (pc := 84) C dX8_workOut_84 ?_
  refine g_if_ne (pc := 85) (tgt := 92) C dX8_workOut_85 (by decide) (fun c_85 => ?_) (fun c_85 => ?_)
  · refine g_iconst (pc := 92) (v := 1) C dX8_workOut_92 (by decide) ?_
    refine g_goto (pc := 93) (tgt := 97) C dX8_workOut_93 (by decide) ?_
    exact r_I C hr dX8_workOut_97 (by simp [opK, c_85]) rfl
  · refine g_il2n (pc := 88) C dX8_workOut_88 ?_
    refine g_if_eq (pc := 89) (tgt := 96) C dX8_workOut_89 (by decide) (fun c_89 => ?_) (fun c_89 => ?_)
    · refine g_iconst (pc := 96) (v := 0) C dX8_workOut_96 (by decide) ?_
      exact r_I C hr dX8_workOut_97 (by simp [opK, c_85, c_89]) rfl
    · refine g_iconst (pc := 92) (v := 1) C dX8_workOut_92 (by decide) ?_
      refine g_goto (pc := 93) (tgt := 97) C dX8_workOut_93 (by decide) ?_
      exact r_I C hr dX8_workOut_97 (by simp [opK, c_85, c_89]) rfl

theorem c_work42 {d : Nat} (hd : 1 ≤ d) (σ : Sg) (a b : Int32) : CI d mX8_workOut [.int 42, .int a, .int b] σ (opK 10108 a b) σ := by
  refine con_of (by decide) (catL rfl) (Nat.le_of_ble_eq_true rfl) ?_
  intro μ ω C hr
  have C : Cx μ ω "TowField$Texts" cX8_workOut 3 d := C
  have hr : (mH μ).sig.returnType = some .int := hr
  show G μ ω (RQ μ ω (pI (opK 10108 a b) σ)) 0 [some (.int 42), some (.int a), some (.int b)] [] (mk σ) 0 0
  refine g_il0n (pc := 0) C dX8_workOut_0 ?_
  refine g_lookup (pc := 1) (tgt := 163) (off := 162) C dX8_workOut_1 (by decide) (by decide) (by decide) ?_
  refine g_il1n (pc := 163) C dX8_workOut_163 ?_
  refine g_il2n (pc := 164) C dX8_workOut_164 ?_
  refine g_imul (pc := 165) C dX8_workOut_165 ?_
  exact r_I C hr dX8_workOut_166 (by simp [opK]) rfl

theorem c_work47 {d : Nat} (hd : 1 ≤ d) (σ : Sg) (a b : Int32) : CI d mX8_workOut [.int 47, .int a, .int b] σ (opK 10109 a b) σ := by
  refine con_of (by decide) (catL rfl) (Nat.le_of_ble_eq_true rfl) ?_
  intro μ ω C hr
  have C : Cx μ ω "TowField$Texts" cX8_workOut 3 d := C
  have hr : (mH μ).sig.returnType = some .int := hr
  show G μ ω (RQ μ ω (pI (opK 10109 a b) σ)) 0 [some (.int 47), some (.int a), some (.int b)] [] (mk σ) 0 0
  refine g_il0n (pc := 0) C dX8_workOut_0 ?_
  refine g_lookup (pc := 1) (tgt := 167) (off := 166) C dX8_workOut_1 (by decide) (by decide) (by decide) ?_
  refine g_il2n (pc := 167) C dX8_workOut_167 ?_
  refine g_if_ne (pc := 168) (tgt := 175) C dX8_workOut_168 (by decide) (fun c_168 => ?_) (fun c_168 => ?_)
  · refine g_il1n (pc := 175) C dX8_workOut_175 ?_
    refine g_il2n (pc := 176) C dX8_workOut_176 ?_
    refine g_idiv (pc := 177) C dX8_workOut_177 c_168 ?_
    exact r_I C hr dX8_workOut_178 (by simp [opK, c_168]) rfl
  · refine g_iconst (pc := 171) (v := 0) C dX8_workOut_171 (by decide) ?_
    refine g_goto (pc := 172) (tgt := 178) C dX8_workOut_172 (by decide) ?_
    exact r_I C hr dX8_workOut_178 (by simp [opK, c_168]) rfl

theorem c_work33 {d : Nat} (hd : 1 ≤ d) (σ : Sg) (a b : Int32) : CI d mX8_workOut [.int 33, .int a, .int b] σ (if b = 0 then 1 else 0) σ := by
  refine con_of (by decide) (catL rfl) (Nat.le_of_ble_eq_true rfl) ?_
  intro μ ω C hr
  have C : Cx μ ω "TowField$Texts" cX8_workOut 3 d := C
  have hr : (mH μ).sig.returnType = some .int := hr
  show G μ ω (RQ μ ω (pI (if b = 0 then 1 else 0) σ)) 0 [some (.int 33), some (.int a), some (.int b)] [] (mk σ) 0 0
  refine g_il0n (pc := 0) C dX8_workOut_0 ?_
  refine g_lookup (pc := 1) (tgt := 112) (off := 111) C dX8_workOut_1 (by decide) (by decide) (by decide) ?_
  refine g_il2n (pc := 112) C dX8_workOut_112 ?_
  refine g_if_ne (pc := 113) (tgt := 120) C dX8_workOut_113 (by decide) (fun c_113 => ?_) (fun c_113 => ?_)
  · refine g_iconst (pc := 120) (v := 0) C dX8_workOut_120 (by decide) ?_
    exact r_I C hr dX8_workOut_121 (by simp [c_113]) rfl
  · refine g_iconst (pc := 116) (v := 1) C dX8_workOut_116 (by decide) ?_
    refine g_goto (pc := 117) (tgt := 121) C dX8_workOut_117 (by decide) ?_
    exact r_I C hr dX8_workOut_121 (by simp [c_113]) rfl

theorem neg_sub_lt {k : Nat} (hk : k < 10000) : (-1 : Int32) - nI k < 0 := by
  rw [Int32.lt_iff_toInt_lt, Int32.toInt_sub, nI_toInt (by omega)]
  have h1 : (-1 : Int32).toInt = -1 := rfl
  have h0 : (0 : Int32).toInt = 0 := rfl
  rw [h1, h0, Int.bmod_eq_of_le (by omega) (by omega)]
  omega
theorem c_pushN {d : Nat} (hd : 1 ≤ d) (σ : Sg) {k t : Nat} (hk : k < 10000) (ht : t < 100) : CI d mX8_push [.ref 1, .int (nI k), .int (nI t)] σ (nI (t + 1)) (up σ 11 t (nI k)) := by
  have hl := neg_sub_lt hk
  refine con_of (by decide) (catL rfl) (Nat.le_of_ble_eq_true rfl) ?_
  intro μ ω C hr
  have C : Cx μ ω "TowField$Texts" cX8_push 4 d := C
  have hr : (mH μ).sig.returnType = some .int := hr
  show G μ ω (RQ μ ω (pI (nI (t + 1)) (up σ 11 t (nI k)))) 0 [some (.ref 1), some (.int (nI k)), some (.int (nI t)), none] [] (mk σ) 0 0
  refine g_iconst (pc := 0) (v := (-1)) C dX8_push_0 (by decide) ?_
  refine g_il1n (pc := 1) C dX8_push_1 ?_
  refine g_isub (pc := 2) C dX8_push_2 ?_
  refine g_is3n (pc := 3) C dX8_push_3 ?_
  refine g_il2n (pc := 4) C dX8_push_4 ?_
  refine g_bipush (pc := 5) (v := 100) C dX8_push_5 (by decide) ?_
  refine g_icmp_geL (pc := 7) (tgt := 15) C dX8_push_7 (by decide) (fun c_7 => absurd (nI_lt (b := 100) ht (by decide)) c_7) (fun c_7 => ?_)
  refine g_il3n (pc := 10) C dX8_push_10 ?_
  refine g_iconst (pc := 11) (v := 4) C dX8_push_11 (by decide) ?_
  refine g_icmp_lt (pc := 12) (tgt := 17) C dX8_push_12 (by decide) (fun c_12 => ?_) (fun c_12 => absurd (Int32.lt_trans hl (by decide)) c_12)
  refine g_al0n (pc := 17) C dX8_push_17 ?_
  refine s_getR (pc := 18) C fX8_23 h1 rfl dX8_push_18 ?_
  refine g_il2n (pc := 21) C dX8_push_21 ?_
  refine g_il3n (pc := 22) C dX8_push_22 ?_
  refine g_if_geL (pc := 23) (tgt := 30) C dX8_push_23 (by decide) (fun c_23 => absurd hl c_23) (fun c_23 => ?_)
  refine g_il1n (pc := 26) C dX8_push_26 ?_
  refine g_goto (pc := 27) (tgt := 36) C dX8_push_27 (by decide) ?_
  refine s_iast (pc := 36) (q := t) C h11 rfl (by omega) (Nat.le_of_ble_eq_true rfl) dX8_push_36 ?_
  refine g_il2n (pc := 37) C dX8_push_37 ?_
  refine g_iconst (pc := 38) (v := 1) C dX8_push_38 (by decide) ?_
  refine g_iadd (pc := 39) C dX8_push_39 ?_
  exact r_I C hr dX8_push_40 (nI_1 _) rfl

theorem c_pushV0 {d : Nat} (hd : 1 ≤ d) (σ : Sg) {t : Nat} (ht : t < 100) : CI d mX8_push [.ref 1, .int ((-1)), .int (nI t)] σ (nI (t + 1)) (up σ 11 t (σ 10 0)) := by
  refine con_of (by decide) (catL rfl) (Nat.le_of_ble_eq_true rfl) ?_
  intro μ ω C hr
  have C : Cx μ ω "TowField$Texts" cX8_push 4 d := C
  have hr : (mH μ).sig.returnType = some .int := hr
  show G μ ω (RQ μ ω (pI (nI (t + 1)) (up σ 11 t (σ 10 0)))) 0 [some (.ref 1), some (.int ((-1))), some (.int (nI t)), none] [] (mk σ) 0 0
  refine g_iconst (pc := 0) (v := (-1)) C dX8_push_0 (by decide) ?_
  refine g_il1n (pc := 1) C dX8_push_1 ?_
  refine g_isub (pc := 2) C dX8_push_2 ?_
  refine g_is3n (pc := 3) C dX8_push_3 ?_
  refine g_il2n (pc := 4) C dX8_push_4 ?_
  refine g_bipush (pc := 5) (v := 100) C dX8_push_5 (by decide) ?_
  refine g_icmp_geL (pc := 7) (tgt := 15) C dX8_push_7 (by decide) (fun c_7 => absurd (nI_lt (b := 100) ht (by decide)) c_7) (fun c_7 => ?_)
  refine g_il3n (pc := 10) C dX8_push_10 ?_
  refine g_iconst (pc := 11) (v := 4) C dX8_push_11 (by decide) ?_
  refine g_icmp_lt (pc := 12) (tgt := 17) C dX8_push_12 (by decide) (fun c_12 => ?_) (fun c_12 => absurd (by decide) c_12)
  refine g_al0n (pc := 17) C dX8_push_17 ?_
  refine s_getR (pc := 18) C fX8_23 h1 rfl dX8_push_18 ?_
  refine g_il2n (pc := 21) C dX8_push_21 ?_
  refine g_il3n (pc := 22) C dX8_push_22 ?_
  refine g_if_geL (pc := 23) (tgt := 30) C dX8_push_23 (by decide) (fun c_23 => ?_) (fun c_23 => absurd c_23 (by decide))
  refine g_al0n (pc := 30) C dX8_push_30 ?_
  refine s_getR (pc := 31) C fX8_20 h1 rfl dX8_push_31 ?_
  refine g_il3n (pc := 34) C dX8_push_34 ?_
  refine s_iald (pc := 35) (q := 0) C h10 (by decide) (by decide) (Nat.le_of_ble_eq_true rfl) dX8_push_35 ?_
  refine s_iast (pc := 36) (q := t) C h11 rfl (by omega) (Nat.le_of_ble_eq_true rfl) dX8_push_36 ?_
  refine g_il2n (pc := 37) C dX8_push_37 ?_
  refine g_iconst (pc := 38) (v := 1) C dX8_push_38 (by decide) ?_
  refine g_iadd (pc := 39) C dX8_push_39 ?_
  exact r_I C hr dX8_push_40 (nI_1 _) rfl

theorem c_pushV1 {d : Nat} (hd : 1 ≤ d) (σ : Sg) {t : Nat} (ht : t < 100) : CI d mX8_push [.ref 1, .int ((-2)), .int (nI t)] σ (nI (t + 1)) (up σ 11 t (σ 10 1)) := by
  refine con_of (by decide) (catL rfl) (Nat.le_of_ble_eq_true rfl) ?_
  intro μ ω C hr
  have C : Cx μ ω "TowField$Texts" cX8_push 4 d := C
  have hr : (mH μ).sig.returnType = some .int := hr
  show G μ ω (RQ μ ω (pI (nI (t + 1)) (up σ 11 t (σ 10 1)))) 0 [some (.ref 1), some (.int ((-2))), some (.int (nI t)), none] [] (mk σ) 0 0
  refine g_iconst (pc := 0) (v := (-1)) C dX8_push_0 (by decide) ?_
  refine g_il1n (pc := 1) C dX8_push_1 ?_
  refine g_isub (pc := 2) C dX8_push_2 ?_
  refine g_is3n (pc := 3) C dX8_push_3 ?_
  refine g_il2n (pc := 4) C dX8_push_4 ?_
  refine g_bipush (pc := 5) (v := 100) C dX8_push_5 (by decide) ?_
  refine g_icmp_geL (pc := 7) (tgt := 15) C dX8_push_7 (by decide) (fun c_7 => absurd (nI_lt (b := 100) ht (by decide)) c_7) (fun c_7 => ?_)
  refine g_il3n (pc := 10) C dX8_push_10 ?_
  refine g_iconst (pc := 11) (v := 4) C dX8_push_11 (by decide) ?_
  refine g_icmp_lt (pc := 12) (tgt := 17) C dX8_push_12 (by decide) (fun c_12 => ?_) (fun c_12 => absurd (by decide) c_12)
  refine g_al0n (pc := 17) C dX8_push_17 ?_
  refine s_getR (pc := 18) C fX8_23 h1 rfl dX8_push_18 ?_
  refine g_il2n (pc := 21) C dX8_push_21 ?_
  refine g_il3n (pc := 22) C dX8_push_22 ?_
  refine g_if_geL (pc := 23) (tgt := 30) C dX8_push_23 (by decide) (fun c_23 => ?_) (fun c_23 => absurd c_23 (by decide))
  refine g_al0n (pc := 30) C dX8_push_30 ?_
  refine s_getR (pc := 31) C fX8_20 h1 rfl dX8_push_31 ?_
  refine g_il3n (pc := 34) C dX8_push_34 ?_
  refine s_iald (pc := 35) (q := 1) C h10 (by decide) (by decide) (Nat.le_of_ble_eq_true rfl) dX8_push_35 ?_
  refine s_iast (pc := 36) (q := t) C h11 rfl (by omega) (Nat.le_of_ble_eq_true rfl) dX8_push_36 ?_
  refine g_il2n (pc := 37) C dX8_push_37 ?_
  refine g_iconst (pc := 38) (v := 1) C dX8_push_38 (by decide) ?_
  refine g_iadd (pc := 39) C dX8_push_39 ?_
  exact r_I C hr dX8_push_40 (nI_1 _) rfl

theorem c_pushV2 {d : Nat} (hd : 1 ≤ d) (σ : Sg) {t : Nat} (ht : t < 100) : CI d mX8_push [.ref 1, .int ((-3)), .int (nI t)] σ (nI (t + 1)) (up σ 11 t (σ 10 2)) := by
  refine con_of (by decide) (catL rfl) (Nat.le_of_ble_eq_true rfl) ?_
  intro μ ω C hr
  have C : Cx μ ω "TowField$Texts" cX8_push 4 d := C
  have hr : (mH μ).sig.returnType = some .int := hr
  show G μ ω (RQ μ ω (pI (nI (t + 1)) (up σ 11 t (σ 10 2)))) 0 [some (.ref 1), some (.int ((-3))), some (.int (nI t)), none] [] (mk σ) 0 0
  refine g_iconst (pc := 0) (v := (-1)) C dX8_push_0 (by decide) ?_
  refine g_il1n (pc := 1) C dX8_push_1 ?_
  refine g_isub (pc := 2) C dX8_push_2 ?_
  refine g_is3n (pc := 3) C dX8_push_3 ?_
  refine g_il2n (pc := 4) C dX8_push_4 ?_
  refine g_bipush (pc := 5) (v := 100) C dX8_push_5 (by decide) ?_
  refine g_icmp_geL (pc := 7) (tgt := 15) C dX8_push_7 (by decide) (fun c_7 => absurd (nI_lt (b := 100) ht (by decide)) c_7) (fun c_7 => ?_)
  refine g_il3n (pc := 10) C dX8_push_10 ?_
  refine g_iconst (pc := 11) (v := 4) C dX8_push_11 (by decide) ?_
  refine g_icmp_lt (pc := 12) (tgt := 17) C dX8_push_12 (by decide) (fun c_12 => ?_) (fun c_12 => absurd (by decide) c_12)
  refine g_al0n (pc := 17) C dX8_push_17 ?_
  refine s_getR (pc := 18) C fX8_23 h1 rfl dX8_push_18 ?_
  refine g_il2n (pc := 21) C dX8_push_21 ?_
  refine g_il3n (pc := 22) C dX8_push_22 ?_
  refine g_if_geL (pc := 23) (tgt := 30) C dX8_push_23 (by decide) (fun c_23 => ?_) (fun c_23 => absurd c_23 (by decide))
  refine g_al0n (pc := 30) C dX8_push_30 ?_
  refine s_getR (pc := 31) C fX8_20 h1 rfl dX8_push_31 ?_
  refine g_il3n (pc := 34) C dX8_push_34 ?_
  refine s_iald (pc := 35) (q := 2) C h10 (by decide) (by decide) (Nat.le_of_ble_eq_true rfl) dX8_push_35 ?_
  refine s_iast (pc := 36) (q := t) C h11 rfl (by omega) (Nat.le_of_ble_eq_true rfl) dX8_push_36 ?_
  refine g_il2n (pc := 37) C dX8_push_37 ?_
  refine g_iconst (pc := 38) (v := 1) C dX8_push_38 (by decide) ?_
  refine g_iadd (pc := 39) C dX8_push_39 ?_
  exact r_I C hr dX8_push_40 (nI_1 _) rfl

theorem c_pushV3 {d : Nat} (hd : 1 ≤ d) (σ : Sg) {t : Nat} (ht : t < 100) : CI d mX8_push [.ref 1, .int ((-4)), .int (nI t)] σ (nI (t + 1)) (up σ 11 t (σ 10 3)) := by
  refine con_of (by decide) (catL rfl) (Nat.le_of_ble_eq_true rfl) ?_
  intro μ ω C hr
  have C : Cx μ ω "TowField$Texts" cX8_push 4 d := C
  have hr : (mH μ).sig.returnType = some .int := hr
  show G μ ω (RQ μ ω (pI (nI (t + 1)) (up σ 11 t (σ 10 3)))) 0 [some (.ref 1), some (.int ((-4))), some (.int (nI t)), none] [] (mk σ) 0 0
  refine g_iconst (pc := 0) (v := (-1)) C dX8_push_0 (by decide) ?_
  refine g_il1n (pc := 1) C dX8_push_1 ?_
  refine g_isub (pc := 2) C dX8_push_2 ?_
  refine g_is3n (pc := 3) C dX8_push_3 ?_
  refine g_il2n (pc := 4) C dX8_push_4 ?_
  refine g_bipush (pc := 5) (v := 100) C dX8_push_5 (by decide) ?_
  refine g_icmp_geL (pc := 7) (tgt := 15) C dX8_push_7 (by decide) (fun c_7 => absurd (nI_lt (b := 100) ht (by decide)) c_7) (fun c_7 => ?_)
  refine g_il3n (pc := 10) C dX8_push_10 ?_
  refine g_iconst (pc := 11) (v := 4) C dX8_push_11 (by decide) ?_
  refine g_icmp_lt (pc := 12) (tgt := 17) C dX8_push_12 (by decide) (fun c_12 => ?_) (fun c_12 => absurd (by decide) c_12)
  refine g_al0n (pc := 17) C dX8_push_17 ?_
  refine s_getR (pc := 18) C fX8_23 h1 rfl dX8_push_18 ?_
  refine g_il2n (pc := 21) C dX8_push_21 ?_
  refine g_il3n (pc := 22) C dX8_push_22 ?_
  refine g_if_geL (pc := 23) (tgt := 30) C dX8_push_23 (by decide) (fun c_23 => ?_) (fun c_23 => absurd c_23 (by decide))
  refine g_al0n (pc := 30) C dX8_push_30 ?_
  refine s_getR (pc := 31) C fX8_20 h1 rfl dX8_push_31 ?_
  refine g_il3n (pc := 34) C dX8_push_34 ?_
  refine s_iald (pc := 35) (q := 3) C h10 (by decide) (by decide) (Nat.le_of_ble_eq_true rfl) dX8_push_35 ?_
  refine s_iast (pc := 36) (q := t) C h11 rfl (by omega) (Nat.le_of_ble_eq_true rfl) dX8_push_36 ?_
  refine g_il2n (pc := 37) C dX8_push_37 ?_
  refine g_iconst (pc := 38) (v := 1) C dX8_push_38 (by decide) ?_
  refine g_iadd (pc := 39) C dX8_push_39 ?_
  exact r_I C hr dX8_push_40 (nI_1 _) rfl

theorem c_stepN {d : Nat} (hd : 2 ≤ d) (σ : Sg) {k t : Nat} (hk : k < 10000) (ht : t < 100) : CI d mX8_step [.ref 1, .int (nI k), .int (nI t)] σ (nI (t + 1)) (up σ 11 t (nI k)) := by
  refine con_of (by decide) (catL rfl) (Nat.le_of_ble_eq_true rfl) ?_
  intro μ ω C hr
  have C : Cx μ ω "TowField$Texts" cX8_step 5 d := C
  have hr : (mH μ).sig.returnType = some .int := hr
  show G μ ω (RQ μ ω (pI (nI (t + 1)) (up σ 11 t (nI k)))) 0 [some (.ref 1), some (.int (nI k)), some (.int (nI t)), none, none] [] (mk σ) 0 0
  refine g_il1n (pc := 0) C dX8_step_0 ?_
  refine g_bipush (pc := 1) (v := (-100)) C dX8_step_1 (by decide) ?_
  refine g_icmp_leL (pc := 3) (tgt := 13) C dX8_step_3 (by decide) (fun c_3 => absurd (Int32.lt_of_lt_of_le (show (-100 : Int32) < 0 by decide) (nI_pos' (by omega))) c_3) (fun c_3 => ?_)
  refine g_al0n (pc := 6) C dX8_step_6 ?_
  refine g_il1n (pc := 7) C dX8_step_7 ?_
  refine g_il2n (pc := 8) C dX8_step_8 ?_
  refine s_VI (pc := 9) (st := []) C h1 rfl (c_pushN (d := d - 1) (by omega) σ hk ht) (by omega) lX8_36 dX8_step_9 rfl (Nat.le_of_ble_eq_true rfl) rfl ?_
  exact r_I C hr dX8_step_12 rfl rfl

theorem c_stepV0 {d : Nat} (hd : 2 ≤ d) (σ : Sg) {t : Nat} (ht : t < 100) : CI d mX8_step [.ref 1, .int ((-1)), .int (nI t)] σ (nI (t + 1)) (up σ 11 t (σ 10 0)) := by
  refine con_of (by decide) (catL rfl) (Nat.le_of_ble_eq_true rfl) ?_
  intro μ ω C hr
  have C : Cx μ ω "TowField$Texts" cX8_step 5 d := C
  have hr : (mH μ).sig.returnType = some .int := hr
  show G μ ω (RQ μ ω (pI (nI (t + 1)) (up σ 11 t (σ 10 0)))) 0 [some (.ref 1), some (.int ((-1))), some (.int (nI t)), none, none] [] (mk σ) 0 0
  refine g_il1n (pc := 0) C dX8_step_0 ?_
  refine g_bipush (pc := 1) (v := (-100)) C dX8_step_1 (by decide) ?_
  refine g_icmp_leL (pc := 3) (tgt := 13) C dX8_step_3 (by decide) (fun c => absurd c (by decide)) (fun _ => ?_)
  refine g_al0n (pc := 6) C dX8_step_6 ?_
  refine g_il1n (pc := 7) C dX8_step_7 ?_
  refine g_il2n (pc := 8) C dX8_step_8 ?_
  refine s_VI (pc := 9) (st := []) C h1 rfl (c_pushV0 (d := d - 1) (by omega) σ ht) (by omega) lX8_36 dX8_step_9 rfl (Nat.le_of_ble_eq_true rfl) rfl ?_
  exact r_I C hr dX8_step_12 rfl rfl

theorem c_stepV1 {d : Nat} (hd : 2 ≤ d) (σ : Sg) {t : Nat} (ht : t < 100) : CI d mX8_step [.ref 1, .int ((-2)), .int (nI t)] σ (nI (t + 1)) (up σ 11 t (σ 10 1)) := by
  refine con_of (by decide) (catL rfl) (Nat.le_of_ble_eq_true rfl) ?_
  intro μ ω C hr
  have C : Cx μ ω "TowField$Texts" cX8_step 5 d := C
  have hr : (mH μ).sig.returnType = some .int := hr
  show G μ ω (RQ μ ω (pI (nI (t + 1)) (up σ 11 t (σ 10 1)))) 0 [some (.ref 1), some (.int ((-2))), some (.int (nI t)), none, none] [] (mk σ) 0 0
  refine g_il1n (pc := 0) C dX8_step_0 ?_
  refine g_bipush (pc := 1) (v := (-100)) C dX8_step_1 (by decide) ?_
  refine g_icmp_leL (pc := 3) (tgt := 13) C dX8_step_3 (by decide) (fun c => absurd c (by decide)) (fun _ => ?_)
  refine g_al0n (pc := 6) C dX8_step_6 ?_
  refine g_il1n (pc := 7) C dX8_step_7 ?_
  refine g_il2n (pc := 8) C dX8_step_8 ?_
  refine s_VI (pc := 9) (st := []) C h1 rfl (c_pushV1 (d := d - 1) (by omega) σ ht) (by omega) lX8_36 dX8_step_9 rfl (Nat.le_of_ble_eq_true rfl) rfl ?_
  exact r_I C hr dX8_step_12 rfl rfl

theorem c_stepV2 {d : Nat} (hd : 2 ≤ d) (σ : Sg) {t : Nat} (ht : t < 100) : CI d mX8_step [.ref 1, .int ((-3)), .int (nI t)] σ (nI (t + 1)) (up σ 11 t (σ 10 2)) := by
  refine con_of (by decide) (catL rfl) (Nat.le_of_ble_eq_true rfl) ?_
  intro μ ω C hr
  have C : Cx μ ω "TowField$Texts" cX8_step 5 d := C
  have hr : (mH μ).sig.returnType = some .int := hr
  show G μ ω (RQ μ ω (pI (nI (t + 1)) (up σ 11 t (σ 10 2)))) 0 [some (.ref 1), some (.int ((-3))), some (.int (nI t)), none, none] [] (mk σ) 0 0
  refine g_il1n (pc := 0) C dX8_step_0 ?_
  refine g_bipush (pc := 1) (v := (-100)) C dX8_step_1 (by decide) ?_
  refine g_icmp_leL (pc := 3) (tgt := 13) C dX8_step_3 (by decide) (fun c => absurd c (by decide)) (fun _ => ?_)
  refine g_al0n (pc := 6) C dX8_step_6 ?_
  refine g_il1n (pc := 7) C dX8_step_7 ?_
  refine g_il2n (pc := 8) C dX8_step_8 ?_
  refine s_VI (pc := 9) (st := []) C h1 rfl (c_pushV2 (d := d - 1) (by omega) σ ht) (by omega) lX8_36 dX8_step_9 rfl (Nat.le_of_ble_eq_true rfl) rfl ?_
  exact r_I C hr dX8_step_12 rfl rfl

theorem c_stepV3 {d : Nat} (hd : 2 ≤ d) (σ : Sg) {t : Nat} (ht : t < 100) : CI d mX8_step [.ref 1, .int ((-4)), .int (nI t)] σ (nI (t + 1)) (up σ 11 t (σ 10 3)) := by
  refine con_of (by decide) (catL rfl) (Nat.le_of_ble_eq_true rfl) ?_
  intro μ ω C hr
  have C : Cx μ ω "TowField$Texts" cX8_step 5 d := C
  have hr : (mH μ).sig.returnType = some .int := hr
  show G μ ω (RQ μ ω (pI (nI (t + 1)) (up σ 11 t (σ 10 3)))) 0 [some (.ref 1), some (.int ((-4))), some (.int (nI t)), none, none] [] (mk σ) 0 0
  refine g_il1n (pc := 0) C dX8_step_0 ?_
  refine g_bipush (pc := 1) (v := (-100)) C dX8_step_1 (by decide) ?_
  refine g_icmp_leL (pc := 3) (tgt := 13) C dX8_step_3 (by decide) (fun c => absurd c (by decide)) (fun _ => ?_)
  refine g_al0n (pc := 6) C dX8_step_6 ?_
  refine g_il1n (pc := 7) C dX8_step_7 ?_
  refine g_il2n (pc := 8) C dX8_step_8 ?_
  refine s_VI (pc := 9) (st := []) C h1 rfl (c_pushV3 (d := d - 1) (by omega) σ ht) (by omega) lX8_36 dX8_step_9 rfl (Nat.le_of_ble_eq_true rfl) rfl ?_
  exact r_I C hr dX8_step_12 rfl rfl

theorem c_step10100 {d : Nat} (hd : 2 ≤ d) (σ : Sg) {t : Nat} (ht : t + 2 ≤ 100) : CI d mX8_step [.ref 1, .int ((-143)), .int (nI (t + 2))] σ (nI (t + 1)) (up σ 11 t (opK 10100 (σ 11 t) (σ 11 (t + 1)))) := by
  refine con_of (by decide) (catL rfl) (Nat.le_of_ble_eq_true rfl) ?_
  intro μ ω C hr
  have C : Cx μ ω "TowField$Texts" cX8_step 5 d := C
  have hr : (mH μ).sig.returnType = some .int := hr
  show G μ ω (RQ μ ω (pI (nI (t + 1)) (up σ 11 t (opK 10100 (σ 11 t) (σ 11 (t + 1)))))) 0 [some (.ref 1), some (.int ((-143))), some (.int (nI (t + 2))), none, none] [] (mk σ) 0 0
  refine g_il1n (pc := 0) C dX8_step_0 ?_
  refine g_bipush (pc := 1) (v := (-100)) C dX8_step_1 (by decide) ?_
  refine g_icmp_leL (pc := 3) (tgt := 13) C dX8_step_3 (by decide) (fun _ => ?_) (fun c => absurd c (by decide))
  refine g_bipush (pc := 13) (v := (-100)) C dX8_step_13 (by decide) ?_
  refine g_il1n (pc := 15) C dX8_step_15 ?_
  refine g_isub (pc := 16) C dX8_step_16 ?_
  rw [show (-100 : Int32) - (-143) = 43 by decide]
  refine g_is3n (pc := 17) C dX8_step_17 ?_
  refine g_il3n (pc := 18) C dX8_step_18 ?_
  refine g_bipush (pc := 19) (v := 33) C dX8_step_19 (by decide) ?_
  refine g_icmp_ne (pc := 21) (tgt := 30) C dX8_step_21 (by decide) (fun _ => ?_) (fun c => absurd c (by decide))
  refine g_il2n (pc := 30) C dX8_step_30 ?_
  refine g_iconst (pc := 31) (v := 2) C dX8_step_31 (by decide) ?_
  refine g_isub (pc := 32) C dX8_step_32 ?_
  refine g_is4 (pc := 33) C dX8_step_33 ?_
  refine g_il4 (pc := 35) C dX8_step_35 ?_
  refine g_if_geL (pc := 37) (tgt := 42) C dX8_step_37 (by decide) (fun c_37 => ?_) (fun c_37 => absurd c_37 (by rw [nI_sub2]; exact nI_pos (by omega)))
  refine g_al0n (pc := 42) C dX8_step_42 ?_
  refine s_getR (pc := 43) C fX8_23 h1 rfl dX8_step_43 ?_
  refine g_il4 (pc := 46) C dX8_step_46 ?_
  refine g_il3n (pc := 48) C dX8_step_48 ?_
  refine g_al0n (pc := 49) C dX8_step_49 ?_
  refine s_getR (pc := 50) C fX8_23 h1 rfl dX8_step_50 ?_
  refine g_il4 (pc := 53) C dX8_step_53 ?_
  refine s_iald (pc := 55) (q := t) C h11 (by first | rfl | exact nI_sub2 _ | exact nI_pred _ | exact nI_sub1 _) (by omega) (Nat.le_of_ble_eq_true rfl) dX8_step_55 ?_
  refine g_al0n (pc := 56) C dX8_step_56 ?_
  refine s_getR (pc := 57) C fX8_23 h1 rfl dX8_step_57 ?_
  refine g_il2n (pc := 60) C dX8_step_60 ?_
  refine g_iconst (pc := 61) (v := 1) C dX8_step_61 (by decide) ?_
  refine g_isub (pc := 62) C dX8_step_62 ?_
  refine s_iald (pc := 63) (q := t + 1) C h11 (nI_sub1 t) (by omega) (Nat.le_of_ble_eq_true rfl) dX8_step_63 ?_
  refine s_SI (pc := 64) (st := [(.int ((nI (t + 2)) - 2)), (.ref 11)]) C (c_work43 (d := d - 1) (by omega) σ (σ 11 t) (σ 11 (t + 1))) (by omega) lX8_39 dX8_step_64 rfl (Nat.le_of_ble_eq_true rfl) rfl ?_
  refine s_iast (pc := 67) (q := t) C h11 (by first | rfl | exact nI_sub2 _ | exact nI_pred _ | exact nI_sub1 _) (by omega) (Nat.le_of_ble_eq_true rfl) dX8_step_67 ?_
  refine g_il4 (pc := 68) C dX8_step_68 ?_
  refine g_iconst (pc := 70) (v := 1) C dX8_step_70 (by decide) ?_
  refine g_iadd (pc := 71) C dX8_step_71 ?_
  exact r_I C hr dX8_step_72 (by rw [nI_sub2]; exact nI_1 _) rfl

theorem c_step10101 {d : Nat} (hd : 2 ≤ d) (σ : Sg) {t : Nat} (ht : t + 2 ≤ 100) : CI d mX8_step [.ref 1, .int ((-145)), .int (nI (t + 2))] σ (nI (t + 1)) (up σ 11 t (opK 10101 (σ 11 t) (σ 11 (t + 1)))) := by
  refine con_of (by decide) (catL rfl) (Nat.le_of_ble_eq_true rfl) ?_
  intro μ ω C hr
  have C : Cx μ ω "TowField$Texts" cX8_step 5 d := C
  have hr : (mH μ).sig.returnType = some .int := hr
  show G μ ω (RQ μ ω (pI (nI (t + 1)) (up σ 11 t (opK 10101 (σ 11 t) (σ 11 (t + 1)))))) 0 [some (.ref 1), some (.int ((-145))), some (.int (nI (t + 2))), none, none] [] (mk σ) 0 0
  refine g_il1n (pc := 0) C dX8_step_0 ?_
  refine g_bipush (pc := 1) (v := (-100)) C dX8_step_1 (by decide) ?_
  refine g_icmp_leL (pc := 3) (tgt := 13) C dX8_step_3 (by decide) (fun _ => ?_) (fun c => absurd c (by decide))
  refine g_bipush (pc := 13) (v := (-100)) C dX8_step_13 (by decide) ?_
  refine g_il1n (pc := 15) C dX8_step_15 ?_
  refine g_isub (pc := 16) C dX8_step_16 ?_
  rw [show (-100 : Int32) - (-145) = 45 by decide]
  refine g_is3n (pc := 17) C dX8_step_17 ?_
  refine g_il3n (pc := 18) C dX8_step_18 ?_
  refine g_bipush (pc := 19) (v := 33) C dX8_step_19 (by decide) ?_
  refine g_icmp_ne (pc := 21) (tgt := 30) C dX8_step_21 (by decide) (fun _ => ?_) (fun c => absurd c (by decide))
  refine g_il2n (pc := 30) C dX8_step_30 ?_
  refine g_iconst (pc := 31) (v := 2) C dX8_step_31 (by decide) ?_
  refine g_isub (pc := 32) C dX8_step_32 ?_
  refine g_is4 (pc := 33) C dX8_step_33 ?_
  refine g_il4 (pc := 35) C dX8_step_35 ?_
  refine g_if_geL (pc := 37) (tgt := 42) C dX8_step_37 (by decide) (fun c_37 => ?_) (fun c_37 => absurd c_37 (by rw [nI_sub2]; exact nI_pos (by omega)))
  refine g_al0n (pc := 42) C dX8_step_42 ?_
  refine s_getR (pc := 43) C fX8_23 h1 rfl dX8_step_43 ?_
  refine g_il4 (pc := 46) C dX8_step_46 ?_
  refine g_il3n (pc := 48) C dX8_step_48 ?_
  refine g_al0n (pc := 49) C dX8_step_49 ?_
  refine s_getR (pc := 50) C fX8_23 h1 rfl dX8_step_50 ?_
  refine g_il4 (pc := 53) C dX8_step_53 ?_
  refine s_iald (pc := 55) (q := t) C h11 (by first | rfl | exact nI_sub2 _ | exact nI_pred _ | exact nI_sub1 _) (by omega) (Nat.le_of_ble_eq_true rfl) dX8_step_55 ?_
  refine g_al0n (pc := 56) C dX8_step_56 ?_
  refine s_getR (pc := 57) C fX8_23 h1 rfl dX8_step_57 ?_
  refine g_il2n (pc := 60) C dX8_step_60 ?_
  refine g_iconst (pc := 61) (v := 1) C dX8_step_61 (by decide) ?_
  refine g_isub (pc := 62) C dX8_step_62 ?_
  refine s_iald (pc := 63) (q := t + 1) C h11 (nI_sub1 t) (by omega) (Nat.le_of_ble_eq_true rfl) dX8_step_63 ?_
  refine s_SI (pc := 64) (st := [(.int ((nI (t + 2)) - 2)), (.ref 11)]) C (c_work45 (d := d - 1) (by omega) σ (σ 11 t) (σ 11 (t + 1))) (by omega) lX8_39 dX8_step_64 rfl (Nat.le_of_ble_eq_true rfl) rfl ?_
  refine s_iast (pc := 67) (q := t) C h11 (by first | rfl | exact nI_sub2 _ | exact nI_pred _ | exact nI_sub1 _) (by omega) (Nat.le_of_ble_eq_true rfl) dX8_step_67 ?_
  refine g_il4 (pc := 68) C dX8_step_68 ?_
  refine g_iconst (pc := 70) (v := 1) C dX8_step_70 (by decide) ?_
  refine g_iadd (pc := 71) C dX8_step_71 ?_
  exact r_I C hr dX8_step_72 (by rw [nI_sub2]; exact nI_1 _) rfl

theorem c_step10102 {d : Nat} (hd : 2 ≤ d) (σ : Sg) {t : Nat} (ht : t + 2 ≤ 100) : CI d mX8_step [.ref 1, .int ((-160)), .int (nI (t + 2))] σ (nI (t + 1)) (up σ 11 t (opK 10102 (σ 11 t) (σ 11 (t + 1)))) := by
  refine con_of (by decide) (catL rfl) (Nat.le_of_ble_eq_true rfl) ?_
  intro μ ω C hr
  have C : Cx μ ω "TowField$Texts" cX8_step 5 d := C
  have hr : (mH μ).sig.returnType = some .int := hr
  show G μ ω (RQ μ ω (pI (nI (t + 1)) (up σ 11 t (opK 10102 (σ 11 t) (σ 11 (t + 1)))))) 0 [some (.ref 1), some (.int ((-160))), some (.int (nI (t + 2))), none, none] [] (mk σ) 0 0
  refine g_il1n (pc := 0) C dX8_step_0 ?_
  refine g_bipush (pc := 1) (v := (-100)) C dX8_step_1 (by decide) ?_
  refine g_icmp_leL (pc := 3) (tgt := 13) C dX8_step_3 (by decide) (fun _ => ?_) (fun c => absurd c (by decide))
  refine g_bipush (pc := 13) (v := (-100)) C dX8_step_13 (by decide) ?_
  refine g_il1n (pc := 15) C dX8_step_15 ?_
  refine g_isub (pc := 16) C dX8_step_16 ?_
  rw [show (-100 : Int32) - (-160) = 60 by decide]
  refine g_is3n (pc := 17) C dX8_step_17 ?_
  refine g_il3n (pc := 18) C dX8_step_18 ?_
  refine g_bipush (pc := 19) (v := 33) C dX8_step_19 (by decide) ?_
  refine g_icmp_ne (pc := 21) (tgt := 30) C dX8_step_21 (by decide) (fun _ => ?_) (fun c => absurd c (by decide))
  refine g_il2n (pc := 30) C dX8_step_30 ?_
  refine g_iconst (pc := 31) (v := 2) C dX8_step_31 (by decide) ?_
  refine g_isub (pc := 32) C dX8_step_32 ?_
  refine g_is4 (pc := 33) C dX8_step_33 ?_
  refine g_il4 (pc := 35) C dX8_step_35 ?_
  refine g_if_geL (pc := 37) (tgt := 42) C dX8_step_37 (by decide) (fun c_37 => ?_) (fun c_37 => absurd c_37 (by rw [nI_sub2]; exact nI_pos (by omega)))
  refine g_al0n (pc := 42) C dX8_step_42 ?_
  refine s_getR (pc := 43) C fX8_23 h1 rfl dX8_step_43 ?_
  refine g_il4 (pc := 46) C dX8_step_46 ?_
  refine g_il3n (pc := 48) C dX8_step_48 ?_
  refine g_al0n (pc := 49) C dX8_step_49 ?_
  refine s_getR (pc := 50) C fX8_23 h1 rfl dX8_step_50 ?_
  refine g_il4 (pc := 53) C dX8_step_53 ?_
  refine s_iald (pc := 55) (q := t) C h11 (by first | rfl | exact nI_sub2 _ | exact nI_pred _ | exact nI_sub1 _) (by omega) (Nat.le_of_ble_eq_true rfl) dX8_step_55 ?_
  refine g_al0n (pc := 56) C dX8_step_56 ?_
  refine s_getR (pc := 57) C fX8_23 h1 rfl dX8_step_57 ?_
  refine g_il2n (pc := 60) C dX8_step_60 ?_
  refine g_iconst (pc := 61) (v := 1) C dX8_step_61 (by decide) ?_
  refine g_isub (pc := 62) C dX8_step_62 ?_
  refine s_iald (pc := 63) (q := t + 1) C h11 (nI_sub1 t) (by omega) (Nat.le_of_ble_eq_true rfl) dX8_step_63 ?_
  refine s_SI (pc := 64) (st := [(.int ((nI (t + 2)) - 2)), (.ref 11)]) C (c_work60 (d := d - 1) (by omega) σ (σ 11 t) (σ 11 (t + 1))) (by omega) lX8_39 dX8_step_64 rfl (Nat.le_of_ble_eq_true rfl) rfl ?_
  refine s_iast (pc := 67) (q := t) C h11 (by first | rfl | exact nI_sub2 _ | exact nI_pred _ | exact nI_sub1 _) (by omega) (Nat.le_of_ble_eq_true rfl) dX8_step_67 ?_
  refine g_il4 (pc := 68) C dX8_step_68 ?_
  refine g_iconst (pc := 70) (v := 1) C dX8_step_70 (by decide) ?_
  refine g_iadd (pc := 71) C dX8_step_71 ?_
  exact r_I C hr dX8_step_72 (by rw [nI_sub2]; exact nI_1 _) rfl

theorem c_step10103 {d : Nat} (hd : 2 ≤ d) (σ : Sg) {t : Nat} (ht : t + 2 ≤ 100) : CI d mX8_step [.ref 1, .int ((-161)), .int (nI (t + 2))] σ (nI (t + 1)) (up σ 11 t (opK 10103 (σ 11 t) (σ 11 (t + 1)))) := by
  refine con_of (by decide) (catL rfl) (Nat.le_of_ble_eq_true rfl) ?_
  intro μ ω C hr
  have C : Cx μ ω "TowField$Texts" cX8_step 5 d := C
  have hr : (mH μ).sig.returnType = some .int := hr
  show G μ ω (RQ μ ω (pI (nI (t + 1)) (up σ 11 t (opK 10103 (σ 11 t) (σ 11 (t + 1)))))) 0 [some (.ref 1), some (.int ((-161))), some (.int (nI (t + 2))), none, none] [] (mk σ) 0 0
  refine g_il1n (pc := 0) C dX8_step_0 ?_
  refine g_bipush (pc := 1) (v := (-100)) C dX8_step_1 (by decide) ?_
  refine g_icmp_leL (pc := 3) (tgt := 13) C dX8_step_3 (by decide) (fun _ => ?_) (fun c => absurd c (by decide))
  refine g_bipush (pc := 13) (v := (-100)) C dX8_step_13 (by decide) ?_
  refine g_il1n (pc := 15) C dX8_step_15 ?_
  refine g_isub (pc := 16) C dX8_step_16 ?_
  rw [show (-100 : Int32) - (-161) = 61 by decide]
  refine g_is3n (pc := 17) C dX8_step_17 ?_
  refine g_il3n (pc := 18) C dX8_step_18 ?_
  refine g_bipush (pc := 19) (v := 33) C dX8_step_19 (by decide) ?_
  refine g_icmp_ne (pc := 21) (tgt := 30) C dX8_step_21 (by decide) (fun _ => ?_) (fun c => absurd c (by decide))
  refine g_il2n (pc := 30) C dX8_step_30 ?_
  refine g_iconst (pc := 31) (v := 2) C dX8_step_31 (by decide) ?_
  refine g_isub (pc := 32) C dX8_step_32 ?_
  refine g_is4 (pc := 33) C dX8_step_33 ?_
  refine g_il4 (pc := 35) C dX8_step_35 ?_
  refine g_if_geL (pc := 37) (tgt := 42) C dX8_step_37 (by decide) (fun c_37 => ?_) (fun c_37 => absurd c_37 (by rw [nI_sub2]; exact nI_pos (by omega)))
  refine g_al0n (pc := 42) C dX8_step_42 ?_
  refine s_getR (pc := 43) C fX8_23 h1 rfl dX8_step_43 ?_
  refine g_il4 (pc := 46) C dX8_step_46 ?_
  refine g_il3n (pc := 48) C dX8_step_48 ?_
  refine g_al0n (pc := 49) C dX8_step_49 ?_
  refine s_getR (pc := 50) C fX8_23 h1 rfl dX8_step_50 ?_
  refine g_il4 (pc := 53) C dX8_step_53 ?_
  refine s_iald (pc := 55) (q := t) C h11 (by first | rfl | exact nI_sub2 _ | exact nI_pred _ | exact nI_sub1 _) (by omega) (Nat.le_of_ble_eq_true rfl) dX8_step_55 ?_
  refine g_al0n (pc := 56) C dX8_step_56 ?_
  refine s_getR (pc := 57) C fX8_23 h1 rfl dX8_step_57 ?_
  refine g_il2n (pc := 60) C dX8_step_60 ?_
  refine g_iconst (pc := 61) (v := 1) C dX8_step_61 (by decide) ?_
  refine g_isub (pc := 62) C dX8_step_62 ?_
  refine s_iald (pc := 63) (q := t + 1) C h11 (nI_sub1 t) (by omega) (Nat.le_of_ble_eq_true rfl) dX8_step_63 ?_
  refine s_SI (pc := 64) (st := [(.int ((nI (t + 2)) - 2)), (.ref 11)]) C (c_work61 (d := d - 1) (by omega) σ (σ 11 t) (σ 11 (t + 1))) (by omega) lX8_39 dX8_step_64 rfl (Nat.le_of_ble_eq_true rfl) rfl ?_
  refine s_iast (pc := 67) (q := t) C h11 (by first | rfl | exact nI_sub2 _ | exact nI_pred _ | exact nI_sub1 _) (by omega) (Nat.le_of_ble_eq_true rfl) dX8_step_67 ?_
  refine g_il4 (pc := 68) C dX8_step_68 ?_
  refine g_iconst (pc := 70) (v := 1) C dX8_step_70 (by decide) ?_
  refine g_iadd (pc := 71) C dX8_step_71 ?_
  exact r_I C hr dX8_step_72 (by rw [nI_sub2]; exact nI_1 _) rfl

theorem c_step10104 {d : Nat} (hd : 2 ≤ d) (σ : Sg) {t : Nat} (ht : t + 2 ≤ 100) : CI d mX8_step [.ref 1, .int ((-162)), .int (nI (t + 2))] σ (nI (t + 1)) (up σ 11 t (opK 10104 (σ 11 t) (σ 11 (t + 1)))) := by
  refine con_of (by decide) (catL rfl) (Nat.le_of_ble_eq_true rfl) ?_
  intro μ ω C hr
  have C : Cx μ ω "TowField$Texts" cX8_step 5 d := C
  have hr : (mH μ).sig.returnType = some .int := hr
  show G μ ω (RQ μ ω (pI (nI (t + 1)) (up σ 11 t (opK 10104 (σ 11 t) (σ 11 (t + 1)))))) 0 [some (.ref 1), some (.int ((-162))), some (.int (nI (t + 2))), none, none] [] (mk σ) 0 0
  refine g_il1n (pc := 0) C dX8_step_0 ?_
  refine g_bipush (pc := 1) (v := (-100)) C dX8_step_1 (by decide) ?_
  refine g_icmp_leL (pc := 3) (tgt := 13) C dX8_step_3 (by decide) (fun _ => ?_) (fun c => absurd c (by decide))
  refine g_bipush (pc := 13) (v := (-100)) C dX8_step_13 (by decide) ?_
  refine g_il1n (pc := 15) C dX8_step_15 ?_
  refine g_isub (pc := 16) C dX8_step_16 ?_
  rw [show (-100 : Int32) - (-162) = 62 by decide]
  refine g_is3n (pc := 17) C dX8_step_17 ?_
  refine g_il3n (pc := 18) C dX8_step_18 ?_
  refine g_bipush (pc := 19) (v := 33) C dX8_step_19 (by decide) ?_
  refine g_icmp_ne (pc := 21) (tgt := 30) C dX8_step_21 (by decide) (fun _ => ?_) (fun c => absurd c (by decide))
  refine g_il2n (pc := 30) C dX8_step_30 ?_
  refine g_iconst (pc := 31) (v := 2) C dX8_step_31 (by decide) ?_
  refine g_isub (pc := 32) C dX8_step_32 ?_
  refine g_is4 (pc := 33) C dX8_step_33 ?_
  refine g_il4 (pc := 35) C dX8_step_35 ?_
  refine g_if_geL (pc := 37) (tgt := 42) C dX8_step_37 (by decide) (fun c_37 => ?_) (fun c_37 => absurd c_37 (by rw [nI_sub2]; exact nI_pos (by omega)))
  refine g_al0n (pc := 42) C dX8_step_42 ?_
  refine s_getR (pc := 43) C fX8_23 h1 rfl dX8_step_43 ?_
  refine g_il4 (pc := 46) C dX8_step_46 ?_
  refine g_il3n (pc := 48) C dX8_step_48 ?_
  refine g_al0n (pc := 49) C dX8_step_49 ?_
  refine s_getR (pc := 50) C fX8_23 h1 rfl dX8_step_50 ?_
  refine g_il4 (pc := 53) C dX8_step_53 ?_
  refine s_iald (pc := 55) (q := t) C h11 (by first | rfl | exact nI_sub2 _ | exact nI_pred _ | exact nI_sub1 _) (by omega) (Nat.le_of_ble_eq_true rfl) dX8_step_55 ?_
  refine g_al0n (pc := 56) C dX8_step_56 ?_
  refine s_getR (pc := 57) C fX8_23 h1 rfl dX8_step_57 ?_
  refine g_il2n (pc := 60) C dX8_step_60 ?_
  refine g_iconst (pc := 61) (v := 1) C dX8_step_61 (by decide) ?_
  refine g_isub (pc := 62) C dX8_step_62 ?_
  refine s_iald (pc := 63) (q := t + 1) C h11 (nI_sub1 t) (by omega) (Nat.le_of_ble_eq_true rfl) dX8_step_63 ?_
  refine s_SI (pc := 64) (st := [(.int ((nI (t + 2)) - 2)), (.ref 11)]) C (c_work62 (d := d - 1) (by omega) σ (σ 11 t) (σ 11 (t + 1))) (by omega) lX8_39 dX8_step_64 rfl (Nat.le_of_ble_eq_true rfl) rfl ?_
  refine s_iast (pc := 67) (q := t) C h11 (by first | rfl | exact nI_sub2 _ | exact nI_pred _ | exact nI_sub1 _) (by omega) (Nat.le_of_ble_eq_true rfl) dX8_step_67 ?_
  refine g_il4 (pc := 68) C dX8_step_68 ?_
  refine g_iconst (pc := 70) (v := 1) C dX8_step_70 (by decide) ?_
  refine g_iadd (pc := 71) C dX8_step_71 ?_
  exact r_I C hr dX8_step_72 (by rw [nI_sub2]; exact nI_1 _) rfl

theorem c_step10105 {d : Nat} (hd : 2 ≤ d) (σ : Sg) {t : Nat} (ht : t + 2 ≤ 100) : CI d mX8_step [.ref 1, .int ((-138)), .int (nI (t + 2))] σ (nI (t + 1)) (up σ 11 t (opK 10105 (σ 11 t) (σ 11 (t + 1)))) := by
  refine con_of (by decide) (catL rfl) (Nat.le_of_ble_eq_true rfl) ?_
  intro μ ω C hr
  have C : Cx μ ω "TowField$Texts" cX8_step 5 d := C
  have hr : (mH μ).sig.returnType = some .int := hr
  show G μ ω (RQ μ ω (pI (nI (t + 1)) (up σ 11 t (opK 10105 (σ 11 t) (σ 11 (t + 1)))))) 0 [some (.ref 1), some (.int ((-138))), some (.int (nI (t + 2))), none, none] [] (mk σ) 0 0
  refine g_il1n (pc := 0) C dX8_step_0 ?_
  refine g_bipush (pc := 1) (v := (-100)) C dX8_step_1 (by decide) ?_
  refine g_icmp_leL (pc := 3) (tgt := 13) C dX8_step_3 (by decide) (fun _ => ?_) (fun c => absurd c (by decide))
  refine g_bipush (pc := 13) (v := (-100)) C dX8_step_13 (by decide) ?_
  refine g_il1n (pc := 15) C dX8_step_15 ?_
  refine g_isub (pc := 16) C dX8_step_16 ?_
  rw [show (-100 : Int32) - (-138) = 38 by decide]
  refine g_is3n (pc := 17) C dX8_step_17 ?_
  refine g_il3n (pc := 18) C dX8_step_18 ?_
  refine g_bipush (pc := 19) (v := 33) C dX8_step_19 (by decide) ?_
  refine g_icmp_ne (pc := 21) (tgt := 30) C dX8_step_21 (by decide) (fun _ => ?_) (fun c => absurd c (by decide))
  refine g_il2n (pc := 30) C dX8_step_30 ?_
  refine g_iconst (pc := 31) (v := 2) C dX8_step_31 (by decide) ?_
  refine g_isub (pc := 32) C dX8_step_32 ?_
  refine g_is4 (pc := 33) C dX8_step_33 ?_
  refine g_il4 (pc := 35) C dX8_step_35 ?_
  refine g_if_geL (pc := 37) (tgt := 42) C dX8_step_37 (by decide) (fun c_37 => ?_) (fun c_37 => absurd c_37 (by rw [nI_sub2]; exact nI_pos (by omega)))
  refine g_al0n (pc := 42) C dX8_step_42 ?_
  refine s_getR (pc := 43) C fX8_23 h1 rfl dX8_step_43 ?_
  refine g_il4 (pc := 46) C dX8_step_46 ?_
  refine g_il3n (pc := 48) C dX8_step_48 ?_
  refine g_al0n (pc := 49) C dX8_step_49 ?_
  refine s_getR (pc := 50) C fX8_23 h1 rfl dX8_step_50 ?_
  refine g_il4 (pc := 53) C dX8_step_53 ?_
  refine s_iald (pc := 55) (q := t) C h11 (by first | rfl | exact nI_sub2 _ | exact nI_pred _ | exact nI_sub1 _) (by omega) (Nat.le_of_ble_eq_true rfl) dX8_step_55 ?_
  refine g_al0n (pc := 56) C dX8_step_56 ?_
  refine s_getR (pc := 57) C fX8_23 h1 rfl dX8_step_57 ?_
  refine g_il2n (pc := 60) C dX8_step_60 ?_
  refine g_iconst (pc := 61) (v := 1) C dX8_step_61 (by decide) ?_
  refine g_isub (pc := 62) C dX8_step_62 ?_
  refine s_iald (pc := 63) (q := t + 1) C h11 (nI_sub1 t) (by omega) (Nat.le_of_ble_eq_true rfl) dX8_step_63 ?_
  refine s_SI (pc := 64) (st := [(.int ((nI (t + 2)) - 2)), (.ref 11)]) C (c_work38 (d := d - 1) (by omega) σ (σ 11 t) (σ 11 (t + 1))) (by omega) lX8_39 dX8_step_64 rfl (Nat.le_of_ble_eq_true rfl) rfl ?_
  refine s_iast (pc := 67) (q := t) C h11 (by first | rfl | exact nI_sub2 _ | exact nI_pred _ | exact nI_sub1 _) (by omega) (Nat.le_of_ble_eq_true rfl) dX8_step_67 ?_
  refine g_il4 (pc := 68) C dX8_step_68 ?_
  refine g_iconst (pc := 70) (v := 1) C dX8_step_70 (by decide) ?_
  refine g_iadd (pc := 71) C dX8_step_71 ?_
  exact r_I C hr dX8_step_72 (by rw [nI_sub2]; exact nI_1 _) rfl

theorem c_step10106 {d : Nat} (hd : 2 ≤ d) (σ : Sg) {t : Nat} (ht : t + 2 ≤ 100) : CI d mX8_step [.ref 1, .int ((-224)), .int (nI (t + 2))] σ (nI (t + 1)) (up σ 11 t (opK 10106 (σ 11 t) (σ 11 (t + 1)))) := by
  refine con_of (by decide) (catL rfl) (Nat.le_of_ble_eq_true rfl) ?_
  intro μ ω C hr
  have C : Cx μ ω "TowField$Texts" cX8_step 5 d := C
  have hr : (mH μ).sig.returnType = some .int := hr
  show G μ ω (RQ μ ω (pI (nI (t + 1)) (up σ 11 t (opK 10106 (σ 11 t) (σ 11 (t + 1)))))) 0 [some (.ref 1), some (.int ((-224))), some (.int (nI (t + 2))), none, none] [] (mk σ) 0 0
  refine g_il1n (pc := 0) C dX8_step_0 ?_
  refine g_bipush (pc := 1) (v := (-100)) C dX8_step_1 (by decide) ?_
  refine g_icmp_leL (pc := 3) (tgt := 13) C dX8_step_3 (by decide) (fun _ => ?_) (fun c => absurd c (by decide))
  refine g_bipush (pc := 13) (v := (-100)) C dX8_step_13 (by decide) ?_
  refine g_il1n (pc := 15) C dX8_step_15 ?_
  refine g_isub (pc := 16) C dX8_step_16 ?_
  rw [show (-100 : Int32) - (-224) = 124 by decide]
  refine g_is3n (pc := 17) C dX8_step_17 ?_
  refine g_il3n (pc := 18) C dX8_step_18 ?_
  refine g_bipush (pc := 19) (v := 33) C dX8_step_19 (by decide) ?_
  refine g_icmp_ne (pc := 21) (tgt := 30) C dX8_step_21 (by decide) (fun _ => ?_) (fun c => absurd c (by decide))
  refine g_il2n (pc := 30) C dX8_step_30 ?_
  refine g_iconst (pc := 31) (v := 2) C dX8_step_31 (by decide) ?_
  refine g_isub (pc := 32) C dX8_step_32 ?_
  refine g_is4 (pc := 33) C dX8_step_33 ?_
  refine g_il4 (pc := 35) C dX8_step_35 ?_
  refine g_if_geL (pc := 37) (tgt := 42) C dX8_step_37 (by decide) (fun c_37 => ?_) (fun c_37 => absurd c_37 (by rw [nI_sub2]; exact nI_pos (by omega)))
  refine g_al0n (pc := 42) C dX8_step_42 ?_
  refine s_getR (pc := 43) C fX8_23 h1 rfl dX8_step_43 ?_
  refine g_il4 (pc := 46) C dX8_step_46 ?_
  refine g_il3n (pc := 48) C dX8_step_48 ?_
  refine g_al0n (pc := 49) C dX8_step_49 ?_
  refine s_getR (pc := 50) C fX8_23 h1 rfl dX8_step_50 ?_
  refine g_il4 (pc := 53) C dX8_step_53 ?_
  refine s_iald (pc := 55) (q := t) C h11 (by first | rfl | exact nI_sub2 _ | exact nI_pred _ | exact nI_sub1 _) (by omega) (Nat.le_of_ble_eq_true rfl) dX8_step_55 ?_
  refine g_al0n (pc := 56) C dX8_step_56 ?_
  refine s_getR (pc := 57) C fX8_23 h1 rfl dX8_step_57 ?_
  refine g_il2n (pc := 60) C dX8_step_60 ?_
  refine g_iconst (pc := 61) (v := 1) C dX8_step_61 (by decide) ?_
  refine g_isub (pc := 62) C dX8_step_62 ?_
  refine s_iald (pc := 63) (q := t + 1) C h11 (nI_sub1 t) (by omega) (Nat.le_of_ble_eq_true rfl) dX8_step_63 ?_
  refine s_SI (pc := 64) (st := [(.int ((nI (t + 2)) - 2)), (.ref 11)]) C (c_work124 (d := d - 1) (by omega) σ (σ 11 t) (σ 11 (t + 1))) (by omega) lX8_39 dX8_step_64 rfl (Nat.le_of_ble_eq_true rfl) rfl ?_
  refine s_iast (pc := 67) (q := t) C h11 (by first | rfl | exact nI_sub2 _ | exact nI_pred _ | exact nI_sub1 _) (by omega) (Nat.le_of_ble_eq_true rfl) dX8_step_67 ?_
  refine g_il4 (pc := 68) C dX8_step_68 ?_
  refine g_iconst (pc := 70) (v := 1) C dX8_step_70 (by decide) ?_
  refine g_iadd (pc := 71) C dX8_step_71 ?_
  exact r_I C hr dX8_step_72 (by rw [nI_sub2]; exact nI_1 _) rfl

theorem c_step10108 {d : Nat} (hd : 2 ≤ d) (σ : Sg) {t : Nat} (ht : t + 2 ≤ 100) : CI d mX8_step [.ref 1, .int ((-142)), .int (nI (t + 2))] σ (nI (t + 1)) (up σ 11 t (opK 10108 (σ 11 t) (σ 11 (t + 1)))) := by
  refine con_of (by decide) (catL rfl) (Nat.le_of_ble_eq_true rfl) ?_
  intro μ ω C hr
  have C : Cx μ ω "TowField$Texts" cX8_step 5 d := C
  have hr : (mH μ).sig.returnType = some .int := hr
  show G μ ω (RQ μ ω (pI (nI (t + 1)) (up σ 11 t (opK 10108 (σ 11 t) (σ 11 (t + 1)))))) 0 [some (.ref 1), some (.int ((-142))), some (.int (nI (t + 2))), none, none] [] (mk σ) 0 0
  refine g_il1n (pc := 0) C dX8_step_0 ?_
  refine g_bipush (pc := 1) (v := (-100)) C dX8_step_1 (by decide) ?_
  refine g_icmp_leL (pc := 3) (tgt := 13) C dX8_step_3 (by decide) (fun _ => ?_) (fun c => absurd c (by decide))
  refine g_bipush (pc := 13) (v := (-100)) C dX8_step_13 (by decide) ?_
  refine g_il1n (pc := 15) C dX8_step_15 ?_
  refine g_isub (pc := 16) C dX8_step_16 ?_
  rw [show (-100 : Int32) - (-142) = 42 by decide]
  refine g_is3n (pc := 17) C dX8_step_17 ?_
  refine g_il3n (pc := 18) C dX8_step_18 ?_
  refine g_bipush (pc := 19) (v := 33) C dX8_step_19 (by decide) ?_
  refine g_icmp_ne (pc := 21) (tgt := 30) C dX8_step_21 (by decide) (fun _ => ?_) (fun c => absurd c (by decide))
  refine g_il2n (pc := 30) C dX8_step_30 ?_
  refine g_iconst (pc := 31) (v := 2) C dX8_step_31 (by decide) ?_
  refine g_isub (pc := 32) C dX8_step_32 ?_
  refine g_is4 (pc := 33) C dX8_step_33 ?_
  refine g_il4 (pc := 35) C dX8_step_35 ?_
  refine g_if_geL (pc := 37) (tgt := 42) C dX8_step_37 (by decide) (fun c_37 => ?_) (fun c_37 => absurd c_37 (by rw [nI_sub2]; exact nI_pos (by omega)))
  refine g_al0n (pc := 42) C dX8_step_42 ?_
  refine s_getR (pc := 43) C fX8_23 h1 rfl dX8_step_43 ?_
  refine g_il4 (pc := 46) C dX8_step_46 ?_
  refine g_il3n (pc := 48) C dX8_step_48 ?_
  refine g_al0n (pc := 49) C dX8_step_49 ?_
  refine s_getR (pc := 50) C fX8_23 h1 rfl dX8_step_50 ?_
  refine g_il4 (pc := 53) C dX8_step_53 ?_
  refine s_iald (pc := 55) (q := t) C h11 (by first | rfl | exact nI_sub2 _ | exact nI_pred _ | exact nI_sub1 _) (by omega) (Nat.le_of_ble_eq_true rfl) dX8_step_55 ?_
  refine g_al0n (pc := 56) C dX8_step_56 ?_
  refine s_getR (pc := 57) C fX8_23 h1 rfl dX8_step_57 ?_
  refine g_il2n (pc := 60) C dX8_step_60 ?_
  refine g_iconst (pc := 61) (v := 1) C dX8_step_61 (by decide) ?_
  refine g_isub (pc := 62) C dX8_step_62 ?_
  refine s_iald (pc := 63) (q := t + 1) C h11 (nI_sub1 t) (by omega) (Nat.le_of_ble_eq_true rfl) dX8_step_63 ?_
  refine s_SI (pc := 64) (st := [(.int ((nI (t + 2)) - 2)), (.ref 11)]) C (c_work42 (d := d - 1) (by omega) σ (σ 11 t) (σ 11 (t + 1))) (by omega) lX8_39 dX8_step_64 rfl (Nat.le_of_ble_eq_true rfl) rfl ?_
  refine s_iast (pc := 67) (q := t) C h11 (by first | rfl | exact nI_sub2 _ | exact nI_pred _ | exact nI_sub1 _) (by omega) (Nat.le_of_ble_eq_true rfl) dX8_step_67 ?_
  refine g_il4 (pc := 68) C dX8_step_68 ?_
  refine g_iconst (pc := 70) (v := 1) C dX8_step_70 (by decide) ?_
  refine g_iadd (pc := 71) C dX8_step_71 ?_
  exact r_I C hr dX8_step_72 (by rw [nI_sub2]; exact nI_1 _) rfl

theorem c_step10109 {d : Nat} (hd : 2 ≤ d) (σ : Sg) {t : Nat} (ht : t + 2 ≤ 100) : CI d mX8_step [.ref 1, .int ((-147)), .int (nI (t + 2))] σ (nI (t + 1)) (up σ 11 t (opK 10109 (σ 11 t) (σ 11 (t + 1)))) := by
  refine con_of (by decide) (catL rfl) (Nat.le_of_ble_eq_true rfl) ?_
  intro μ ω C hr
  have C : Cx μ ω "TowField$Texts" cX8_step 5 d := C
  have hr : (mH μ).sig.returnType = some .int := hr
  show G μ ω (RQ μ ω (pI (nI (t + 1)) (up σ 11 t (opK 10109 (σ 11 t) (σ 11 (t + 1)))))) 0 [some (.ref 1), some (.int ((-147))), some (.int (nI (t + 2))), none, none] [] (mk σ) 0 0
  refine g_il1n (pc := 0) C dX8_step_0 ?_
  refine g_bipush (pc := 1) (v := (-100)) C dX8_step_1 (by decide) ?_
  refine g_icmp_leL (pc := 3) (tgt := 13) C dX8_step_3 (by decide) (fun _ => ?_) (fun c => absurd c (by decide))
  refine g_bipush (pc := 13) (v := (-100)) C dX8_step_13 (by decide) ?_
  refine g_il1n (pc := 15) C dX8_step_15 ?_
  refine g_isub (pc := 16) C dX8_step_16 ?_
  rw [show (-100 : Int32) - (-147) = 47 by decide]
  refine g_is3n (pc := 17) C dX8_step_17 ?_
  refine g_il3n (pc := 18) C dX8_step_18 ?_
  refine g_bipush (pc := 19) (v := 33) C dX8_step_19 (by decide) ?_
  refine g_icmp_ne (pc := 21) (tgt := 30) C dX8_step_21 (by decide) (fun _ => ?_) (fun c => absurd c (by decide))
  refine g_il2n (pc := 30) C dX8_step_30 ?_
  refine g_iconst (pc := 31) (v := 2) C dX8_step_31 (by decide) ?_
  refine g_isub (pc := 32) C dX8_step_32 ?_
  refine g_is4 (pc := 33) C dX8_step_33 ?_
  refine g_il4 (pc := 35) C dX8_step_35 ?_
  refine g_if_geL (pc := 37) (tgt := 42) C dX8_step_37 (by decide) (fun c_37 => ?_) (fun c_37 => absurd c_37 (by rw [nI_sub2]; exact nI_pos (by omega)))
  refine g_al0n (pc := 42) C dX8_step_42 ?_
  refine s_getR (pc := 43) C fX8_23 h1 rfl dX8_step_43 ?_
  refine g_il4 (pc := 46) C dX8_step_46 ?_
  refine g_il3n (pc := 48) C dX8_step_48 ?_
  refine g_al0n (pc := 49) C dX8_step_49 ?_
  refine s_getR (pc := 50) C fX8_23 h1 rfl dX8_step_50 ?_
  refine g_il4 (pc := 53) C dX8_step_53 ?_
  refine s_iald (pc := 55) (q := t) C h11 (by first | rfl | exact nI_sub2 _ | exact nI_pred _ | exact nI_sub1 _) (by omega) (Nat.le_of_ble_eq_true rfl) dX8_step_55 ?_
  refine g_al0n (pc := 56) C dX8_step_56 ?_
  refine s_getR (pc := 57) C fX8_23 h1 rfl dX8_step_57 ?_
  refine g_il2n (pc := 60) C dX8_step_60 ?_
  refine g_iconst (pc := 61) (v := 1) C dX8_step_61 (by decide) ?_
  refine g_isub (pc := 62) C dX8_step_62 ?_
  refine s_iald (pc := 63) (q := t + 1) C h11 (nI_sub1 t) (by omega) (Nat.le_of_ble_eq_true rfl) dX8_step_63 ?_
  refine s_SI (pc := 64) (st := [(.int ((nI (t + 2)) - 2)), (.ref 11)]) C (c_work47 (d := d - 1) (by omega) σ (σ 11 t) (σ 11 (t + 1))) (by omega) lX8_39 dX8_step_64 rfl (Nat.le_of_ble_eq_true rfl) rfl ?_
  refine s_iast (pc := 67) (q := t) C h11 (by first | rfl | exact nI_sub2 _ | exact nI_pred _ | exact nI_sub1 _) (by omega) (Nat.le_of_ble_eq_true rfl) dX8_step_67 ?_
  refine g_il4 (pc := 68) C dX8_step_68 ?_
  refine g_iconst (pc := 70) (v := 1) C dX8_step_70 (by decide) ?_
  refine g_iadd (pc := 71) C dX8_step_71 ?_
  exact r_I C hr dX8_step_72 (by rw [nI_sub2]; exact nI_1 _) rfl

theorem c_step10107 {d : Nat} (hd : 2 ≤ d) (σ : Sg) {t : Nat} (ht : t + 1 ≤ 100) : CI d mX8_step [.ref 1, .int ((-133)), .int (nI (t + 1))] σ (nI (t + 1)) (up σ 11 t (if σ 11 t = 0 then 1 else 0)) := by
  refine con_of (by decide) (catL rfl) (Nat.le_of_ble_eq_true rfl) ?_
  intro μ ω C hr
  have C : Cx μ ω "TowField$Texts" cX8_step 5 d := C
  have hr : (mH μ).sig.returnType = some .int := hr
  show G μ ω (RQ μ ω (pI (nI (t + 1)) (up σ 11 t (if σ 11 t = 0 then 1 else 0)))) 0 [some (.ref 1), some (.int ((-133))), some (.int (nI (t + 1))), none, none] [] (mk σ) 0 0
  refine g_il1n (pc := 0) C dX8_step_0 ?_
  refine g_bipush (pc := 1) (v := (-100)) C dX8_step_1 (by decide) ?_
  refine g_icmp_leL (pc := 3) (tgt := 13) C dX8_step_3 (by decide) (fun _ => ?_) (fun c => absurd c (by decide))
  refine g_bipush (pc := 13) (v := (-100)) C dX8_step_13 (by decide) ?_
  refine g_il1n (pc := 15) C dX8_step_15 ?_
  refine g_isub (pc := 16) C dX8_step_16 ?_
  rw [show (-100 : Int32) - (-133) = 33 by decide]
  refine g_is3n (pc := 17) C dX8_step_17 ?_
  refine g_il3n (pc := 18) C dX8_step_18 ?_
  refine g_bipush (pc := 19) (v := 33) C dX8_step_19 (by decide) ?_
  refine g_icmp_ne (pc := 21) (tgt := 30) C dX8_step_21 (by decide) (fun c => absurd c (by decide)) (fun _ => ?_)
  refine g_il2n (pc := 24) C dX8_step_24 ?_
  refine g_iconst (pc := 25) (v := 1) C dX8_step_25 (by decide) ?_
  refine g_isub (pc := 26) C dX8_step_26 ?_
  refine g_goto (pc := 27) (tgt := 33) C dX8_step_27 (by decide) ?_
  refine g_is4 (pc := 33) C dX8_step_33 ?_
  refine g_il4 (pc := 35) C dX8_step_35 ?_
  refine g_if_geL (pc := 37) (tgt := 42) C dX8_step_37 (by decide) (fun c_37 => ?_) (fun c_37 => absurd c_37 (by rw [nI_pred]; exact nI_pos (by omega)))
  refine g_al0n (pc := 42) C dX8_step_42 ?_
  refine s_getR (pc := 43) C fX8_23 h1 rfl dX8_step_43 ?_
  refine g_il4 (pc := 46) C dX8_step_46 ?_
  refine g_il3n (pc := 48) C dX8_step_48 ?_
  refine g_al0n (pc := 49) C dX8_step_49 ?_
  refine s_getR (pc := 50) C fX8_23 h1 rfl dX8_step_50 ?_
  refine g_il4 (pc := 53) C dX8_step_53 ?_
  refine s_iald (pc := 55) (q := t) C h11 (by first | rfl | exact nI_sub2 _ | exact nI_pred _ | exact nI_sub1 _) (by omega) (Nat.le_of_ble_eq_true rfl) dX8_step_55 ?_
  refine g_al0n (pc := 56) C dX8_step_56 ?_
  refine s_getR (pc := 57) C fX8_23 h1 rfl dX8_step_57 ?_
  refine g_il2n (pc := 60) C dX8_step_60 ?_
  refine g_iconst (pc := 61) (v := 1) C dX8_step_61 (by decide) ?_
  refine g_isub (pc := 62) C dX8_step_62 ?_
  refine s_iald (pc := 63) (q := t) C h11 (by first | rfl | exact nI_sub2 _ | exact nI_pred _ | exact nI_sub1 _) (by omega) (Nat.le_of_ble_eq_true rfl) dX8_step_63 ?_
  refine s_SI (pc := 64) (st := [(.int ((nI (t + 1)) - 1)), (.ref 11)]) C (c_work33 (d := d - 1) (by omega) σ (σ 11 t) (σ 11 t)) (by omega) lX8_39 dX8_step_64 rfl (Nat.le_of_ble_eq_true rfl) rfl ?_
  refine s_iast (pc := 67) (q := t) C h11 (by first | rfl | exact nI_sub2 _ | exact nI_pred _ | exact nI_sub1 _) (by omega) (Nat.le_of_ble_eq_true rfl) dX8_step_67 ?_
  refine g_il4 (pc := 68) C dX8_step_68 ?_
  refine g_iconst (pc := 70) (v := 1) C dX8_step_70 (by decide) ?_
  refine g_iadd (pc := 71) C dX8_step_71 ?_
  exact r_I C hr dX8_step_72 (by rw [nI_pred]; exact nI_1 _) rfl

