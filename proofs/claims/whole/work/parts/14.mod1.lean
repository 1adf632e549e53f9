/-! ===== the model: small ones ===== -/
theorem c_X12_finding {d : Nat} (hd : 1 ≤ d) (σ : Sg) {i : Nat} (hi : i < 7) {w : Int32} (hw : -1000001 - w = nI i) : CI d mX12_finding [.ref 135, .int w] σ w (up σ 139 i (σ 139 i + 1)) := by
  refine con_of (by decide) (catL rfl) (Nat.le_of_ble_eq_true rfl) ?_
  intro μ ω C hr
  have C : Cx μ ω "TowFieldModel" cX12_finding 2 d := C
  have hr : (mH μ).sig.returnType = some .int := hr
  show G μ ω (RQ μ ω (pI w (up σ 139 i (σ 139 i + 1)))) 0 [some (.ref 135), some (.int w)] [] (mk σ) 0 0
  refine g_al0n (pc := 0) C dX12_finding_0 ?_
  refine s_getR (pc := 1) C fX12_19 h135 rfl dX12_finding_1 ?_
  refine g_ldc (pc := 4) C dX12_finding_4 kX12_57 ?_
  refine g_il1n (pc := 6) C dX12_finding_6 ?_
  refine g_isub (pc := 7) C dX12_finding_7 ?_
  refine g_dup2 (pc := 8) C dX12_finding_8 rfl rfl ?_
  refine s_iald (pc := 9) (q := i) C h139 hw hi (Nat.le_of_ble_eq_true rfl) dX12_finding_9 ?_
  refine g_iconst (pc := 10) (v := 1) C dX12_finding_10 (by decide) ?_
  refine g_iadd (pc := 11) C dX12_finding_11 ?_
  refine s_iast (pc := 12) (q := i) C h139 hw hi (Nat.le_of_ble_eq_true rfl) dX12_finding_12 ?_
  refine g_il1n (pc := 13) C dX12_finding_13 ?_
  exact r_I C hr dX12_finding_14 rfl rfl

theorem c_X12_is {d : Nat} (hd : 2 ≤ d) (σ : Sg) (k : Int32) {c : Nat} (hc : c < 970) : CB d mX12_is [.ref 135, .int k, .int (nI c)] σ (0 ≤ k ∧ k ≤ σ 136 c - 1) σ := by
  refine con_of (by decide) (catL rfl) (Nat.le_of_ble_eq_true rfl) ?_
  intro μ ω C hr
  have C : Cx μ ω "TowFieldModel" cX12_is 3 d := C
  have hr : (mH μ).sig.returnType = some .boolean := hr
  show G μ ω (RQ μ ω (pB (0 ≤ k ∧ k ≤ σ 136 c - 1) σ)) 0 [some (.ref 135), some (.int k), some (.int (nI c))] [] (mk σ) 0 0
  refine g_il1n (pc := 0) C dX12_is_0 ?_
  refine g_iconst (pc := 1) (v := 0) C dX12_is_1 (by decide) ?_
  refine g_al0n (pc := 2) C dX12_is_2 ?_
  refine s_getR (pc := 3) C fX12_9 h135 rfl dX12_is_3 ?_
  refine g_il2n (pc := 6) C dX12_is_6 ?_
  refine s_iald (pc := 7) (q := c) C h136 rfl (by omega) (Nat.le_of_ble_eq_true rfl) dX12_is_7 ?_
  refine g_iconst (pc := 8) (v := 1) C dX12_is_8 (by decide) ?_
  refine g_isub (pc := 9) C dX12_is_9 ?_
  refine s_SB (pc := 10) (st := []) C (c_X12_within (d := d - 1) (by omega) σ k 0 ((σ 136 c) - 1)) (by omega) lX12_58 dX12_is_10 rfl (Nat.le_of_ble_eq_true rfl) rfl (fun b_10 => ?_) (fun b_10 => ?_)
  · exact r_B1 C hr dX12_is_13 (by assumption) rfl
  · exact r_B0 C hr dX12_is_13 (by assumption) rfl

theorem c_X12_has {d : Nat} (hd : 1 ≤ d) (σ : Sg) (s k : Int32) : CB d mX12_has [.int s, .int k] σ (hb s k = true) σ := by
  refine con_of (by decide) (catL rfl) (Nat.le_of_ble_eq_true rfl) ?_
  intro μ ω C hr
  have C : Cx μ ω "TowFieldModel" cX12_has 2 d := C
  have hr : (mH μ).sig.returnType = some .boolean := hr
  show G μ ω (RQ μ ω (pB (hb s k = true) σ)) 0 [some (.int s), some (.int k)] [] (mk σ) 0 0
  refine g_il0n (pc := 0) C dX12_has_0 ?_
  refine g_il1n (pc := 1) C dX12_has_1 ?_
  refine g_ishr (pc := 2) C dX12_has_2 ?_
  refine g_iconst (pc := 3) (v := 1) C dX12_has_3 (by decide) ?_
  refine g_iand (pc := 4) C dX12_has_4 ?_
  refine g_iconst (pc := 5) (v := 1) C dX12_has_5 (by decide) ?_
  refine g_icmp_ne (pc := 6) (tgt := 13) C dX12_has_6 (by decide) (fun c_6 => ?_) (fun c_6 => ?_)
  · refine g_iconst (pc := 13) (v := 0) C dX12_has_13 (by decide) ?_
    exact r_B0 C hr dX12_has_14 (fun q => absurd (hb_iff1.mp q) (by assumption)) rfl
  · refine g_iconst (pc := 9) (v := 1) C dX12_has_9 (by decide) ?_
    refine g_goto (pc := 10) (tgt := 14) C dX12_has_10 (by decide) ?_
    exact r_B1 C hr dX12_has_14 (hb_iff1.mpr (by assumption)) rfl

theorem c_X12_become {d : Nat} (hd : 1 ≤ d) (σ : Sg) {q : Nat} (hq : q < 970) (v : Int32) : CI d mX12_become [.ref 135, .int (nI q), .int v] σ (σ 136 q) (up σ 136 q v) := by
  refine con_of (by decide) (catL rfl) (Nat.le_of_ble_eq_true rfl) ?_
  intro μ ω C hr
  have C : Cx μ ω "TowFieldModel" cX12_become 4 d := C
  have hr : (mH μ).sig.returnType = some .int := hr
  show G μ ω (RQ μ ω (pI (σ 136 q) (up σ 136 q v))) 0 [some (.ref 135), some (.int (nI q)), some (.int v), none] [] (mk σ) 0 0
  refine g_al0n (pc := 0) C dX12_become_0 ?_
  refine s_getR (pc := 1) C fX12_9 h135 rfl dX12_become_1 ?_
  refine g_il1n (pc := 4) C dX12_become_4 ?_
  refine s_iald (pc := 5) (q := q) C h136 rfl (by omega) (Nat.le_of_ble_eq_true rfl) dX12_become_5 ?_
  refine g_is3n (pc := 6) C dX12_become_6 ?_
  refine g_al0n (pc := 7) C dX12_become_7 ?_
  refine s_getR (pc := 8) C fX12_9 h135 rfl dX12_become_8 ?_
  refine g_il1n (pc := 11) C dX12_become_11 ?_
  refine g_il2n (pc := 12) C dX12_become_12 ?_
  refine s_iast (pc := 13) (q := q) C h136 rfl (by omega) (Nat.le_of_ble_eq_true rfl) dX12_become_13 ?_
  refine g_il3n (pc := 14) C dX12_become_14 ?_
  exact r_I C hr dX12_become_15 rfl rfl

theorem c_X12_gliderOf {d : Nat} (hd : 1 ≤ d) (σ : Sg) {a f : Nat} (ha : a < 10) (hf : f < 4) {x y : Int32} (hx : x = nI a) (hy : y = nI f) : CI d mX12_gliderOf [.ref 135, .int x, .int y] σ (σ 136 (50 + 4 * a + f)) σ := by
  refine con_of (by decide) (catL rfl) (Nat.le_of_ble_eq_true rfl) ?_
  intro μ ω C hr
  have C : Cx μ ω "TowFieldModel" cX12_gliderOf 3 d := C
  have hr : (mH μ).sig.returnType = some .int := hr
  show G μ ω (RQ μ ω (pI (σ 136 (50 + 4 * a + f)) σ)) 0 [some (.ref 135), some (.int x), some (.int y)] [] (mk σ) 0 0
  refine g_al0n (pc := 0) C dX12_gliderOf_0 ?_
  refine s_getR (pc := 1) C fX12_9 h135 rfl dX12_gliderOf_1 ?_
  refine g_bipush (pc := 4) (v := 50) C dX12_gliderOf_4 (by decide) ?_
  refine g_iconst (pc := 6) (v := 4) C dX12_gliderOf_6 (by decide) ?_
  refine g_il1n (pc := 7) C dX12_gliderOf_7 ?_
  refine g_imul (pc := 8) C dX12_gliderOf_8 ?_
  refine g_iadd (pc := 9) C dX12_gliderOf_9 ?_
  refine g_il2n (pc := 10) C dX12_gliderOf_10 ?_
  refine g_iadd (pc := 11) C dX12_gliderOf_11 ?_
  refine s_iald (pc := 12) (q := 50 + 4 * a + f) C h136 (by rw [hx, hy]; simp only [ixl, nI_add, pk_mul]) (by omega) (Nat.le_of_ble_eq_true rfl) dX12_gliderOf_12 ?_
  exact r_I C hr dX12_gliderOf_13 rfl rfl

theorem c_X12_personOf {d : Nat} (hd : 1 ≤ d) (σ : Sg) {a f : Nat} (ha : a < 14) (hf : f < 4) {x y : Int32} (hx : x = nI a) (hy : y = nI f) : CI d mX12_personOf [.ref 135, .int x, .int y] σ (σ 136 (90 + 4 * a + f)) σ := by
  refine con_of (by decide) (catL rfl) (Nat.le_of_ble_eq_true rfl) ?_
  intro μ ω C hr
  have C : Cx μ ω "TowFieldModel" cX12_personOf 3 d := C
  have hr : (mH μ).sig.returnType = some .int := hr
  show G μ ω (RQ μ ω (pI (σ 136 (90 + 4 * a + f)) σ)) 0 [some (.ref 135), some (.int x), some (.int y)] [] (mk σ) 0 0
  refine g_al0n (pc := 0) C dX12_personOf_0 ?_
  refine s_getR (pc := 1) C fX12_9 h135 rfl dX12_personOf_1 ?_
  refine g_bipush (pc := 4) (v := 90) C dX12_personOf_4 (by decide) ?_
  refine g_iconst (pc := 6) (v := 4) C dX12_personOf_6 (by decide) ?_
  refine g_il1n (pc := 7) C dX12_personOf_7 ?_
  refine g_imul (pc := 8) C dX12_personOf_8 ?_
  refine g_iadd (pc := 9) C dX12_personOf_9 ?_
  refine g_il2n (pc := 10) C dX12_personOf_10 ?_
  refine g_iadd (pc := 11) C dX12_personOf_11 ?_
  refine s_iald (pc := 12) (q := 90 + 4 * a + f) C h136 (by rw [hx, hy]; simp only [ixl, nI_add, pk_mul]) (by omega) (Nat.le_of_ble_eq_true rfl) dX12_personOf_12 ?_
  exact r_I C hr dX12_personOf_13 rfl rfl

theorem c_X12_askOf {d : Nat} (hd : 1 ≤ d) (σ : Sg) {a f : Nat} (ha : a < 20) (hf : f < 10) {x y : Int32} (hx : x = nI a) (hy : y = nI f) : CI d mX12_askOf [.ref 135, .int x, .int y] σ (σ 136 (146 + 10 * a + f)) σ := by
  refine con_of (by decide) (catL rfl) (Nat.le_of_ble_eq_true rfl) ?_
  intro μ ω C hr
  have C : Cx μ ω "TowFieldModel" cX12_askOf 3 d := C
  have hr : (mH μ).sig.returnType = some .int := hr
  show G μ ω (RQ μ ω (pI (σ 136 (146 + 10 * a + f)) σ)) 0 [some (.ref 135), some (.int x), some (.int y)] [] (mk σ) 0 0
  refine g_al0n (pc := 0) C dX12_askOf_0 ?_
  refine s_getR (pc := 1) C fX12_9 h135 rfl dX12_askOf_1 ?_
  refine g_sipush (pc := 4) (v := 146) C dX12_askOf_4 (by decide) ?_
  refine g_bipush (pc := 7) (v := 10) C dX12_askOf_7 (by decide) ?_
  refine g_il1n (pc := 9) C dX12_askOf_9 ?_
  refine g_imul (pc := 10) C dX12_askOf_10 ?_
  refine g_iadd (pc := 11) C dX12_askOf_11 ?_
  refine g_il2n (pc := 12) C dX12_askOf_12 ?_
  refine g_iadd (pc := 13) C dX12_askOf_13 ?_
  refine s_iald (pc := 14) (q := 146 + 10 * a + f) C h136 (by rw [hx, hy]; simp only [ixl, nI_add, pk_mul]) (by omega) (Nat.le_of_ble_eq_true rfl) dX12_askOf_14 ?_
  exact r_I C hr dX12_askOf_15 rfl rfl

theorem c_X12_bit {d : Nat} (hd : 1 ≤ d) (σ : Sg) {q : Nat} (hq : q < 970) (k is : Int32) : CI d mX12_bit [.ref 135, .int (nI q), .int k, .int is] σ (if wb (σ 136 q) k is = σ 136 q then 0 else 1) (up σ 136 q (wb (σ 136 q) k is)) := by
  refine con_of (by decide) (catL rfl) (Nat.le_of_ble_eq_true rfl) ?_
  intro μ ω C hr
  have C : Cx μ ω "TowFieldModel" cX12_bit 5 d := C
  have hr : (mH μ).sig.returnType = some .int := hr
  show G μ ω (RQ μ ω (pI (if wb (σ 136 q) k is = σ 136 q then 0 else 1) (up σ 136 q (wb (σ 136 q) k is)))) 0 [some (.ref 135), some (.int (nI q)), some (.int k), some (.int is), none] [] (mk σ) 0 0
  refine g_al0n (pc := 0) C dX12_bit_0 ?_
  refine s_getR (pc := 1) C fX12_9 h135 rfl dX12_bit_1 ?_
  refine g_il1n (pc := 4) C dX12_bit_4 ?_
  refine s_iald (pc := 5) (q := q) C h136 rfl (by omega) (Nat.le_of_ble_eq_true rfl) dX12_bit_5 ?_
  refine g_is4 (pc := 6) C dX12_bit_6 ?_
  refine g_al0n (pc := 8) C dX12_bit_8 ?_
  refine s_getR (pc := 9) C fX12_9 h135 rfl dX12_bit_9 ?_
  refine g_il1n (pc := 12) C dX12_bit_12 ?_
  refine g_il3n (pc := 13) C dX12_bit_13 ?_
  refine g_if_eq (pc := 14) (tgt := 26) C dX12_bit_14 (by decide) (fun c_14 => ?_) (fun c_14 => ?_)
  · refine g_il4 (pc := 26) C dX12_bit_26 ?_
    refine g_iconst (pc := 28) (v := 1) C dX12_bit_28 (by decide) ?_
    refine g_il2n (pc := 29) C dX12_bit_29 ?_
    refine g_ishl (pc := 30) C dX12_bit_30 ?_
    refine g_iconst (pc := 31) (v := (-1)) C dX12_bit_31 (by decide) ?_
    refine g_ixor (pc := 32) C dX12_bit_32 ?_
    refine g_iand (pc := 33) C dX12_bit_33 ?_
    refine s_iast (pc := 34) (q := q) C h136 rfl (by omega) (Nat.le_of_ble_eq_true rfl) dX12_bit_34 ?_
    refine g_al0n (pc := 35) C dX12_bit_35 ?_
    refine s_getR (pc := 36) C fX12_9 h135 rfl dX12_bit_36 ?_
    refine g_il1n (pc := 39) C dX12_bit_39 ?_
    refine s_iald (pc := 40) (q := q) C h136 rfl (by omega) (Nat.le_of_ble_eq_true rfl) dX12_bit_40 ?_
    refine g_il4 (pc := 41) C dX12_bit_41 ?_
    refine g_icmp_ne (pc := 43) (tgt := 50) C dX12_bit_43 (by decide) (fun c_43 => ?_) (fun c_43 => ?_)
    · refine g_iconst (pc := 50) (v := 1) C dX12_bit_50 (by decide) ?_
      exact r_I C hr dX12_bit_51 (by simp_all [wb, up_apply, upd_apply]) (by simp [wb, *])
    · refine g_iconst (pc := 46) (v := 0) C dX12_bit_46 (by decide) ?_
      refine g_goto (pc := 47) (tgt := 51) C dX12_bit_47 (by decide) ?_
      exact r_I C hr dX12_bit_51 (by simp_all [wb, up_apply, upd_apply]) (by simp [wb, *])
  · refine g_il4 (pc := 17) C dX12_bit_17 ?_
    refine g_iconst (pc := 19) (v := 1) C dX12_bit_19 (by decide) ?_
    refine g_il2n (pc := 20) C dX12_bit_20 ?_
    refine g_ishl (pc := 21) C dX12_bit_21 ?_
    refine g_ior (pc := 22) C dX12_bit_22 ?_
    refine g_goto (pc := 23) (tgt := 34) C dX12_bit_23 (by decide) ?_
    refine s_iast (pc := 34) (q := q) C h136 rfl (by omega) (Nat.le_of_ble_eq_true rfl) dX12_bit_34 ?_
    refine g_al0n (pc := 35) C dX12_bit_35 ?_
    refine s_getR (pc := 36) C fX12_9 h135 rfl dX12_bit_36 ?_
    refine g_il1n (pc := 39) C dX12_bit_39 ?_
    refine s_iald (pc := 40) (q := q) C h136 rfl (by omega) (Nat.le_of_ble_eq_true rfl) dX12_bit_40 ?_
    refine g_il4 (pc := 41) C dX12_bit_41 ?_
    refine g_icmp_ne (pc := 43) (tgt := 50) C dX12_bit_43 (by decide) (fun c_43 => ?_) (fun c_43 => ?_)
    · refine g_iconst (pc := 50) (v := 1) C dX12_bit_50 (by decide) ?_
      exact r_I C hr dX12_bit_51 (by simp_all [wb, up_apply, upd_apply]) (by simp [wb, *])
    · refine g_iconst (pc := 46) (v := 0) C dX12_bit_46 (by decide) ?_
      refine g_goto (pc := 47) (tgt := 51) C dX12_bit_47 (by decide) ?_
      exact r_I C hr dX12_bit_51 (by simp_all [wb, up_apply, upd_apply]) (by simp [wb, *])

theorem c_X12_ropeAt {d : Nat} (hd : 1 ≤ d) (σ : Sg) (w r : Nat) : CI d mX12_ropeAt [.int (nI w), .int (nI r)] σ (nI (33 + 4 * w + 2 * r)) σ := by
  refine con_of (by decide) (catL rfl) (Nat.le_of_ble_eq_true rfl) ?_
  intro μ ω C hr
  have C : Cx μ ω "TowFieldModel" cX12_ropeAt 2 d := C
  have hr : (mH μ).sig.returnType = some .int := hr
  show G μ ω (RQ μ ω (pI (nI (33 + 4 * w + 2 * r)) σ)) 0 [some (.int (nI w)), some (.int (nI r))] [] (mk σ) 0 0
  refine g_bipush (pc := 0) (v := 33) C dX12_ropeAt_0 (by decide) ?_
  refine g_iconst (pc := 2) (v := 4) C dX12_ropeAt_2 (by decide) ?_
  refine g_il0n (pc := 3) C dX12_ropeAt_3 ?_
  refine g_imul (pc := 4) C dX12_ropeAt_4 ?_
  refine g_iadd (pc := 5) C dX12_ropeAt_5 ?_
  refine g_iconst (pc := 6) (v := 2) C dX12_ropeAt_6 (by decide) ?_
  refine g_il1n (pc := 7) C dX12_ropeAt_7 ?_
  refine g_imul (pc := 8) C dX12_ropeAt_8 ?_
  refine g_iadd (pc := 9) C dX12_ropeAt_9 ?_
  exact r_I C hr dX12_ropeAt_10 (by simp only [ixl, nI_add, pk_mul]) rfl

theorem c_X12_isLane {d : Nat} (hd : 2 ≤ d) (σ : Sg) (k : Int32) : CB d mX12_isLane [.int k] σ (0 ≤ k ∧ k ≤ 5) σ := by
  refine con_of (by decide) (catL rfl) (Nat.le_of_ble_eq_true rfl) ?_
  intro μ ω C hr
  have C : Cx μ ω "TowFieldModel" cX12_isLane 1 d := C
  have hr : (mH μ).sig.returnType = some .boolean := hr
  show G μ ω (RQ μ ω (pB (0 ≤ k ∧ k ≤ 5) σ)) 0 [some (.int k)] [] (mk σ) 0 0
  refine g_il0n (pc := 0) C dX12_isLane_0 ?_
  refine g_iconst (pc := 1) (v := 0) C dX12_isLane_1 (by decide) ?_
  refine g_iconst (pc := 2) (v := 5) C dX12_isLane_2 (by decide) ?_
  refine s_SB (pc := 3) (st := []) C (c_X12_within (d := d - 1) (by omega) σ k 0 5) (by omega) lX12_58 dX12_isLane_3 rfl (Nat.le_of_ble_eq_true rfl) rfl (fun b_3 => ?_) (fun b_3 => ?_)
  · exact r_B1 C hr dX12_isLane_6 (by assumption) rfl
  · exact r_B0 C hr dX12_isLane_6 (by assumption) rfl

theorem c_X12_isKind {d : Nat} (hd : 2 ≤ d) (σ : Sg) (k : Int32) : CB d mX12_isKind [.int k] σ (0 ≤ k ∧ k ≤ 5) σ := by
  refine con_of (by decide) (catL rfl) (Nat.le_of_ble_eq_true rfl) ?_
  intro μ ω C hr
  have C : Cx μ ω "TowFieldModel" cX12_isKind 1 d := C
  have hr : (mH μ).sig.returnType = some .boolean := hr
  show G μ ω (RQ μ ω (pB (0 ≤ k ∧ k ≤ 5) σ)) 0 [some (.int k)] [] (mk σ) 0 0
  refine g_il0n (pc := 0) C dX12_isKind_0 ?_
  refine g_iconst (pc := 1) (v := 0) C dX12_isKind_1 (by decide) ?_
  refine g_iconst (pc := 2) (v := 5) C dX12_isKind_2 (by decide) ?_
  refine s_SB (pc := 3) (st := []) C (c_X12_within (d := d - 1) (by omega) σ k 0 5) (by omega) lX12_58 dX12_isKind_3 rfl (Nat.le_of_ble_eq_true rfl) rfl (fun b_3 => ?_) (fun b_3 => ?_)
  · exact r_B1 C hr dX12_isKind_6 (by assumption) rfl
  · exact r_B0 C hr dX12_isKind_6 (by assumption) rfl

theorem c_X12_isSheet {d : Nat} (hd : 2 ≤ d) (σ : Sg) (k : Int32) : CB d mX12_isSheet [.int k] σ (0 ≤ k ∧ k ≤ 3) σ := by
  refine con_of (by decide) (catL rfl) (Nat.le_of_ble_eq_true rfl) ?_
  intro μ ω C hr
  have C : Cx μ ω "TowFieldModel" cX12_isSheet 1 d := C
  have hr : (mH μ).sig.returnType = some .boolean := hr
  show G μ ω (RQ μ ω (pB (0 ≤ k ∧ k ≤ 3) σ)) 0 [some (.int k)] [] (mk σ) 0 0
  refine g_il0n (pc := 0) C dX12_isSheet_0 ?_
  refine g_iconst (pc := 1) (v := 0) C dX12_isSheet_1 (by decide) ?_
  refine g_iconst (pc := 2) (v := 3) C dX12_isSheet_2 (by decide) ?_
  refine s_SB (pc := 3) (st := []) C (c_X12_within (d := d - 1) (by omega) σ k 0 3) (by omega) lX12_58 dX12_isSheet_3 rfl (Nat.le_of_ble_eq_true rfl) rfl (fun b_3 => ?_) (fun b_3 => ?_)
  · exact r_B1 C hr dX12_isSheet_6 (by assumption) rfl
  · exact r_B0 C hr dX12_isSheet_6 (by assumption) rfl

theorem c_X12_moves {d : Nat} (hd : 1 ≤ d) (σ : Sg) {l : Nat} (hl : l < 6) (n : Int32) : CU d mX12_moves [.ref 135, .int (nI l), .int n] σ (up σ 136 (20 + l) (σ 136 0 + n)) := by
  refine con_of (by decide) (catL rfl) (Nat.le_of_ble_eq_true rfl) ?_
  intro μ ω C hr
  have C : Cx μ ω "TowFieldModel" cX12_moves 3 d := C
  have hr : (mH μ).sig.returnType = none := hr
  show G μ ω (RQ μ ω (pU (up σ 136 (20 + l) (σ 136 0 + n)))) 0 [some (.ref 135), some (.int (nI l)), some (.int n)] [] (mk σ) 0 0
  refine g_al0n (pc := 0) C dX12_moves_0 ?_
  refine s_getR (pc := 1) C fX12_9 h135 rfl dX12_moves_1 ?_
  refine g_bipush (pc := 4) (v := 20) C dX12_moves_4 (by decide) ?_
  refine g_il1n (pc := 6) C dX12_moves_6 ?_
  refine g_iadd (pc := 7) C dX12_moves_7 ?_
  refine g_al0n (pc := 8) C dX12_moves_8 ?_
  refine s_getR (pc := 9) C fX12_9 h135 rfl dX12_moves_9 ?_
  refine g_iconst (pc := 12) (v := 0) C dX12_moves_12 (by decide) ?_
  refine s_iald (pc := 13) (q := 0) C h136 rfl (by omega) (Nat.le_of_ble_eq_true rfl) dX12_moves_13 ?_
  refine g_il2n (pc := 14) C dX12_moves_14 ?_
  refine g_iadd (pc := 15) C dX12_moves_15 ?_
  refine s_iast (pc := 16) (q := 20 + l) C h136 (by simp only [ixl, nI_add, pk_mul]) (by omega) (Nat.le_of_ble_eq_true rfl) dX12_moves_16 ?_
  exact r_U C hr dX12_moves_17 rfl

theorem c_X12_cut {d : Nat} (hd : 1 ≤ d) (σ : Sg) (v b : Int32) : CI d mX12_cut [.int v, .int b] σ (if b = 8 then v.toInt8.toInt32 else if b = 16 then v.toInt16.toInt32 else v) σ := by
  refine con_of (by decide) (catL rfl) (Nat.le_of_ble_eq_true rfl) ?_
  intro μ ω C hr
  have C : Cx μ ω "TowFieldModel" cX12_cut 2 d := C
  have hr : (mH μ).sig.returnType = some .int := hr
  show G μ ω (RQ μ ω (pI (if b = 8 then v.toInt8.toInt32 else if b = 16 then v.toInt16.toInt32 else v) σ)) 0 [some (.int v), some (.int b)] [] (mk σ) 0 0
  refine g_il1n (pc := 0) C dX12_cut_0 ?_
  refine g_bipush (pc := 1) (v := 8) C dX12_cut_1 (by decide) ?_
  refine g_icmp_ne (pc := 3) (tgt := 11) C dX12_cut_3 (by decide) (fun c_3 => ?_) (fun c_3 => ?_)
  · refine g_il1n (pc := 11) C dX12_cut_11 ?_
    refine g_bipush (pc := 12) (v := 16) C dX12_cut_12 (by decide) ?_
    refine g_icmp_ne (pc := 14) (tgt := 22) C dX12_cut_14 (by decide) (fun c_14 => ?_) (fun c_14 => ?_)
    · refine g_il0n (pc := 22) C dX12_cut_22 ?_
      exact r_I C hr dX12_cut_23 (by simp_all) rfl
    · refine g_il0n (pc := 17) C dX12_cut_17 ?_
      refine g_i2s (pc := 18) C dX12_cut_18 ?_
      refine g_goto (pc := 19) (tgt := 23) C dX12_cut_19 (by decide) ?_
      exact r_I C hr dX12_cut_23 (by simp_all) rfl
  · refine g_il0n (pc := 6) C dX12_cut_6 ?_
    refine g_i2b (pc := 7) C dX12_cut_7 ?_
    refine g_goto (pc := 8) (tgt := 23) C dX12_cut_8 (by decide) ?_
    exact r_I C hr dX12_cut_23 (by simp_all) rfl

