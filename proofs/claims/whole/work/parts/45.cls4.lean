/-! ===== the class: winches and planes ===== -/
section CPY
variable {μ : Mx} {ω : Om} {Q : State → Prop} {own : String} {cc : ByteArray} {nL d pc : Nat} {lv : List (Option Value)} {st : List Value} {σ : Sg} {idx : Nat}
/-- a row becomes another one's first c -/
theorem s_cpy0 (C : Cx μ ω own cc nL d) {a0 a1 n0 n1 c : Nat} {m : Int32} (hS0 : SH[a0]? = some (.inl n0)) (hS1 : SH[a1]? = some (.inl n1)) (h3 : m = nI c) (h4 : c ≤ n0) (h5 : c ≤ n1) (hn0 : n0 < 2 ^ 31) (hn1 : n1 < 2 ^ 31)
    (hw1 : Cond.methodLink own idx arraycopyName ∈ TW) (hdd : 1 ≤ d) (hst : (st.map fun v => v.category).sum ≤ 8) (hlv : lv.length = nL) (hd : decode cc pc = .ok (.invokestatic idx, 3))
    (kk : ∀ τ : Sg, (∀ j, j < c → τ a1 j = σ a0 j) → Eqx [a1] σ τ → G μ ω Q (pc + 3) lv st (mk τ) 0 0) : G μ ω Q pc lv (.int m :: .int 0 :: .ref a1 :: .int 0 :: .ref a0 :: st) (mk σ) 0 0 := by
  refine s_copy C (p0 := 0) (p1 := 0) (c := c) hS0 hS1 rfl rfl h3 (by omega) (by omega) hn0 hn1 hw1 hdd hst hlv hd (kk _ (fun j hj => ?_) (fun q hq => ?_))
  · rw [sup_apply, if_pos rfl, pk_cpy_in (by omega) (by omega)]
    congr 1; omega
  · rw [sup_apply, if_neg (by simpa using hq)]
end CPY
theorem c_place {d : Nat} (hd : 1 ≤ d) (σ : Sg) (w r : Nat) : CI d mX9_place [.int (nI w), .int (nI r)] σ (nI (2 * w + r)) σ := by
  refine con_of (by decide) (catL rfl) (Nat.le_of_ble_eq_true rfl) ?_
  intro μ ω C hr
  have C : Cx μ ω "TowField$Winches" cX9_place 2 d := C
  have hr : (mH μ).sig.returnType = some .int := hr
  show G μ ω (RQ μ ω (pI (nI (2 * w + r)) σ)) 0 [some (.int (nI w)), some (.int (nI r))] [] (mk σ) 0 0
  refine g_il0n (pc := 0) C dX9_place_0 ?_
  refine g_iconst (pc := 1) (v := 2) C dX9_place_1 (by decide) ?_
  refine g_imul (pc := 2) C dX9_place_2 ?_
  refine g_il1n (pc := 3) C dX9_place_3 ?_
  refine g_iadd (pc := 4) C dX9_place_4 ?_
  exact r_I C hr dX9_place_5 (by simp only [ixl, pk_mul, nI_add]; congr 1; omega) rfl

theorem c_putW {d : Nat} (hd : 1 ≤ d) (σ : Sg) {z : Nat} (hz : isW z) {p : Nat} (hp : p < 6) (s t : Int32) : CU d mX9_put [.ref (z + 11), .int (nI p), .int s, .int t] σ (up (up σ (z + 12) p s) (z + 13) p t) := by
  refine con_of (by decide) (catL rfl) (Nat.le_of_ble_eq_true rfl) ?_
  intro μ ω C hr
  have C : Cx μ ω "TowField$Winches" cX9_put 4 d := C
  have hr : (mH μ).sig.returnType = none := hr
  show G μ ω (RQ μ ω (pU (up (up σ (z + 12) p s) (z + 13) p t))) 0 [some (.ref (z + 11)), some (.int (nI p)), some (.int s), some (.int t)] [] (mk σ) 0 0
  refine g_al0n (pc := 0) C dX9_put_0 ?_
  refine s_getR (pc := 1) C fX9_9 (w11 hz) rfl dX9_put_1 ?_
  refine g_il1n (pc := 4) C dX9_put_4 ?_
  refine g_il2n (pc := 5) C dX9_put_5 ?_
  refine s_iast (pc := 6) (q := p) C (w12 hz) rfl (by omega) (Nat.le_of_ble_eq_true rfl) dX9_put_6 ?_
  refine g_al0n (pc := 7) C dX9_put_7 ?_
  refine s_getR (pc := 8) C fX9_13 (w11 hz) rfl dX9_put_8 ?_
  refine g_il1n (pc := 11) C dX9_put_11 ?_
  refine g_il3n (pc := 12) C dX9_put_12 ?_
  refine s_iast (pc := 13) (q := p) C (w13 hz) rfl (by omega) (Nat.le_of_ble_eq_true rfl) dX9_put_13 ?_
  exact r_U C hr dX9_put_14 rfl

theorem c_hasX1 {d : Nat} (hd : 2 ≤ d) (σ : Sg) {z : Nat} (hz : isW z) (k : Int32) : CB d mX1_has [.ref (z + 1), .int k] σ (0 ≤ k ∧ k ≤ σ (z + 1) 4 - 1) σ := by
  refine con_of (by decide) (catL rfl) (Nat.le_of_ble_eq_true rfl) ?_
  intro μ ω C hr
  have C : Cx μ ω "TowField$Gliders" cX1_has 2 d := C
  have hr : (mH μ).sig.returnType = some .boolean := hr
  show G μ ω (RQ μ ω (pB (0 ≤ k ∧ k ≤ σ (z + 1) 4 - 1) σ)) 0 [some (.ref (z + 1)), some (.int k)] [] (mk σ) 0 0
  refine g_il1n (pc := 0) C dX1_has_0 ?_
  refine g_iconst (pc := 1) (v := 0) C dX1_has_1 (by decide) ?_
  refine g_al0n (pc := 2) C dX1_has_2 ?_
  refine s_getI (pc := 3) C fX1_22 (w1 hz) rfl dX1_has_3 ?_
  refine g_iconst (pc := 6) (v := 1) C dX1_has_6 (by decide) ?_
  refine g_isub (pc := 7) C dX1_has_7 ?_
  refine s_NB (pc := 8) (st := []) C (c_X11_within (d := d - 1) (by omega) σ k 0 ((σ (z + 1) 4) - 1)) (by omega) lX1_29 dX1_has_8 rfl (Nat.le_of_ble_eq_true rfl) rfl (fun b_8 => ?_) (fun b_8 => ?_)
  · exact r_B1 C hr dX1_has_11 b_8 rfl
  · exact r_B0 C hr dX1_has_11 b_8 rfl

theorem c_hasX4 {d : Nat} (hd : 2 ≤ d) (σ : Sg) {z : Nat} (hz : isW z) (k : Int32) : CB d mX4_has [.ref (z + 6), .int k] σ (0 ≤ k ∧ k ≤ σ (z + 6) 4 - 1) σ := by
  refine con_of (by decide) (catL rfl) (Nat.le_of_ble_eq_true rfl) ?_
  intro μ ω C hr
  have C : Cx μ ω "TowField$People" cX4_has 2 d := C
  have hr : (mH μ).sig.returnType = some .boolean := hr
  show G μ ω (RQ μ ω (pB (0 ≤ k ∧ k ≤ σ (z + 6) 4 - 1) σ)) 0 [some (.ref (z + 6)), some (.int k)] [] (mk σ) 0 0
  refine g_il1n (pc := 0) C dX4_has_0 ?_
  refine g_iconst (pc := 1) (v := 0) C dX4_has_1 (by decide) ?_
  refine g_al0n (pc := 2) C dX4_has_2 ?_
  refine s_getI (pc := 3) C fX4_22 (w6 hz) rfl dX4_has_3 ?_
  refine g_iconst (pc := 6) (v := 1) C dX4_has_6 (by decide) ?_
  refine g_isub (pc := 7) C dX4_has_7 ?_
  refine s_NB (pc := 8) (st := []) C (c_X11_within (d := d - 1) (by omega) σ k 0 ((σ (z + 6) 4) - 1)) (by omega) lX4_29 dX4_has_8 rfl (Nat.le_of_ble_eq_true rfl) rfl (fun b_8 => ?_) (fun b_8 => ?_)
  · exact r_B1 C hr dX4_has_11 b_8 rfl
  · exact r_B0 C hr dX4_has_11 b_8 rfl

theorem c_hasX5 {d : Nat} (hd : 2 ≤ d) (σ : Sg) {z : Nat} (hz : isW z) (k : Int32) : CB d mX5_has [.ref (z + 14), .int k] σ (0 ≤ k ∧ k ≤ σ (z + 14) 1 - 1) σ := by
  refine con_of (by decide) (catL rfl) (Nat.le_of_ble_eq_true rfl) ?_
  intro μ ω C hr
  have C : Cx μ ω "TowField$Planes" cX5_has 2 d := C
  have hr : (mH μ).sig.returnType = some .boolean := hr
  show G μ ω (RQ μ ω (pB (0 ≤ k ∧ k ≤ σ (z + 14) 1 - 1) σ)) 0 [some (.ref (z + 14)), some (.int k)] [] (mk σ) 0 0
  refine g_il1n (pc := 0) C dX5_has_0 ?_
  refine g_iconst (pc := 1) (v := 0) C dX5_has_1 (by decide) ?_
  refine g_al0n (pc := 2) C dX5_has_2 ?_
  refine s_getI (pc := 3) C fX5_13 (w14 hz) rfl dX5_has_3 ?_
  refine g_iconst (pc := 6) (v := 1) C dX5_has_6 (by decide) ?_
  refine g_isub (pc := 7) C dX5_has_7 ?_
  refine s_NB (pc := 8) (st := []) C (c_X11_within (d := d - 1) (by omega) σ k 0 ((σ (z + 14) 1) - 1)) (by omega) lX5_17 dX5_has_8 rfl (Nat.le_of_ble_eq_true rfl) rfl (fun b_8 => ?_) (fun b_8 => ?_)
  · exact r_B1 C hr dX5_has_11 b_8 rfl
  · exact r_B0 C hr dX5_has_11 b_8 rfl

theorem c_hasX0 {d : Nat} (hd : 2 ≤ d) (σ : Sg) {z : Nat} (hz : isW z) (k : Int32) : CB d mX0_has [.ref (z + 22), .int k] σ (0 ≤ k ∧ k ≤ σ (z + 22) 12 - 1) σ := by
  refine con_of (by decide) (catL rfl) (Nat.le_of_ble_eq_true rfl) ?_
  intro μ ω C hr
  have C : Cx μ ω "TowField$Asks" cX0_has 2 d := C
  have hr : (mH μ).sig.returnType = some .boolean := hr
  show G μ ω (RQ μ ω (pB (0 ≤ k ∧ k ≤ σ (z + 22) 12 - 1) σ)) 0 [some (.ref (z + 22)), some (.int k)] [] (mk σ) 0 0
  refine g_il1n (pc := 0) C dX0_has_0 ?_
  refine g_iconst (pc := 1) (v := 0) C dX0_has_1 (by decide) ?_
  refine g_al0n (pc := 2) C dX0_has_2 ?_
  refine s_getI (pc := 3) C fX0_46 (w22 hz) rfl dX0_has_3 ?_
  refine g_iconst (pc := 6) (v := 1) C dX0_has_6 (by decide) ?_
  refine g_isub (pc := 7) C dX0_has_7 ?_
  refine s_NB (pc := 8) (st := []) C (c_X11_within (d := d - 1) (by omega) σ k 0 ((σ (z + 22) 12) - 1)) (by omega) lX0_50 dX0_has_8 rfl (Nat.le_of_ble_eq_true rfl) rfl (fun b_8 => ?_) (fun b_8 => ?_)
  · exact r_B1 C hr dX0_has_11 b_8 rfl
  · exact r_B0 C hr dX0_has_11 b_8 rfl

theorem c_hasRope {d : Nat} (hd : 2 ≤ d) (σ : Sg) {z : Nat} (hz : isW z) (w r : Int32) : CB d mX9_hasRope [.ref (z + 11), .int w, .int r] σ ((0 ≤ w ∧ w ≤ σ (z + 11) 2 - 1) ∧ (0 ≤ r ∧ r ≤ 1)) σ := by
  refine con_of (by decide) (catL rfl) (Nat.le_of_ble_eq_true rfl) ?_
  intro μ ω C hr
  have C : Cx μ ω "TowField$Winches" cX9_hasRope 3 d := C
  have hr : (mH μ).sig.returnType = some .boolean := hr
  show G μ ω (RQ μ ω (pB ((0 ≤ w ∧ w ≤ σ (z + 11) 2 - 1) ∧ (0 ≤ r ∧ r ≤ 1)) σ)) 0 [some (.ref (z + 11)), some (.int w), some (.int r)] [] (mk σ) 0 0
  refine g_il1n (pc := 0) C dX9_hasRope_0 ?_
  refine g_iconst (pc := 1) (v := 0) C dX9_hasRope_1 (by decide) ?_
  refine g_al0n (pc := 2) C dX9_hasRope_2 ?_
  refine s_getI (pc := 3) C fX9_16 (w11 hz) rfl dX9_hasRope_3 ?_
  refine g_iconst (pc := 6) (v := 1) C dX9_hasRope_6 (by decide) ?_
  refine g_isub (pc := 7) C dX9_hasRope_7 ?_
  refine s_NB (pc := 8) (st := []) C (c_X11_within (d := d - 1) (by omega) σ w 0 ((σ (z + 11) 2) - 1)) (by omega) lX9_20 dX9_hasRope_8 rfl (Nat.le_of_ble_eq_true rfl) rfl (fun b_8 => ?_) (fun b_8 => ?_)
  · refine g_if_eq (pc := 11) (tgt := 27) C dX9_hasRope_11 (by decide) (fun c => absurd c (by decide)) (fun _ => ?_)
    refine g_il2n (pc := 14) C dX9_hasRope_14 ?_
    refine g_iconst (pc := 15) (v := 0) C dX9_hasRope_15 (by decide) ?_
    refine g_iconst (pc := 16) (v := 1) C dX9_hasRope_16 (by decide) ?_
    refine s_NB (pc := 17) (st := []) C (c_X11_within (d := d - 1) (by omega) σ r 0 1) (by omega) lX9_20 dX9_hasRope_17 rfl (Nat.le_of_ble_eq_true rfl) rfl (fun b_17 => ?_) (fun b_17 => ?_)
    · refine g_if_eq (pc := 20) (tgt := 27) C dX9_hasRope_20 (by decide) (fun c => absurd c (by decide)) (fun _ => ?_)
      refine g_iconst (pc := 23) (v := 1) C dX9_hasRope_23 (by decide) ?_
      refine g_goto (pc := 24) (tgt := 28) C dX9_hasRope_24 (by decide) ?_
      exact r_B1 C hr dX9_hasRope_28 ⟨b_8, b_17⟩ rfl
    · refine g_if_eq (pc := 20) (tgt := 27) C dX9_hasRope_20 (by decide) (fun _ => ?_) (fun c => absurd c (by decide))
      refine g_iconst (pc := 27) (v := 0) C dX9_hasRope_27 (by decide) ?_
      exact r_B0 C hr dX9_hasRope_28 (fun q => b_17 q.2) rfl
  · refine g_if_eq (pc := 11) (tgt := 27) C dX9_hasRope_11 (by decide) (fun _ => ?_) (fun c => absurd c (by decide))
    refine g_iconst (pc := 27) (v := 0) C dX9_hasRope_27 (by decide) ?_
    exact r_B0 C hr dX9_hasRope_28 (fun q => b_8 q.1) rfl

theorem c_addW {d : Nat} (hd : 2 ≤ d) (σ : Sg) {z : Nat} (hz : isW z) {n : Nat} (hn : σ (z + 11) 2 = nI n) (hn3 : n < 3) : CI d mX9_add [.ref (z + 11)] σ (nI n) (up (up (up (up (up σ (z + 12) (2 * n + 0) 0) (z + 13) (2 * n + 0) (-1)) (z + 12) (2 * n + 1) 0) (z + 13) (2 * n + 1) (-1)) (z + 11) 2 (nI n + 1)) := by
  refine con_of (by decide) (catL rfl) (Nat.le_of_ble_eq_true rfl) ?_
  intro μ ω C hr
  have C : Cx μ ω "TowField$Winches" cX9_add 3 d := C
  have hr : (mH μ).sig.returnType = some .int := hr
  show G μ ω (RQ μ ω (pI (nI n) (up (up (up (up (up σ (z + 12) (2 * n + 0) 0) (z + 13) (2 * n + 0) (-1)) (z + 12) (2 * n + 1) 0) (z + 13) (2 * n + 1) (-1)) (z + 11) 2 (nI n + 1)))) 0 [some (.ref (z + 11)), none, none] [] (mk σ) 0 0
  refine g_al0n (pc := 0) C dX9_add_0 ?_
  refine s_getIv (pc := 1) (v := nI n) C fX9_16 (w11 hz) rfl (by first | exact hn | (simp (disch := omega) only [up_ne]; exact hn)) dX9_add_1 ?_
  refine g_is1n (pc := 4) C dX9_add_4 ?_
  refine g_iconst (pc := 5) (v := 0) C dX9_add_5 (by decide) ?_
  refine g_is2n (pc := 6) C dX9_add_6 ?_
  refine g_il2n (pc := 7) C dX9_add_7 ?_
  refine g_iconst (pc := 8) (v := 2) C dX9_add_8 (by decide) ?_
  refine g_icmp_geL (pc := 9) (tgt := 29) C dX9_add_9 (by decide) (fun c => absurd c (by decide)) (fun _ => ?_)
  refine g_al0n (pc := 12) C dX9_add_12 ?_
  refine g_il1n (pc := 13) C dX9_add_13 ?_
  refine g_il2n (pc := 14) C dX9_add_14 ?_
  refine s_SI (pc := 15) (st := [(.ref (z + 11))]) C (c_place (d := d - 1) (by omega) σ n 0) (by omega) lX9_26 dX9_add_15 rfl (Nat.le_of_ble_eq_true rfl) rfl ?_
  refine g_iconst (pc := 18) (v := 0) C dX9_add_18 (by decide) ?_
  refine g_iconst (pc := 19) (v := (-1)) C dX9_add_19 (by decide) ?_
  refine s_VU (pc := 20) (st := []) C (w11 hz) rfl (c_putW (d := d - 1) (by omega) σ hz (p := 2 * n + 0) (by omega) 0 ((-1))) (by omega) lX9_30 dX9_add_20 rfl (Nat.le_of_ble_eq_true rfl) rfl ?_
  refine g_ii2 (pc := 23) (v := 1) C dX9_add_23 (by decide) ?_
  refine g_goto (pc := 26) (tgt := 7) C dX9_add_26 (by decide) ?_
  refine g_il2n (pc := 7) C dX9_add_7 ?_
  refine g_iconst (pc := 8) (v := 2) C dX9_add_8 (by decide) ?_
  refine g_icmp_geL (pc := 9) (tgt := 29) C dX9_add_9 (by decide) (fun c => absurd c (by decide)) (fun _ => ?_)
  refine g_al0n (pc := 12) C dX9_add_12 ?_
  refine g_il1n (pc := 13) C dX9_add_13 ?_
  refine g_il2n (pc := 14) C dX9_add_14 ?_
  refine s_SI (pc := 15) (st := [(.ref (z + 11))]) C (c_place (d := d - 1) (by omega) ((up (up σ (z + 12) (2 * n + 0) 0) (z + 13) (2 * n + 0) ((-1)))) n 1) (by omega) lX9_26 dX9_add_15 rfl (Nat.le_of_ble_eq_true rfl) rfl ?_
  refine g_iconst (pc := 18) (v := 0) C dX9_add_18 (by decide) ?_
  refine g_iconst (pc := 19) (v := (-1)) C dX9_add_19 (by decide) ?_
  refine s_VU (pc := 20) (st := []) C (w11 hz) rfl (c_putW (d := d - 1) (by omega) ((up (up σ (z + 12) (2 * n + 0) 0) (z + 13) (2 * n + 0) ((-1)))) hz (p := 2 * n + 1) (by omega) 0 ((-1))) (by omega) lX9_30 dX9_add_20 rfl (Nat.le_of_ble_eq_true rfl) rfl ?_
  refine g_ii2 (pc := 23) (v := 2) C dX9_add_23 (by decide) ?_
  refine g_goto (pc := 26) (tgt := 7) C dX9_add_26 (by decide) ?_
  refine g_il2n (pc := 7) C dX9_add_7 ?_
  refine g_iconst (pc := 8) (v := 2) C dX9_add_8 (by decide) ?_
  refine g_icmp_geL (pc := 9) (tgt := 29) C dX9_add_9 (by decide) (fun _ => ?_) (fun c => absurd c (by decide))
  refine g_al0n (pc := 29) C dX9_add_29 ?_
  refine g_il1n (pc := 30) C dX9_add_30 ?_
  refine g_iconst (pc := 31) (v := 1) C dX9_add_31 (by decide) ?_
  refine g_iadd (pc := 32) C dX9_add_32 ?_
  refine s_putI (pc := 33) C pX9_16 (w11 hz) rfl dX9_add_33 ?_
  refine g_il1n (pc := 36) C dX9_add_36 ?_
  exact r_I C hr dX9_add_37 rfl rfl

theorem c_addN {d : Nat} (hd : 1 ≤ d) (σ : Sg) {z : Nat} (hz : isW z) {n : Nat} (hn : σ (z + 14) 1 = nI n) (hn3 : n < 3) : CI d mX5_add [.ref (z + 14)] σ (nI n) (up (up σ (z + 15) n (-1)) (z + 14) 1 (nI n + 1)) := by
  refine con_of (by decide) (catL rfl) (Nat.le_of_ble_eq_true rfl) ?_
  intro μ ω C hr
  have C : Cx μ ω "TowField$Planes" cX5_add 2 d := C
  have hr : (mH μ).sig.returnType = some .int := hr
  show G μ ω (RQ μ ω (pI (nI n) (up (up σ (z + 15) n (-1)) (z + 14) 1 (nI n + 1)))) 0 [some (.ref (z + 14)), none] [] (mk σ) 0 0
  refine g_al0n (pc := 0) C dX5_add_0 ?_
  refine s_getIv (pc := 1) (v := nI n) C fX5_13 (w14 hz) rfl (by first | exact hn | (simp (disch := omega) only [up_ne]; exact hn)) dX5_add_1 ?_
  refine g_is1n (pc := 4) C dX5_add_4 ?_
  refine g_al0n (pc := 5) C dX5_add_5 ?_
  refine s_getR (pc := 6) C fX5_9 (w14 hz) rfl dX5_add_6 ?_
  refine g_il1n (pc := 9) C dX5_add_9 ?_
  refine g_iconst (pc := 10) (v := (-1)) C dX5_add_10 (by decide) ?_
  refine s_iast (pc := 11) (q := n) C (w15 hz) rfl (by omega) (Nat.le_of_ble_eq_true rfl) dX5_add_11 ?_
  refine g_al0n (pc := 12) C dX5_add_12 ?_
  refine g_il1n (pc := 13) C dX5_add_13 ?_
  refine g_iconst (pc := 14) (v := 1) C dX5_add_14 (by decide) ?_
  refine g_iadd (pc := 15) C dX5_add_15 ?_
  refine s_putI (pc := 16) C pX5_13 (w14 hz) rfl dX5_add_16 ?_
  refine g_il1n (pc := 19) C dX5_add_19 ?_
  exact r_I C hr dX5_add_20 rfl rfl

theorem lp_firstOut {μ : Mx} {ω : Om} {d : Nat} (hd : 1 ≤ d) (C : Cx μ ω "TowField$Winches" cX9_firstOut 2 d) (hr : (mH μ).sig.returnType = some .int) (σ : Sg) {z : Nat} (hz : isW z) {ν : Nu} {n : Nat} (hn : σ (z + 11) 2 = nI n) (hn3 : n ≤ 3) (hw : ∀ p, p < 2 * n → σ (z + 12) p = ν (33 + 2 * p)) : ∀ (f i : Nat), i + f = 2 * n → (fstL (outP ν) i = none) → G μ ω (RQ μ ω (pI (o2i (fstL (outP ν) (2 * n))) σ)) 2 [some (.ref (z + 11)), some (.int (nI i))] [] (mk σ) 0 0 := by
  intro f
  induction f with
  | zero =>
    intro i hif hv
    have hin : i = 2 * n := by omega
    have e2 : nI n * 2 = nI (2 * n) := (pk_mul n 2).trans (by rw [Nat.mul_comm])
    refine g_il1n (pc := 2) C dX9_firstOut_2 ?_
    refine g_al0n (pc := 3) C dX9_firstOut_3 ?_
    refine s_getIv (pc := 4) (v := nI n) C fX9_16 (w11 hz) rfl hn dX9_firstOut_4 ?_
    refine g_iconst (pc := 7) (v := 2) C dX9_firstOut_7 (by decide) ?_
    refine g_imul (pc := 8) C dX9_firstOut_8 ?_
    refine g_icmp_geL (pc := 9) (tgt := 30) C dX9_firstOut_9 (by decide) (fun c_9 => ?_) (fun c_9 => absurd c_9 (by rw [e2]; exact nI_nlt (by omega) (by omega)))
    refine g_iconst (pc := 30) (v := (-1)) C dX9_firstOut_30 (by decide) ?_
    exact r_I C hr dX9_firstOut_31 (by rw [hin] at hv; rw [hv]; rfl) rfl
  | succ f ih =>
    intro i hif hv
    have e2 : nI n * 2 = nI (2 * n) := (pk_mul n 2).trans (by rw [Nat.mul_comm])
    refine g_il1n (pc := 2) C dX9_firstOut_2 ?_
    refine g_al0n (pc := 3) C dX9_firstOut_3 ?_
    refine s_getIv (pc := 4) (v := nI n) C fX9_16 (w11 hz) rfl hn dX9_firstOut_4 ?_
    refine g_iconst (pc := 7) (v := 2) C dX9_firstOut_7 (by decide) ?_
    refine g_imul (pc := 8) C dX9_firstOut_8 ?_
    refine g_icmp_geL (pc := 9) (tgt := 30) C dX9_firstOut_9 (by decide) (fun c_9 => absurd (by rw [e2]; exact nI_lt (by omega) (by omega)) c_9) (fun c_9 => ?_)
    refine g_al0n (pc := 12) C dX9_firstOut_12 ?_
    refine s_getR (pc := 13) C fX9_9 (w11 hz) rfl dX9_firstOut_13 ?_
    refine g_il1n (pc := 16) C dX9_firstOut_16 ?_
    refine s_ialdv (pc := 17) (q := i) (v := ν (33 + 2 * i)) C (w12 hz) rfl (by omega) (Nat.le_of_ble_eq_true rfl) (hw _ (by omega)) dX9_firstOut_17 ?_
    refine g_iconst (pc := 18) (v := 2) C dX9_firstOut_18 (by decide) ?_
    refine g_icmp_ne (pc := 19) (tgt := 24) C dX9_firstOut_19 (by decide) (fun c_19 => ?_) (fun c_19 => ?_)
    · refine g_ii1 (pc := 24) (v := nI (i + 1)) C dX9_firstOut_24 (nI_inc1 _) ?_
      refine g_goto (pc := 27) (tgt := 2) C dX9_firstOut_27 (by decide) ?_
      exact ih (i + 1) (by omega) (fstL_no hv (by unfold outP; exact decide_eq_false c_19))
    · refine g_il1n (pc := 22) C dX9_firstOut_22 ?_
      exact r_I C hr dX9_firstOut_23 (by rw [fstL_hit hv (by unfold outP; exact decide_eq_true c_19) (show i < 2 * n by omega)]; rfl) rfl

theorem c_firstOut {d : Nat} (hd : 1 ≤ d) (σ : Sg) {z : Nat} (hz : isW z) {ν : Nu} {n : Nat} (hn : σ (z + 11) 2 = nI n) (hn3 : n ≤ 3) (hw : ∀ p, p < 2 * n → σ (z + 12) p = ν (33 + 2 * p)) : CI d mX9_firstOut [.ref (z + 11)] σ (o2i (fstL (outP ν) (2 * n))) σ := by
  refine con_of (by decide) (catL rfl) (Nat.le_of_ble_eq_true rfl) ?_
  intro μ ω C hr
  have C : Cx μ ω "TowField$Winches" cX9_firstOut 2 d := C
  have hr : (mH μ).sig.returnType = some .int := hr
  show G μ ω (RQ μ ω (pI (o2i (fstL (outP ν) (2 * n))) σ)) 0 [some (.ref (z + 11)), none] [] (mk σ) 0 0
  refine g_iconst (pc := 0) (v := 0) C dX9_firstOut_0 (by decide) ?_
  refine g_is1n (pc := 1) C dX9_firstOut_1 ?_
  exact lp_firstOut hd C hr σ hz hn hn3 hw (2 * n) 0 (by omega) rfl

theorem lp_firstToFetch {μ : Mx} {ω : Om} {d : Nat} (hd : 1 ≤ d) (C : Cx μ ω "TowField$Winches" cX9_firstToFetch 2 d) (hr : (mH μ).sig.returnType = some .int) (σ : Sg) {z : Nat} (hz : isW z) {ν : Nu} {n : Nat} (hn : σ (z + 11) 2 = nI n) (hn3 : n ≤ 3) (hw : ∀ p, p < 2 * n → σ (z + 12) p = ν (33 + 2 * p)) : ∀ (f i : Nat), i + f = 2 * n → (fstL (drmP ν) i = none) → G μ ω (RQ μ ω (pI (o2i ((fstL (drmP ν) (2 * n)).map (fun p => p / 2))) σ)) 2 [some (.ref (z + 11)), some (.int (nI i))] [] (mk σ) 0 0 := by
  intro f
  induction f with
  | zero =>
    intro i hif hv
    have hin : i = 2 * n := by omega
    have e2 : nI n * 2 = nI (2 * n) := (pk_mul n 2).trans (by rw [Nat.mul_comm])
    refine g_il1n (pc := 2) C dX9_firstToFetch_2 ?_
    refine g_al0n (pc := 3) C dX9_firstToFetch_3 ?_
    refine s_getIv (pc := 4) (v := nI n) C fX9_16 (w11 hz) rfl hn dX9_firstToFetch_4 ?_
    refine g_iconst (pc := 7) (v := 2) C dX9_firstToFetch_7 (by decide) ?_
    refine g_imul (pc := 8) C dX9_firstToFetch_8 ?_
    refine g_icmp_geL (pc := 9) (tgt := 31) C dX9_firstToFetch_9 (by decide) (fun c_9 => ?_) (fun c_9 => absurd c_9 (by rw [e2]; exact nI_nlt (by omega) (by omega)))
    refine g_iconst (pc := 31) (v := (-1)) C dX9_firstToFetch_31 (by decide) ?_
    exact r_I C hr dX9_firstToFetch_32 (by rw [hin] at hv; rw [hv]; rfl) rfl
  | succ f ih =>
    intro i hif hv
    have e2 : nI n * 2 = nI (2 * n) := (pk_mul n 2).trans (by rw [Nat.mul_comm])
    refine g_il1n (pc := 2) C dX9_firstToFetch_2 ?_
    refine g_al0n (pc := 3) C dX9_firstToFetch_3 ?_
    refine s_getIv (pc := 4) (v := nI n) C fX9_16 (w11 hz) rfl hn dX9_firstToFetch_4 ?_
    refine g_iconst (pc := 7) (v := 2) C dX9_firstToFetch_7 (by decide) ?_
    refine g_imul (pc := 8) C dX9_firstToFetch_8 ?_
    refine g_icmp_geL (pc := 9) (tgt := 31) C dX9_firstToFetch_9 (by decide) (fun c_9 => absurd (by rw [e2]; exact nI_lt (by omega) (by omega)) c_9) (fun c_9 => ?_)
    refine g_al0n (pc := 12) C dX9_firstToFetch_12 ?_
    refine s_getR (pc := 13) C fX9_9 (w11 hz) rfl dX9_firstToFetch_13 ?_
    refine g_il1n (pc := 16) C dX9_firstToFetch_16 ?_
    refine s_ialdv (pc := 17) (q := i) (v := ν (33 + 2 * i)) C (w12 hz) rfl (by omega) (Nat.le_of_ble_eq_true rfl) (hw _ (by omega)) dX9_firstToFetch_17 ?_
    refine g_if_ne (pc := 18) (tgt := 25) C dX9_firstToFetch_18 (by decide) (fun c_18 => ?_) (fun c_18 => ?_)
    · refine g_ii1 (pc := 25) (v := nI (i + 1)) C dX9_firstToFetch_25 (nI_inc1 _) ?_
      refine g_goto (pc := 28) (tgt := 2) C dX9_firstToFetch_28 (by decide) ?_
      exact ih (i + 1) (by omega) (fstL_no hv (by unfold drmP; exact decide_eq_false c_18))
    · refine g_il1n (pc := 21) C dX9_firstToFetch_21 ?_
      refine g_iconst (pc := 22) (v := 2) C dX9_firstToFetch_22 (by decide) ?_
      refine g_idiv (pc := 23) C dX9_firstToFetch_23 (by decide) ?_
      exact r_I C hr dX9_firstToFetch_24 (by rw [fstL_hit hv (by unfold drmP; exact decide_eq_true c_18) (show i < 2 * n by omega)]; exact pk_div (d := 2) (by omega) (by decide) (by decide)) rfl

theorem c_firstToFetch {d : Nat} (hd : 1 ≤ d) (σ : Sg) {z : Nat} (hz : isW z) {ν : Nu} {n : Nat} (hn : σ (z + 11) 2 = nI n) (hn3 : n ≤ 3) (hw : ∀ p, p < 2 * n → σ (z + 12) p = ν (33 + 2 * p)) : CI d mX9_firstToFetch [.ref (z + 11)] σ (o2i ((fstL (drmP ν) (2 * n)).map (fun p => p / 2))) σ := by
  refine con_of (by decide) (catL rfl) (Nat.le_of_ble_eq_true rfl) ?_
  intro μ ω C hr
  have C : Cx μ ω "TowField$Winches" cX9_firstToFetch 2 d := C
  have hr : (mH μ).sig.returnType = some .int := hr
  show G μ ω (RQ μ ω (pI (o2i ((fstL (drmP ν) (2 * n)).map (fun p => p / 2))) σ)) 0 [some (.ref (z + 11)), none] [] (mk σ) 0 0
  refine g_iconst (pc := 0) (v := 0) C dX9_firstToFetch_0 (by decide) ?_
  refine g_is1n (pc := 1) C dX9_firstToFetch_1 ?_
  exact lp_firstToFetch hd C hr σ hz hn hn3 hw (2 * n) 0 (by omega) rfl

theorem lp_bothO {μ : Mx} {ω : Om} {d : Nat} (hd : 1 ≤ d) (C : Cx μ ω "TowField$Winches" cX9_firstWithBothOut 2 d) (hr : (mH μ).sig.returnType = some .int) (σ : Sg) {z : Nat} (hz : isW z) {ν : Nu} {n : Nat} (hn : σ (z + 11) 2 = nI n) (hn3 : n ≤ 3) (hw : ∀ p, p < 2 * n → σ (z + 12) p = ν (33 + 2 * p)) : ∀ (f i : Nat), i + f = n → (fstL (winP ν 3) i = none) → G μ ω (RQ μ ω (pI (o2i (fstL (winP ν 3) n)) σ)) 2 [some (.ref (z + 11)), some (.int (nI (2 * i)))] [] (mk σ) 0 0 := by
  intro f
  induction f with
  | zero =>
    intro i hif hv
    have hin : i = n := by omega
    have e2 : nI n * 2 = nI (2 * n) := (pk_mul n 2).trans (by rw [Nat.mul_comm])
    refine g_il1n (pc := 2) C dX9_firstWithBothOut_2 ?_
    refine g_al0n (pc := 3) C dX9_firstWithBothOut_3 ?_
    refine s_getIv (pc := 4) (v := nI n) C fX9_16 (w11 hz) rfl hn dX9_firstWithBothOut_4 ?_
    refine g_iconst (pc := 7) (v := 2) C dX9_firstWithBothOut_7 (by decide) ?_
    refine g_imul (pc := 8) C dX9_firstWithBothOut_8 ?_
    refine g_icmp_geL (pc := 9) (tgt := 44) C dX9_firstWithBothOut_9 (by decide) (fun c_9 => ?_) (fun c_9 => absurd c_9 (by rw [e2]; exact nI_nlt (by omega) (by omega)))
    refine g_iconst (pc := 44) (v := (-1)) C dX9_firstWithBothOut_44 (by decide) ?_
    exact r_I C hr dX9_firstWithBothOut_45 (by rw [hin] at hv; rw [hv]; rfl) rfl
  | succ f ih =>
    intro i hif hv
    have e2 : nI n * 2 = nI (2 * n) := (pk_mul n 2).trans (by rw [Nat.mul_comm])
    refine g_il1n (pc := 2) C dX9_firstWithBothOut_2 ?_
    refine g_al0n (pc := 3) C dX9_firstWithBothOut_3 ?_
    refine s_getIv (pc := 4) (v := nI n) C fX9_16 (w11 hz) rfl hn dX9_firstWithBothOut_4 ?_
    refine g_iconst (pc := 7) (v := 2) C dX9_firstWithBothOut_7 (by decide) ?_
    refine g_imul (pc := 8) C dX9_firstWithBothOut_8 ?_
    refine g_icmp_geL (pc := 9) (tgt := 44) C dX9_firstWithBothOut_9 (by decide) (fun c_9 => absurd (by rw [e2]; exact nI_lt (by omega) (by omega)) c_9) (fun c_9 => ?_)
    refine g_al0n (pc := 12) C dX9_firstWithBothOut_12 ?_
    refine s_getR (pc := 13) C fX9_9 (w11 hz) rfl dX9_firstWithBothOut_13 ?_
    refine g_il1n (pc := 16) C dX9_firstWithBothOut_16 ?_
    refine s_ialdv (pc := 17) (q := 2 * i) (v := ν (33 + 2 * (2 * i))) C (w12 hz) rfl (by omega) (Nat.le_of_ble_eq_true rfl) (hw _ (by omega)) dX9_firstWithBothOut_17 ?_
    refine g_iconst (pc := 18) (v := 2) C dX9_firstWithBothOut_18 (by decide) ?_
    refine g_icmp_ne (pc := 19) (tgt := 38) C dX9_firstWithBothOut_19 (by decide) (fun c_19 => ?_) (fun c_19 => ?_)
    · refine g_ii1 (pc := 38) (v := nI (2 * i + 2)) C dX9_firstWithBothOut_38 (nI_inc2 _) ?_
      refine g_goto (pc := 41) (tgt := 2) C dX9_firstWithBothOut_41 (by decide) ?_
      rw [show 2 * i + 2 = 2 * (i + 1) by omega]
      exact ih (i + 1) (by omega) (fstL_no hv (by unfold winP aR; rw [if_pos rfl, show 33 + 4 * i + 2 * 0 + 0 = 33 + 2 * (2 * i) by omega, show 33 + 4 * i + 2 * 1 + 0 = 33 + 2 * (2 * i + 1) by omega]; rw [decide_eq_false c_19]; rfl))
    · refine g_al0n (pc := 22) C dX9_firstWithBothOut_22 ?_
      refine s_getR (pc := 23) C fX9_9 (w11 hz) rfl dX9_firstWithBothOut_23 ?_
      refine g_il1n (pc := 26) C dX9_firstWithBothOut_26 ?_
      refine g_iconst (pc := 27) (v := 1) C dX9_firstWithBothOut_27 (by decide) ?_
      refine g_iadd (pc := 28) C dX9_firstWithBothOut_28 ?_
      refine s_ialdv (pc := 29) (q := 2 * i + 1) (v := ν (33 + 2 * (2 * i + 1))) C (w12 hz) (by first | (simp only [ixl, nI_add, pk_mul]; done) | rfl | decide) (by omega) (Nat.le_of_ble_eq_true rfl) (hw _ (by omega)) dX9_firstWithBothOut_29 ?_
      refine g_iconst (pc := 30) (v := 2) C dX9_firstWithBothOut_30 (by decide) ?_
      refine g_icmp_ne (pc := 31) (tgt := 38) C dX9_firstWithBothOut_31 (by decide) (fun c_31 => ?_) (fun c_31 => ?_)
      · refine g_ii1 (pc := 38) (v := nI (2 * i + 2)) C dX9_firstWithBothOut_38 (nI_inc2 _) ?_
        refine g_goto (pc := 41) (tgt := 2) C dX9_firstWithBothOut_41 (by decide) ?_
        rw [show 2 * i + 2 = 2 * (i + 1) by omega]
        exact ih (i + 1) (by omega) (fstL_no hv (by unfold winP aR; rw [if_pos rfl, show 33 + 4 * i + 2 * 0 + 0 = 33 + 2 * (2 * i) by omega, show 33 + 4 * i + 2 * 1 + 0 = 33 + 2 * (2 * i + 1) by omega]; rw [decide_eq_true c_19, decide_eq_false c_31]; rfl))
      · refine g_il1n (pc := 34) C dX9_firstWithBothOut_34 ?_
        refine g_iconst (pc := 35) (v := 2) C dX9_firstWithBothOut_35 (by decide) ?_
        refine g_idiv (pc := 36) C dX9_firstWithBothOut_36 (by decide) ?_
        exact r_I C hr dX9_firstWithBothOut_37 (by rw [fstL_hit hv (by unfold winP aR; rw [if_pos rfl, show 33 + 4 * i + 2 * 0 + 0 = 33 + 2 * (2 * i) by omega, show 33 + 4 * i + 2 * 1 + 0 = 33 + 2 * (2 * i + 1) by omega]; rw [decide_eq_true c_19, decide_eq_true c_31]; rfl) (show i < n by omega)]; exact (pk_div (d := 2) (by omega) (by decide) (by decide)).trans (by congr 1; omega)) rfl

theorem c_bothOut {d : Nat} (hd : 1 ≤ d) (σ : Sg) {z : Nat} (hz : isW z) {ν : Nu} {n : Nat} (hn : σ (z + 11) 2 = nI n) (hn3 : n ≤ 3) (hw : ∀ p, p < 2 * n → σ (z + 12) p = ν (33 + 2 * p)) : CI d mX9_firstWithBothOut [.ref (z + 11)] σ (o2i (fstL (winP ν 3) n)) σ := by
  refine con_of (by decide) (catL rfl) (Nat.le_of_ble_eq_true rfl) ?_
  intro μ ω C hr
  have C : Cx μ ω "TowField$Winches" cX9_firstWithBothOut 2 d := C
  have hr : (mH μ).sig.returnType = some .int := hr
  show G μ ω (RQ μ ω (pI (o2i (fstL (winP ν 3) n)) σ)) 0 [some (.ref (z + 11)), none] [] (mk σ) 0 0
  refine g_iconst (pc := 0) (v := 0) C dX9_firstWithBothOut_0 (by decide) ?_
  refine g_is1n (pc := 1) C dX9_firstWithBothOut_1 ?_
  exact lp_bothO hd C hr σ hz hn hn3 hw n 0 (by omega) rfl

def useO (σ : Sg) (z : Nat) (o : Option Nat) : Sg := match o with
  | none => σ
  | some p => up (up σ (z + 12) p 0) (z + 13) p (-1)
def useB (σ : Sg) (z : Nat) (o : Option Nat) : Sg := match o with
  | none => σ
  | some w => up (up (up (up σ (z + 12) (2 * w + 0) 0) (z + 13) (2 * w + 0) (-1)) (z + 12) (2 * w + 1) 0) (z + 13) (2 * w + 1) (-1)
def useP (σ : Sg) (z : Nat) (t : Int32) (o : Option Nat) : Sg := match o with
  | none => σ
  | some p => up σ (z + 15) p t
theorem c_useOneW {d : Nat} (hd : 2 ≤ d) (σ : Sg) {z : Nat} (hz : isW z) {ν : Nu} {n : Nat} (hn : σ (z + 11) 2 = nI n) (hn3 : n ≤ 3) (hw : ∀ p, p < 2 * n → σ (z + 12) p = ν (33 + 2 * p)) : CU d mX9_useOne [.ref (z + 11)] σ (useO σ z (fstL (outP ν) (2 * n))) := by
  refine con_of (by decide) (catL rfl) (Nat.le_of_ble_eq_true rfl) ?_
  intro μ ω C hr
  have C : Cx μ ω "TowField$Winches" cX9_useOne 2 d := C
  have hr : (mH μ).sig.returnType = none := hr
  show G μ ω (RQ μ ω (pU (useO σ z (fstL (outP ν) (2 * n))))) 0 [some (.ref (z + 11)), none] [] (mk σ) 0 0
  refine g_al0n (pc := 0) C dX9_useOne_0 ?_
  refine s_VI (pc := 1) (st := []) C (w11 hz) rfl (c_firstOut (d := d - 1) (by omega) σ hz hn hn3 hw) (by omega) lX9_34 dX9_useOne_1 rfl (Nat.le_of_ble_eq_true rfl) rfl ?_
  cases ho : fstL (outP ν) (2 * n) with
  | none =>
    show G μ ω _ 4 _ (.int (-1) :: _) _ 0 0
    refine g_is1n (pc := 4) C dX9_useOne_4 ?_
    refine g_il1n (pc := 5) C dX9_useOne_5 ?_
    refine g_if_lt (pc := 6) (tgt := 16) C dX9_useOne_6 (by decide) (fun _ => ?_) (fun c => absurd c (by decide))
    exact r_U C hr dX9_useOne_16 (by first | rfl | (rw [ho]; rfl))
  | some p =>
    have hp := fstL_lt ho
    show G μ ω _ 4 _ (.int (nI p) :: _) _ 0 0
    refine g_is1n (pc := 4) C dX9_useOne_4 ?_
    refine g_il1n (pc := 5) C dX9_useOne_5 ?_
    refine g_if_lt (pc := 6) (tgt := 16) C dX9_useOne_6 (by decide) (fun c_6 => absurd c_6 (nI_pos (by omega))) (fun c_6 => ?_)
    refine g_al0n (pc := 9) C dX9_useOne_9 ?_
    refine g_il1n (pc := 10) C dX9_useOne_10 ?_
    refine g_iconst (pc := 11) (v := 0) C dX9_useOne_11 (by decide) ?_
    refine g_iconst (pc := 12) (v := (-1)) C dX9_useOne_12 (by decide) ?_
    refine s_VU (pc := 13) (st := []) C (w11 hz) rfl (c_putW (d := d - 1) (by omega) σ hz (p := p) (by omega) 0 ((-1))) (by omega) lX9_30 dX9_useOne_13 rfl (Nat.le_of_ble_eq_true rfl) rfl ?_
    exact r_U C hr dX9_useOne_16 (by first | rfl | (rw [ho]; rfl))

theorem c_useBothW {d : Nat} (hd : 2 ≤ d) (σ : Sg) {z : Nat} (hz : isW z) {ν : Nu} {n : Nat} (hn : σ (z + 11) 2 = nI n) (hn3 : n ≤ 3) (hw : ∀ p, p < 2 * n → σ (z + 12) p = ν (33 + 2 * p)) : CU d mX9_useBoth [.ref (z + 11)] σ (useB σ z (fstL (winP ν 3) n)) := by
  refine con_of (by decide) (catL rfl) (Nat.le_of_ble_eq_true rfl) ?_
  intro μ ω C hr
  have C : Cx μ ω "TowField$Winches" cX9_useBoth 2 d := C
  have hr : (mH μ).sig.returnType = none := hr
  show G μ ω (RQ μ ω (pU (useB σ z (fstL (winP ν 3) n)))) 0 [some (.ref (z + 11)), none] [] (mk σ) 0 0
  refine g_al0n (pc := 0) C dX9_useBoth_0 ?_
  refine s_VI (pc := 1) (st := []) C (w11 hz) rfl (c_bothOut (d := d - 1) (by omega) σ hz hn hn3 hw) (by omega) lX9_38 dX9_useBoth_1 rfl (Nat.le_of_ble_eq_true rfl) rfl ?_
  cases ho : fstL (winP ν 3) n with
  | none =>
    show G μ ω _ 4 _ (.int (-1) :: _) _ 0 0
    refine g_is1n (pc := 4) C dX9_useBoth_4 ?_
    refine g_il1n (pc := 5) C dX9_useBoth_5 ?_
    refine g_if_lt (pc := 6) (tgt := 31) C dX9_useBoth_6 (by decide) (fun _ => ?_) (fun c => absurd c (by decide))
    exact r_U C hr dX9_useBoth_31 (by first | rfl | (rw [ho]; rfl))
  | some p =>
    have hp := fstL_lt ho
    show G μ ω _ 4 _ (.int (nI p) :: _) _ 0 0
    refine g_is1n (pc := 4) C dX9_useBoth_4 ?_
    refine g_il1n (pc := 5) C dX9_useBoth_5 ?_
    refine g_if_lt (pc := 6) (tgt := 31) C dX9_useBoth_6 (by decide) (fun c_6 => absurd c_6 (nI_pos (by omega))) (fun c_6 => ?_)
    refine g_al0n (pc := 9) C dX9_useBoth_9 ?_
    refine g_il1n (pc := 10) C dX9_useBoth_10 ?_
    refine g_iconst (pc := 11) (v := 0) C dX9_useBoth_11 (by decide) ?_
    refine s_SI (pc := 12) (st := [(.ref (z + 11))]) C (c_place (d := d - 1) (by omega) σ p 0) (by omega) lX9_26 dX9_useBoth_12 rfl (Nat.le_of_ble_eq_true rfl) rfl ?_
    refine g_iconst (pc := 15) (v := 0) C dX9_useBoth_15 (by decide) ?_
    refine g_iconst (pc := 16) (v := (-1)) C dX9_useBoth_16 (by decide) ?_
    refine s_VU (pc := 17) (st := []) C (w11 hz) rfl (c_putW (d := d - 1) (by omega) σ hz (p := 2 * p + 0) (by omega) 0 ((-1))) (by omega) lX9_30 dX9_useBoth_17 rfl (Nat.le_of_ble_eq_true rfl) rfl ?_
    refine g_al0n (pc := 20) C dX9_useBoth_20 ?_
    refine g_il1n (pc := 21) C dX9_useBoth_21 ?_
    refine g_iconst (pc := 22) (v := 1) C dX9_useBoth_22 (by decide) ?_
    refine s_SI (pc := 23) (st := [(.ref (z + 11))]) C (c_place (d := d - 1) (by omega) ((up (up σ (z + 12) (2 * p + 0) 0) (z + 13) (2 * p + 0) ((-1)))) p 1) (by omega) lX9_26 dX9_useBoth_23 rfl (Nat.le_of_ble_eq_true rfl) rfl ?_
    refine g_iconst (pc := 26) (v := 0) C dX9_useBoth_26 (by decide) ?_
    refine g_iconst (pc := 27) (v := (-1)) C dX9_useBoth_27 (by decide) ?_
    refine s_VU (pc := 28) (st := []) C (w11 hz) rfl (c_putW (d := d - 1) (by omega) ((up (up σ (z + 12) (2 * p + 0) 0) (z + 13) (2 * p + 0) ((-1)))) hz (p := 2 * p + 1) (by omega) 0 ((-1))) (by omega) lX9_30 dX9_useBoth_28 rfl (Nat.le_of_ble_eq_true rfl) rfl ?_
    exact r_U C hr dX9_useBoth_31 (by first | rfl | (rw [ho]; rfl))

def fetO (σ : Sg) (z p : Nat) (t : Int32) : Sg := if σ (z + 12) p = 0 then up (up σ (z + 12) p 1) (z + 13) p t else σ
theorem c_fetchW {d : Nat} (hd : 2 ≤ d) (σ : Sg) {z : Nat} (hz : isW z) {w : Nat} (hw : w < 3) (t : Int32) : CU d mX9_fetch [.ref (z + 11), .int (nI w), .int t] σ (fetO (fetO σ z (2 * w + 0) t) z (2 * w + 1) t) := by
  refine con_of (by decide) (catL rfl) (Nat.le_of_ble_eq_true rfl) ?_
  intro μ ω C hr
  have C : Cx μ ω "TowField$Winches" cX9_fetch 5 d := C
  have hr : (mH μ).sig.returnType = none := hr
  show G μ ω (RQ μ ω (pU (fetO (fetO σ z (2 * w + 0) t) z (2 * w + 1) t))) 0 [some (.ref (z + 11)), some (.int (nI w)), some (.int t), none, none] [] (mk σ) 0 0
  refine g_iconst (pc := 0) (v := 0) C dX9_fetch_0 (by decide) ?_
  refine g_is3n (pc := 1) C dX9_fetch_1 ?_
  refine g_il3n (pc := 2) C dX9_fetch_2 ?_
  refine g_iconst (pc := 3) (v := 2) C dX9_fetch_3 (by decide) ?_
  refine g_icmp_geL (pc := 4) (tgt := 38) C dX9_fetch_4 (by decide) (fun c => absurd c (by decide)) (fun _ => ?_)
  refine g_il1n (pc := 7) C dX9_fetch_7 ?_
  refine g_il3n (pc := 8) C dX9_fetch_8 ?_
  refine s_SI (pc := 9) (st := []) C (c_place (d := d - 1) (by omega) σ w 0) (by omega) lX9_26 dX9_fetch_9 rfl (Nat.le_of_ble_eq_true rfl) rfl ?_
  refine g_is4 (pc := 12) C dX9_fetch_12 ?_
  refine g_al0n (pc := 14) C dX9_fetch_14 ?_
  refine s_getR (pc := 15) C fX9_9 (w11 hz) rfl dX9_fetch_15 ?_
  refine g_il4 (pc := 18) C dX9_fetch_18 ?_
  refine s_iald (pc := 20) (q := 2 * w + 0) C (w12 hz) rfl (by omega) (Nat.le_of_ble_eq_true rfl) dX9_fetch_20 ?_
  refine g_if_ne (pc := 21) (tgt := 32) C dX9_fetch_21 (by decide) (fun c_21 => ?_) (fun c_21 => ?_)
  · refine g_ii3 (pc := 32) (v := 1) C dX9_fetch_32 (by decide) ?_
    refine g_goto (pc := 35) (tgt := 2) C dX9_fetch_35 (by decide) ?_
    refine g_il3n (pc := 2) C dX9_fetch_2 ?_
    refine g_iconst (pc := 3) (v := 2) C dX9_fetch_3 (by decide) ?_
    refine g_icmp_geL (pc := 4) (tgt := 38) C dX9_fetch_4 (by decide) (fun c => absurd c (by decide)) (fun _ => ?_)
    refine g_il1n (pc := 7) C dX9_fetch_7 ?_
    refine g_il3n (pc := 8) C dX9_fetch_8 ?_
    refine s_SI (pc := 9) (st := []) C (c_place (d := d - 1) (by omega) σ w 1) (by omega) lX9_26 dX9_fetch_9 rfl (Nat.le_of_ble_eq_true rfl) rfl ?_
    refine g_is4 (pc := 12) C dX9_fetch_12 ?_
    refine g_al0n (pc := 14) C dX9_fetch_14 ?_
    refine s_getR (pc := 15) C fX9_9 (w11 hz) rfl dX9_fetch_15 ?_
    refine g_il4 (pc := 18) C dX9_fetch_18 ?_
    refine s_ialdv (pc := 20) (q := 2 * w + 1) (v := σ (z + 12) (2 * w + 1)) C (w12 hz) rfl (by omega) (Nat.le_of_ble_eq_true rfl) (by simp (disch := omega) only [up_ne, up_at, upd_ne]) dX9_fetch_20 ?_
    refine g_if_ne (pc := 21) (tgt := 32) C dX9_fetch_21 (by decide) (fun c_21_2 => ?_) (fun c_21_2 => ?_)
    · refine g_ii3 (pc := 32) (v := 2) C dX9_fetch_32 (by decide) ?_
      refine g_goto (pc := 35) (tgt := 2) C dX9_fetch_35 (by decide) ?_
      refine g_il3n (pc := 2) C dX9_fetch_2 ?_
      refine g_iconst (pc := 3) (v := 2) C dX9_fetch_3 (by decide) ?_
      refine g_icmp_geL (pc := 4) (tgt := 38) C dX9_fetch_4 (by decide) (fun _ => ?_) (fun c => absurd c (by decide))
      exact r_U C hr dX9_fetch_38 (by simp (disch := omega) only [fetO, up_ne, up_at, upd_ne, c_21, c_21_2, if_true, if_false])
    · refine g_al0n (pc := 24) C dX9_fetch_24 ?_
      refine g_il4 (pc := 25) C dX9_fetch_25 ?_
      refine g_iconst (pc := 27) (v := 1) C dX9_fetch_27 (by decide) ?_
      refine g_il2n (pc := 28) C dX9_fetch_28 ?_
      refine s_VU (pc := 29) (st := []) C (w11 hz) rfl (c_putW (d := d - 1) (by omega) σ hz (p := 2 * w + 1) (by omega) 1 t) (by omega) lX9_30 dX9_fetch_29 rfl (Nat.le_of_ble_eq_true rfl) rfl ?_
      refine g_ii3 (pc := 32) (v := 2) C dX9_fetch_32 (by decide) ?_
      refine g_goto (pc := 35) (tgt := 2) C dX9_fetch_35 (by decide) ?_
      refine g_il3n (pc := 2) C dX9_fetch_2 ?_
      refine g_iconst (pc := 3) (v := 2) C dX9_fetch_3 (by decide) ?_
      refine g_icmp_geL (pc := 4) (tgt := 38) C dX9_fetch_4 (by decide) (fun _ => ?_) (fun c => absurd c (by decide))
      exact r_U C hr dX9_fetch_38 (by simp (disch := omega) only [fetO, up_ne, up_at, upd_ne, c_21, c_21_2, if_true, if_false])
  · refine g_al0n (pc := 24) C dX9_fetch_24 ?_
    refine g_il4 (pc := 25) C dX9_fetch_25 ?_
    refine g_iconst (pc := 27) (v := 1) C dX9_fetch_27 (by decide) ?_
    refine g_il2n (pc := 28) C dX9_fetch_28 ?_
    refine s_VU (pc := 29) (st := []) C (w11 hz) rfl (c_putW (d := d - 1) (by omega) σ hz (p := 2 * w + 0) (by omega) 1 t) (by omega) lX9_30 dX9_fetch_29 rfl (Nat.le_of_ble_eq_true rfl) rfl ?_
    refine g_ii3 (pc := 32) (v := 1) C dX9_fetch_32 (by decide) ?_
    refine g_goto (pc := 35) (tgt := 2) C dX9_fetch_35 (by decide) ?_
    refine g_il3n (pc := 2) C dX9_fetch_2 ?_
    refine g_iconst (pc := 3) (v := 2) C dX9_fetch_3 (by decide) ?_
    refine g_icmp_geL (pc := 4) (tgt := 38) C dX9_fetch_4 (by decide) (fun c => absurd c (by decide)) (fun _ => ?_)
    refine g_il1n (pc := 7) C dX9_fetch_7 ?_
    refine g_il3n (pc := 8) C dX9_fetch_8 ?_
    refine s_SI (pc := 9) (st := []) C (c_place (d := d - 1) (by omega) ((up (up σ (z + 12) (2 * w + 0) 1) (z + 13) (2 * w + 0) t)) w 1) (by omega) lX9_26 dX9_fetch_9 rfl (Nat.le_of_ble_eq_true rfl) rfl ?_
    refine g_is4 (pc := 12) C dX9_fetch_12 ?_
    refine g_al0n (pc := 14) C dX9_fetch_14 ?_
    refine s_getR (pc := 15) C fX9_9 (w11 hz) rfl dX9_fetch_15 ?_
    refine g_il4 (pc := 18) C dX9_fetch_18 ?_
    refine s_ialdv (pc := 20) (q := 2 * w + 1) (v := σ (z + 12) (2 * w + 1)) C (w12 hz) rfl (by omega) (Nat.le_of_ble_eq_true rfl) (by simp (disch := omega) only [up_ne, up_at, upd_ne]) dX9_fetch_20 ?_
    refine g_if_ne (pc := 21) (tgt := 32) C dX9_fetch_21 (by decide) (fun c_21_2 => ?_) (fun c_21_2 => ?_)
    · refine g_ii3 (pc := 32) (v := 2) C dX9_fetch_32 (by decide) ?_
      refine g_goto (pc := 35) (tgt := 2) C dX9_fetch_35 (by decide) ?_
      refine g_il3n (pc := 2) C dX9_fetch_2 ?_
      refine g_iconst (pc := 3) (v := 2) C dX9_fetch_3 (by decide) ?_
      refine g_icmp_geL (pc := 4) (tgt := 38) C dX9_fetch_4 (by decide) (fun _ => ?_) (fun c => absurd c (by decide))
      exact r_U C hr dX9_fetch_38 (by simp (disch := omega) only [fetO, up_ne, up_at, upd_ne, c_21, c_21_2, if_true, if_false])
    · refine g_al0n (pc := 24) C dX9_fetch_24 ?_
      refine g_il4 (pc := 25) C dX9_fetch_25 ?_
      refine g_iconst (pc := 27) (v := 1) C dX9_fetch_27 (by decide) ?_
      refine g_il2n (pc := 28) C dX9_fetch_28 ?_
      refine s_VU (pc := 29) (st := []) C (w11 hz) rfl (c_putW (d := d - 1) (by omega) ((up (up σ (z + 12) (2 * w + 0) 1) (z + 13) (2 * w + 0) t)) hz (p := 2 * w + 1) (by omega) 1 t) (by omega) lX9_30 dX9_fetch_29 rfl (Nat.le_of_ble_eq_true rfl) rfl ?_
      refine g_ii3 (pc := 32) (v := 2) C dX9_fetch_32 (by decide) ?_
      refine g_goto (pc := 35) (tgt := 2) C dX9_fetch_35 (by decide) ?_
      refine g_il3n (pc := 2) C dX9_fetch_2 ?_
      refine g_iconst (pc := 3) (v := 2) C dX9_fetch_3 (by decide) ?_
      refine g_icmp_geL (pc := 4) (tgt := 38) C dX9_fetch_4 (by decide) (fun _ => ?_) (fun c => absurd c (by decide))
      exact r_U C hr dX9_fetch_38 (by simp (disch := omega) only [fetO, up_ne, up_at, upd_ne, c_21, c_21_2, if_true, if_false])

theorem lp_there {μ : Mx} {ω : Om} {d : Nat} (hd : 1 ≤ d) (C : Cx μ ω "TowField$Planes" cX5_firstThere 2 d) (hr : (mH μ).sig.returnType = some .int) (σ : Sg) {z : Nat} (hz : isW z) {ν : Nu} {n : Nat} (hn : σ (z + 14) 1 = nI n) (hn3 : n ≤ 3) (hw : ∀ p, p < n → σ (z + 15) p = ν (30 + p)) : ∀ (f i : Nat), i + f = n → (fstL (plaP ν) i = none) → G μ ω (RQ μ ω (pI (o2i (fstL (plaP ν) n)) σ)) 2 [some (.ref (z + 14)), some (.int (nI i))] [] (mk σ) 0 0 := by
  intro f
  induction f with
  | zero =>
    intro i hif hv
    have hin : i = n := by omega
    refine g_il1n (pc := 2) C dX5_firstThere_2 ?_
    refine g_al0n (pc := 3) C dX5_firstThere_3 ?_
    refine s_getIv (pc := 4) (v := nI n) C fX5_13 (w14 hz) rfl hn dX5_firstThere_4 ?_
    refine g_icmp_geL (pc := 7) (tgt := 27) C dX5_firstThere_7 (by decide) (fun c_7 => ?_) (fun c_7 => absurd c_7 (nI_nlt (by omega) (by omega)))
    refine g_iconst (pc := 27) (v := (-1)) C dX5_firstThere_27 (by decide) ?_
    exact r_I C hr dX5_firstThere_28 (by rw [hin] at hv; rw [hv]; rfl) rfl
  | succ f ih =>
    intro i hif hv
    refine g_il1n (pc := 2) C dX5_firstThere_2 ?_
    refine g_al0n (pc := 3) C dX5_firstThere_3 ?_
    refine s_getIv (pc := 4) (v := nI n) C fX5_13 (w14 hz) rfl hn dX5_firstThere_4 ?_
    refine g_icmp_geL (pc := 7) (tgt := 27) C dX5_firstThere_7 (by decide) (fun c_7 => absurd (nI_lt (by omega) (by omega)) c_7) (fun c_7 => ?_)
    refine g_al0n (pc := 10) C dX5_firstThere_10 ?_
    refine s_getR (pc := 11) C fX5_9 (w14 hz) rfl dX5_firstThere_11 ?_
    refine g_il1n (pc := 14) C dX5_firstThere_14 ?_
    refine s_ialdv (pc := 15) (q := i) (v := ν (30 + i)) C (w15 hz) rfl (by omega) (Nat.le_of_ble_eq_true rfl) (hw _ (by omega)) dX5_firstThere_15 ?_
    refine g_if_geL (pc := 16) (tgt := 21) C dX5_firstThere_16 (by decide) (fun c_16 => ?_) (fun c_16 => ?_)
    · refine g_ii1 (pc := 21) (v := nI (i + 1)) C dX5_firstThere_21 (nI_inc1 _) ?_
      refine g_goto (pc := 24) (tgt := 2) C dX5_firstThere_24 (by decide) ?_
      exact ih (i + 1) (by omega) (fstL_no hv (by unfold plaP; exact decide_eq_false c_16))
    · refine g_il1n (pc := 19) C dX5_firstThere_19 ?_
      exact r_I C hr dX5_firstThere_20 (by rw [fstL_hit hv (by unfold plaP; exact decide_eq_true c_16) (show i < n by omega)]; rfl) rfl

theorem c_there {d : Nat} (hd : 1 ≤ d) (σ : Sg) {z : Nat} (hz : isW z) {ν : Nu} {n : Nat} (hn : σ (z + 14) 1 = nI n) (hn3 : n ≤ 3) (hw : ∀ p, p < n → σ (z + 15) p = ν (30 + p)) : CI d mX5_firstThere [.ref (z + 14)] σ (o2i (fstL (plaP ν) n)) σ := by
  refine con_of (by decide) (catL rfl) (Nat.le_of_ble_eq_true rfl) ?_
  intro μ ω C hr
  have C : Cx μ ω "TowField$Planes" cX5_firstThere 2 d := C
  have hr : (mH μ).sig.returnType = some .int := hr
  show G μ ω (RQ μ ω (pI (o2i (fstL (plaP ν) n)) σ)) 0 [some (.ref (z + 14)), none] [] (mk σ) 0 0
  refine g_iconst (pc := 0) (v := 0) C dX5_firstThere_0 (by decide) ?_
  refine g_is1n (pc := 1) C dX5_firstThere_1 ?_
  exact lp_there hd C hr σ hz hn hn3 hw n 0 (by omega) rfl

theorem c_useOneP {d : Nat} (hd : 2 ≤ d) (σ : Sg) {z : Nat} (hz : isW z) {ν : Nu} {n : Nat} (hn : σ (z + 14) 1 = nI n) (hn3 : n ≤ 3) (hw : ∀ p, p < n → σ (z + 15) p = ν (30 + p)) (t : Int32) : CU d mX5_useOne [.ref (z + 14), .int t] σ (useP σ z t (fstL (plaP ν) n)) := by
  refine con_of (by decide) (catL rfl) (Nat.le_of_ble_eq_true rfl) ?_
  intro μ ω C hr
  have C : Cx μ ω "TowField$Planes" cX5_useOne 3 d := C
  have hr : (mH μ).sig.returnType = none := hr
  show G μ ω (RQ μ ω (pU (useP σ z t (fstL (plaP ν) n)))) 0 [some (.ref (z + 14)), some (.int t), none] [] (mk σ) 0 0
  refine g_al0n (pc := 0) C dX5_useOne_0 ?_
  refine s_VI (pc := 1) (st := []) C (w14 hz) rfl (c_there (d := d - 1) (by omega) σ hz hn hn3 hw) (by omega) lX5_23 dX5_useOne_1 rfl (Nat.le_of_ble_eq_true rfl) rfl ?_
  cases ho : fstL (plaP ν) n with
  | none =>
    show G μ ω _ 4 _ (.int (-1) :: _) _ 0 0
    refine g_is2n (pc := 4) C dX5_useOne_4 ?_
    refine g_il2n (pc := 5) C dX5_useOne_5 ?_
    refine g_if_lt (pc := 6) (tgt := 16) C dX5_useOne_6 (by decide) (fun _ => ?_) (fun c => absurd c (by decide))
    exact r_U C hr dX5_useOne_16 (by first | rfl | (rw [ho]; rfl))
  | some p =>
    have hp := fstL_lt ho
    show G μ ω _ 4 _ (.int (nI p) :: _) _ 0 0
    refine g_is2n (pc := 4) C dX5_useOne_4 ?_
    refine g_il2n (pc := 5) C dX5_useOne_5 ?_
    refine g_if_lt (pc := 6) (tgt := 16) C dX5_useOne_6 (by decide) (fun c_6 => absurd c_6 (nI_pos (by omega))) (fun c_6 => ?_)
    refine g_al0n (pc := 9) C dX5_useOne_9 ?_
    refine s_getR (pc := 10) C fX5_9 (w14 hz) rfl dX5_useOne_10 ?_
    refine g_il2n (pc := 13) C dX5_useOne_13 ?_
    refine g_il1n (pc := 14) C dX5_useOne_14 ?_
    refine s_iast (pc := 15) (q := p) C (w15 hz) rfl (by omega) (Nat.le_of_ble_eq_true rfl) dX5_useOne_15 ?_
    exact r_U C hr dX5_useOne_16 (by first | rfl | (rw [ho]; rfl))

/-- a rope at the next minute m -/
def opSt (s t m : Int32) : Int32 := if s = 1 ∧ t ≤ m then 2 else if s = 3 ∧ t ≤ m then 0 else s
def opTi (s t m : Int32) : Int32 := if (s = 1 ∨ s = 3) ∧ t ≤ m then -1 else t
def OW (σ : Sg) (z : Nat) (m : Int32) (i : Nat) (τ : Sg) : Prop := Eqx [z + 12, z + 13] σ τ ∧ (∀ p, p < i → τ (z + 12) p = opSt (σ (z + 12) p) (σ (z + 13) p) m ∧ τ (z + 13) p = opTi (σ (z + 12) p) (σ (z + 13) p) m) ∧ ∀ p, i ≤ p → τ (z + 12) p = σ (z + 12) p ∧ τ (z + 13) p = σ (z + 13) p
theorem OW_no {σ τ : Sg} {z i : Nat} {m : Int32} (h : OW σ z m i τ) (h1 : opSt (σ (z + 12) i) (σ (z + 13) i) m = σ (z + 12) i) (h2 : opTi (σ (z + 12) i) (σ (z + 13) i) m = σ (z + 13) i) : OW σ z m (i + 1) τ := by
  obtain ⟨a, b, c⟩ := h
  exact ⟨a, alls b ⟨by rw [h1]; exact (c i (Nat.le_refl _)).1, by rw [h2]; exact (c i (Nat.le_refl _)).2⟩, fun p hp => c p (by omega)⟩
theorem OW_yes {σ τ : Sg} {z i : Nat} {m x y : Int32} (h : OW σ z m i τ) (h1 : opSt (σ (z + 12) i) (σ (z + 13) i) m = x) (h2 : opTi (σ (z + 12) i) (σ (z + 13) i) m = y) : OW σ z m (i + 1) (up (up τ (z + 12) i x) (z + 13) i y) := by
  obtain ⟨a, b, c⟩ := h
  have q12 : (up (up τ (z + 12) i x) (z + 13) i y) (z + 12) = upd (τ (z + 12)) i x := by simp (disch := omega) only [up_ne, up_at]
  have q13 : (up (up τ (z + 12) i x) (z + 13) i y) (z + 13) = upd (τ (z + 13)) i y := by simp (disch := omega) only [up_ne, up_at]
  unfold OW
  rw [q12, q13]
  refine ⟨fun k hk => ?_, fun p hp => ?_, fun p hp => ?_⟩
  · simp only [List.mem_cons, List.not_mem_nil, or_false, not_or] at hk
    rw [up_ne _ _ _ hk.2, up_ne _ _ _ hk.1]
    exact a k (by simp; omega)
  · by_cases e : p = i
    · subst e; rw [upd_at, upd_at]; exact ⟨h1.symm, h2.symm⟩
    · rw [upd_ne _ _ e, upd_ne _ _ e]; exact b p (by omega)
  · rw [upd_ne _ _ (by omega), upd_ne _ _ (by omega)]; exact c p (by omega)
def OP (σ : Sg) (z : Nat) (m : Int32) (i : Nat) (τ : Sg) : Prop := Eqx [z + 15] σ τ ∧ (∀ p, p < i → τ (z + 15) p = if σ (z + 15) p ≤ m then -1 else σ (z + 15) p) ∧ ∀ p, i ≤ p → τ (z + 15) p = σ (z + 15) p
theorem OP_no {σ τ : Sg} {z i : Nat} {m : Int32} (h : OP σ z m i τ) (h1 : ¬ σ (z + 15) i ≤ m) : OP σ z m (i + 1) τ := by
  obtain ⟨a, b, c⟩ := h
  exact ⟨a, alls b (by rw [if_neg h1]; exact c i (Nat.le_refl _)), fun p hp => c p (by omega)⟩
theorem OP_yes {σ τ : Sg} {z i : Nat} {m : Int32} (h : OP σ z m i τ) (h1 : σ (z + 15) i ≤ m) : OP σ z m (i + 1) (up τ (z + 15) i (-1)) := by
  obtain ⟨a, b, c⟩ := h
  unfold OP
  rw [up_at]
  refine ⟨fun k hk => ?_, fun p hp => ?_, fun p hp => ?_⟩
  · rw [up_ne _ _ _ (by simpa using hk)]; exact a k hk
  · by_cases e : p = i
    · subst e; rw [upd_at, if_pos h1]
    · rw [upd_ne _ _ e]; exact b p (by omega)
  · rw [upd_ne _ _ (by omega)]; exact c p (by omega)
theorem lp_openW {μ : Mx} {ω : Om} {d : Nat} (hd : 2 ≤ d) (C : Cx μ ω "TowField$Winches" cX9_open 3 d) (hr : (mH μ).sig.returnType = none) (σ : Sg) {z : Nat} (hz : isW z) {n : Nat} (hn : σ (z + 11) 2 = nI n) (hn3 : n ≤ 3) (m : Int32) : ∀ (f i : Nat) (τ : Sg), i + f = 2 * n → (OW σ z m i τ) → G μ ω (RQ μ ω (pQ (OW σ z m (2 * n)))) 2 [some (.ref (z + 11)), some (.int m), some (.int (nI i))] [] (mk τ) 0 0 := by
  intro f
  induction f with
  | zero =>
    intro i τ hif hv
    have hin : i = 2 * n := by omega
    have e2 : nI n * 2 = nI (2 * n) := (pk_mul n 2).trans (by rw [Nat.mul_comm])
    refine g_il2n (pc := 2) C dX9_open_2 ?_
    refine g_al0n (pc := 3) C dX9_open_3 ?_
    refine s_getIv (pc := 4) (v := nI n) C fX9_16 (w11 hz) rfl (by rw [hv.1 _ (by simp)]; exact hn) dX9_open_4 ?_
    refine g_iconst (pc := 7) (v := 2) C dX9_open_7 (by decide) ?_
    refine g_imul (pc := 8) C dX9_open_8 ?_
    refine g_icmp_geL (pc := 9) (tgt := 75) C dX9_open_9 (by decide) (fun c_9 => ?_) (fun c_9 => absurd c_9 (by rw [e2]; exact nI_nlt (by omega) (by omega)))
    exact r_Q C hr dX9_open_75 (by rw [← hin]; exact hv)
  | succ f ih =>
    intro i τ hif hv
    have e2 : nI n * 2 = nI (2 * n) := (pk_mul n 2).trans (by rw [Nat.mul_comm])
    refine g_il2n (pc := 2) C dX9_open_2 ?_
    refine g_al0n (pc := 3) C dX9_open_3 ?_
    refine s_getIv (pc := 4) (v := nI n) C fX9_16 (w11 hz) rfl (by rw [hv.1 _ (by simp)]; exact hn) dX9_open_4 ?_
    refine g_iconst (pc := 7) (v := 2) C dX9_open_7 (by decide) ?_
    refine g_imul (pc := 8) C dX9_open_8 ?_
    refine g_icmp_geL (pc := 9) (tgt := 75) C dX9_open_9 (by decide) (fun c_9 => absurd (by rw [e2]; exact nI_lt (by omega) (by omega)) c_9) (fun c_9 => ?_)
    refine g_al0n (pc := 12) C dX9_open_12 ?_
    refine s_getR (pc := 13) C fX9_9 (w11 hz) rfl dX9_open_13 ?_
    refine g_il2n (pc := 16) C dX9_open_16 ?_
    refine s_ialdv (pc := 17) (q := i) (v := σ (z + 12) i) C (w12 hz) rfl (by omega) (Nat.le_of_ble_eq_true rfl) (hv.2.2 i (Nat.le_refl _)).1 dX9_open_17 ?_
    refine g_iconst (pc := 18) (v := 1) C dX9_open_18 (by decide) ?_
    refine g_icmp_ne (pc := 19) (tgt := 42) C dX9_open_19 (by decide) (fun c_19 => ?_) (fun c_19 => ?_)
    · refine g_al0n (pc := 42) C dX9_open_42 ?_
      refine s_getR (pc := 43) C fX9_9 (w11 hz) rfl dX9_open_43 ?_
      refine g_il2n (pc := 46) C dX9_open_46 ?_
      refine s_ialdv (pc := 47) (q := i) (v := σ (z + 12) i) C (w12 hz) rfl (by omega) (Nat.le_of_ble_eq_true rfl) (hv.2.2 i (Nat.le_refl _)).1 dX9_open_47 ?_
      refine g_iconst (pc := 48) (v := 3) C dX9_open_48 (by decide) ?_
      refine g_icmp_ne (pc := 49) (tgt := 69) C dX9_open_49 (by decide) (fun c_49 => ?_) (fun c_49 => ?_)
      · refine g_ii2 (pc := 69) (v := nI (i + 1)) C dX9_open_69 (nI_inc1 _) ?_
        refine g_goto (pc := 72) (tgt := 2) C dX9_open_72 (by decide) ?_
        exact ih (i + 1) _ (by omega) (OW_no hv (by simp [opSt, opTi, ← Int32.not_lt, c_19, c_49]) (by simp [opSt, opTi, ← Int32.not_lt, c_19, c_49]))
      · refine g_al0n (pc := 52) C dX9_open_52 ?_
        refine s_getR (pc := 53) C fX9_13 (w11 hz) rfl dX9_open_53 ?_
        refine g_il2n (pc := 56) C dX9_open_56 ?_
        refine s_ialdv (pc := 57) (q := i) (v := σ (z + 13) i) C (w13 hz) rfl (by omega) (Nat.le_of_ble_eq_true rfl) (hv.2.2 i (Nat.le_refl _)).2 dX9_open_57 ?_
        refine g_il1n (pc := 58) C dX9_open_58 ?_
        refine g_icmp_gt (pc := 59) (tgt := 69) C dX9_open_59 (by decide) (fun c_59 => ?_) (fun c_59 => ?_)
        · refine g_ii2 (pc := 69) (v := nI (i + 1)) C dX9_open_69 (nI_inc1 _) ?_
          refine g_goto (pc := 72) (tgt := 2) C dX9_open_72 (by decide) ?_
          exact ih (i + 1) _ (by omega) (OW_no hv (by simp [opSt, opTi, ← Int32.not_lt, c_19, c_49, c_59]) (by simp [opSt, opTi, ← Int32.not_lt, c_19, c_49, c_59]))
        · refine g_al0n (pc := 62) C dX9_open_62 ?_
          refine g_il2n (pc := 63) C dX9_open_63 ?_
          refine g_iconst (pc := 64) (v := 0) C dX9_open_64 (by decide) ?_
          refine g_iconst (pc := 65) (v := (-1)) C dX9_open_65 (by decide) ?_
          refine s_VU (pc := 66) (st := []) C (w11 hz) rfl (c_putW (d := d - 1) (by omega) τ hz (p := i) (by omega) 0 ((-1))) (by omega) lX9_30 dX9_open_66 rfl (Nat.le_of_ble_eq_true rfl) rfl ?_
          refine g_ii2 (pc := 69) (v := nI (i + 1)) C dX9_open_69 (nI_inc1 _) ?_
          refine g_goto (pc := 72) (tgt := 2) C dX9_open_72 (by decide) ?_
          exact ih (i + 1) _ (by omega) (OW_yes hv (by simp [opSt, opTi, ← Int32.not_lt, c_19, c_49, c_59]) (by simp [opSt, opTi, ← Int32.not_lt, c_19, c_49, c_59]))
    · refine g_al0n (pc := 22) C dX9_open_22 ?_
      refine s_getR (pc := 23) C fX9_13 (w11 hz) rfl dX9_open_23 ?_
      refine g_il2n (pc := 26) C dX9_open_26 ?_
      refine s_ialdv (pc := 27) (q := i) (v := σ (z + 13) i) C (w13 hz) rfl (by omega) (Nat.le_of_ble_eq_true rfl) (hv.2.2 i (Nat.le_refl _)).2 dX9_open_27 ?_
      refine g_il1n (pc := 28) C dX9_open_28 ?_
      refine g_icmp_gt (pc := 29) (tgt := 42) C dX9_open_29 (by decide) (fun c_29 => ?_) (fun c_29 => ?_)
      · refine g_al0n (pc := 42) C dX9_open_42 ?_
        refine s_getR (pc := 43) C fX9_9 (w11 hz) rfl dX9_open_43 ?_
        refine g_il2n (pc := 46) C dX9_open_46 ?_
        refine s_ialdv (pc := 47) (q := i) (v := σ (z + 12) i) C (w12 hz) rfl (by omega) (Nat.le_of_ble_eq_true rfl) (hv.2.2 i (Nat.le_refl _)).1 dX9_open_47 ?_
        refine g_iconst (pc := 48) (v := 3) C dX9_open_48 (by decide) ?_
        refine g_icmp_ne (pc := 49) (tgt := 69) C dX9_open_49 (by decide) (fun c_49 => ?_) (fun c_49 => absurd (c_49.symm.trans c_19) (by decide))
        refine g_ii2 (pc := 69) (v := nI (i + 1)) C dX9_open_69 (nI_inc1 _) ?_
        refine g_goto (pc := 72) (tgt := 2) C dX9_open_72 (by decide) ?_
        exact ih (i + 1) _ (by omega) (OW_no hv (by simp [opSt, opTi, ← Int32.not_lt, c_19, c_29]) (by simp [opSt, opTi, ← Int32.not_lt, c_19, c_29]))
      · refine g_al0n (pc := 32) C dX9_open_32 ?_
        refine g_il2n (pc := 33) C dX9_open_33 ?_
        refine g_iconst (pc := 34) (v := 2) C dX9_open_34 (by decide) ?_
        refine g_iconst (pc := 35) (v := (-1)) C dX9_open_35 (by decide) ?_
        refine s_VU (pc := 36) (st := []) C (w11 hz) rfl (c_putW (d := d - 1) (by omega) τ hz (p := i) (by omega) 2 ((-1))) (by omega) lX9_30 dX9_open_36 rfl (Nat.le_of_ble_eq_true rfl) rfl ?_
        refine g_goto (pc := 39) (tgt := 69) C dX9_open_39 (by decide) ?_
        refine g_ii2 (pc := 69) (v := nI (i + 1)) C dX9_open_69 (nI_inc1 _) ?_
        refine g_goto (pc := 72) (tgt := 2) C dX9_open_72 (by decide) ?_
        exact ih (i + 1) _ (by omega) (OW_yes hv (by simp [opSt, opTi, ← Int32.not_lt, c_19, c_29]) (by simp [opSt, opTi, ← Int32.not_lt, c_19, c_29]))

theorem c_openW {d : Nat} (hd : 2 ≤ d) (σ : Sg) {z : Nat} (hz : isW z) {n : Nat} (hn : σ (z + 11) 2 = nI n) (hn3 : n ≤ 3) (m : Int32) : CQ d mX9_open [.ref (z + 11), .int m] σ (OW σ z m (2 * n)) := by
  refine con_of (by decide) (catL rfl) (Nat.le_of_ble_eq_true rfl) ?_
  intro μ ω C hr
  have C : Cx μ ω "TowField$Winches" cX9_open 3 d := C
  have hr : (mH μ).sig.returnType = none := hr
  show G μ ω (RQ μ ω (pQ (OW σ z m (2 * n)))) 0 [some (.ref (z + 11)), some (.int m), none] [] (mk σ) 0 0
  refine g_iconst (pc := 0) (v := 0) C dX9_open_0 (by decide) ?_
  refine g_is2n (pc := 1) C dX9_open_1 ?_
  exact lp_openW hd C hr σ hz hn hn3 m (2 * n) 0 σ (by omega) ⟨Eqx.rf, fun p hp => by omega, fun p _ => ⟨rfl, rfl⟩⟩

theorem lp_openP {μ : Mx} {ω : Om} {d : Nat} (hd : 1 ≤ d) (C : Cx μ ω "TowField$Planes" cX5_open 3 d) (hr : (mH μ).sig.returnType = none) (σ : Sg) {z : Nat} (hz : isW z) {n : Nat} (hn : σ (z + 14) 1 = nI n) (hn3 : n ≤ 3) (m : Int32) : ∀ (f i : Nat) (τ : Sg), i + f = n → (OP σ z m i τ) → G μ ω (RQ μ ω (pQ (OP σ z m n))) 2 [some (.ref (z + 14)), some (.int m), some (.int (nI i))] [] (mk τ) 0 0 := by
  intro f
  induction f with
  | zero =>
    intro i τ hif hv
    have hin : i = n := by omega
    refine g_il2n (pc := 2) C dX5_open_2 ?_
    refine g_al0n (pc := 3) C dX5_open_3 ?_
    refine s_getIv (pc := 4) (v := nI n) C fX5_13 (w14 hz) rfl (by rw [hv.1 _ (by simp)]; exact hn) dX5_open_4 ?_
    refine g_icmp_geL (pc := 7) (tgt := 33) C dX5_open_7 (by decide) (fun c_7 => ?_) (fun c_7 => absurd c_7 (nI_nlt (by omega) (by omega)))
    exact r_Q C hr dX5_open_33 (by rw [← hin]; exact hv)
  | succ f ih =>
    intro i τ hif hv
    refine g_il2n (pc := 2) C dX5_open_2 ?_
    refine g_al0n (pc := 3) C dX5_open_3 ?_
    refine s_getIv (pc := 4) (v := nI n) C fX5_13 (w14 hz) rfl (by rw [hv.1 _ (by simp)]; exact hn) dX5_open_4 ?_
    refine g_icmp_geL (pc := 7) (tgt := 33) C dX5_open_7 (by decide) (fun c_7 => absurd (nI_lt (by omega) (by omega)) c_7) (fun c_7 => ?_)
    refine g_al0n (pc := 10) C dX5_open_10 ?_
    refine s_getR (pc := 11) C fX5_9 (w14 hz) rfl dX5_open_11 ?_
    refine g_il2n (pc := 14) C dX5_open_14 ?_
    refine s_ialdv (pc := 15) (q := i) (v := σ (z + 15) i) C (w15 hz) rfl (by omega) (Nat.le_of_ble_eq_true rfl) (hv.2.2 i (Nat.le_refl _)) dX5_open_15 ?_
    refine g_il1n (pc := 16) C dX5_open_16 ?_
    refine g_icmp_gt (pc := 17) (tgt := 27) C dX5_open_17 (by decide) (fun c_17 => ?_) (fun c_17 => ?_)
    · refine g_ii2 (pc := 27) (v := nI (i + 1)) C dX5_open_27 (nI_inc1 _) ?_
      refine g_goto (pc := 30) (tgt := 2) C dX5_open_30 (by decide) ?_
      exact ih (i + 1) _ (by omega) (OP_no hv (Int32.not_le.mpr c_17))
    · refine g_al0n (pc := 20) C dX5_open_20 ?_
      refine s_getR (pc := 21) C fX5_9 (w14 hz) rfl dX5_open_21 ?_
      refine g_il2n (pc := 24) C dX5_open_24 ?_
      refine g_iconst (pc := 25) (v := (-1)) C dX5_open_25 (by decide) ?_
      refine s_iast (pc := 26) (q := i) C (w15 hz) rfl (by omega) (Nat.le_of_ble_eq_true rfl) dX5_open_26 ?_
      refine g_ii2 (pc := 27) (v := nI (i + 1)) C dX5_open_27 (nI_inc1 _) ?_
      refine g_goto (pc := 30) (tgt := 2) C dX5_open_30 (by decide) ?_
      exact ih (i + 1) _ (by omega) (OP_yes hv (Int32.not_lt.mp c_17))

theorem c_openP {d : Nat} (hd : 1 ≤ d) (σ : Sg) {z : Nat} (hz : isW z) {n : Nat} (hn : σ (z + 14) 1 = nI n) (hn3 : n ≤ 3) (m : Int32) : CQ d mX5_open [.ref (z + 14), .int m] σ (OP σ z m n) := by
  refine con_of (by decide) (catL rfl) (Nat.le_of_ble_eq_true rfl) ?_
  intro μ ω C hr
  have C : Cx μ ω "TowField$Planes" cX5_open 3 d := C
  have hr : (mH μ).sig.returnType = none := hr
  show G μ ω (RQ μ ω (pQ (OP σ z m n))) 0 [some (.ref (z + 14)), some (.int m), none] [] (mk σ) 0 0
  refine g_iconst (pc := 0) (v := 0) C dX5_open_0 (by decide) ?_
  refine g_is2n (pc := 1) C dX5_open_1 ?_
  exact lp_openP hd C hr σ hz hn hn3 m n 0 σ (by omega) ⟨Eqx.rf, fun p hp => by omega, fun p _ => rfl⟩

