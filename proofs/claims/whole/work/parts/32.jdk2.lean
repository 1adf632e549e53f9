/-! ===== strings that are given, and their bytes ===== -/
theorem sx_len : ∀ q ∈ sxL, q.2.2.2.length < 16 := by decide +kernel
theorem sx_chr : ∀ q ∈ sxL, ∀ k, k < q.2.2.2.length → ((q.2.2.2.getD k 0 &&& 255).toUInt32 % 65536).toInt32 = q.2.2.2.getD k 0 := by decide +kernel
theorem shr0 (x : Int32) : x >>> ((0 : Int32) &&& 31) = x := by
  rw [show (0 : Int32) &&& 31 = 0 by decide, Int32.shiftRight_zero]
theorem c_coder {d : Nat} (hd : 1 ≤ d) (σ : Sg) {q : String × Nat × String × List Int32} {j : Nat} (hq : sxL[j]? = some q) : CI d mJ0_coder_7d493 [.ref (100100 + j)] σ 0 σ := by
  refine con_ofF (by decide +kernel) (catL rfl) (Nat.le_of_ble_eq_true rfl) ?_
  intro μ ω C hr
  have C : Cx μ ω "java/lang/String" cJ0_coder_7d493 1 d := C
  have hr : (mH μ).sig.returnType = some .byte := hr
  show G μ ω (RQ μ ω (pI 0 σ)) 0 [some (.ref (100100 + j))] [] (mk σ) 0 0
  refine g_getsZ (pc := 0) C sJ0_38 dJ0_coder_7d493_0 ?_
  refine g_if_eq (pc := 3) (tgt := 13) C dJ0_coder_7d493_3 (by decide) (fun c => absurd c (by decide)) (fun _ => ?_)
  refine g_al0n (pc := 6) C dJ0_coder_7d493_6 ?_
  refine g_getXc (pc := 7) (j := j) C hq sJ0_15 dJ0_coder_7d493_7 ?_
  refine g_goto (pc := 10) (tgt := 14) C dJ0_coder_7d493_10 (by decide) ?_
  exact r_Z C hr dJ0_coder_7d493_14 rfl rfl rfl

theorem c_isLatin1 {d : Nat} (hd : 1 ≤ d) (σ : Sg) {q : String × Nat × String × List Int32} {j : Nat} (hq : sxL[j]? = some q) : CB d mJ0_isLatin1_aae02 [.ref (100100 + j)] σ True σ := by
  refine con_ofF (by decide +kernel) (catL rfl) (Nat.le_of_ble_eq_true rfl) ?_
  intro μ ω C hr
  have C : Cx μ ω "java/lang/String" cJ0_isLatin1_aae02 1 d := C
  have hr : (mH μ).sig.returnType = some .boolean := hr
  show G μ ω (RQ μ ω (pB True σ)) 0 [some (.ref (100100 + j))] [] (mk σ) 0 0
  refine g_getsZ (pc := 0) C sJ0_38 dJ0_isLatin1_aae02_0 ?_
  refine g_if_eq (pc := 3) (tgt := 17) C dJ0_isLatin1_aae02_3 (by decide) (fun c => absurd c (by decide)) (fun _ => ?_)
  refine g_al0n (pc := 6) C dJ0_isLatin1_aae02_6 ?_
  refine g_getXc (pc := 7) (j := j) C hq sJ0_15 dJ0_isLatin1_aae02_7 ?_
  refine g_if_ne (pc := 10) (tgt := 17) C dJ0_isLatin1_aae02_10 (by decide) (fun c => absurd c (by decide)) (fun _ => ?_)
  refine g_iconst (pc := 13) (v := 1) C dJ0_isLatin1_aae02_13 (by decide) ?_
  refine g_goto (pc := 14) (tgt := 18) C dJ0_isLatin1_aae02_14 (by decide) ?_
  exact r_B1 C hr dJ0_isLatin1_aae02_18 trivial rfl

theorem c_length {d : Nat} (hd : 2 ≤ d) (σ : Sg) {q : String × Nat × String × List Int32} {j : Nat} (hq : sxL[j]? = some q) : CI d mJ0_length_8abf5 [.ref (100100 + j)] σ (nI q.2.2.2.length) σ := by
  refine con_ofF (by decide +kernel) (catL rfl) (Nat.le_of_ble_eq_true rfl) ?_
  intro μ ω C hr
  have C : Cx μ ω "java/lang/String" cJ0_length_8abf5 1 d := C
  have hr : (mH μ).sig.returnType = some .int := hr
  show G μ ω (RQ μ ω (pI (nI q.2.2.2.length) σ)) 0 [some (.ref (100100 + j))] [] (mk σ) 0 0
  refine g_al0n (pc := 0) C dJ0_length_8abf5_0 ?_
  refine g_getXv (pc := 1) (j := j) C hq sJ0_9 dJ0_length_8abf5_1 ?_
  refine g_alenX (pc := 4) C hq dJ0_length_8abf5_4 ?_
  refine g_al0n (pc := 5) C dJ0_length_8abf5_5 ?_
  refine s_XI (pc := 6) (st := [(.int (nI q.2.2.2.length))]) C hq rfl (c_coder (d := d - 1) (by omega) σ hq) (by omega) lJ0_335 dJ0_length_8abf5_6 rfl (Nat.le_of_ble_eq_true rfl) rfl ?_
  refine g_ishr (pc := 9) C dJ0_length_8abf5_9 ?_
  exact r_I C hr dJ0_length_8abf5_10 (shr0 _) rfl

theorem c_checkIndex3 {d : Nat} (hd : 1 ≤ d) (σ : Sg) {i l : Nat} (h : i < l) (hl : l < 2 ^ 31) (x : Value) (hx : x.category = 1) : CI d mJ3_checkIndex_8e157 [.int (nI i), .int (nI l), x] σ (nI i) σ := by
  refine con_ofF (by decide +kernel) (fun v hv => by rcases List.mem_cons.mp hv with e | hv; (rw [e]; rfl); rcases List.mem_cons.mp hv with e | hv; (rw [e]; rfl); rw [List.mem_singleton.mp hv]; exact hx) (Nat.le_of_ble_eq_true rfl) ?_
  intro μ ω C hr
  have C : Cx μ ω "jdk/internal/util/Preconditions" cJ3_checkIndex_8e157 3 d := C
  have hr : (mH μ).sig.returnType = some .int := hr
  show G μ ω (RQ μ ω (pI (nI i) σ)) 0 [some (.int (nI i)), some (.int (nI l)), some x] [] (mk σ) 0 0
  refine g_il0n (pc := 0) C dJ3_checkIndex_8e157_0 ?_
  refine g_if_lt (pc := 1) (tgt := 9) C dJ3_checkIndex_8e157_1 (by decide) (fun c_1 => absurd c_1 (nI_pos (by omega))) (fun c_1 => ?_)
  refine g_il0n (pc := 4) C dJ3_checkIndex_8e157_4 ?_
  refine g_il1n (pc := 5) C dJ3_checkIndex_8e157_5 ?_
  refine g_icmp_lt (pc := 6) (tgt := 16) C dJ3_checkIndex_8e157_6 (by decide) (fun c_6 => ?_) (fun c_6 => absurd (nI_lt h hl) c_6)
  refine g_il0n (pc := 16) C dJ3_checkIndex_8e157_16 ?_
  exact r_I C hr dJ3_checkIndex_8e157_17 rfl rfl

theorem oF_cat {μ : Mx} {ω : Om} {own : String} {cc : ByteArray} {nL d : Nat} (C : Cx μ ω own cc nL d) : (oF ω).category = 1 := by
  rcases C.e.2.2.2.2 with h | h <;> (rw [h]; rfl)
theorem c_checkIndex {d : Nat} (hd : 2 ≤ d) (σ : Sg) {i l : Nat} (h : i < l) (hl : l < 2 ^ 31) : CU d mJ0_checkIndex_df160 [.int (nI i), .int (nI l)] σ σ := by
  refine con_ofF (by decide +kernel) (catL rfl) (Nat.le_of_ble_eq_true rfl) ?_
  intro μ ω C hr
  have C : Cx μ ω "java/lang/String" cJ0_checkIndex_df160 2 d := C
  have hr : (mH μ).sig.returnType = none := hr
  show G μ ω (RQ μ ω (pU σ)) 0 [some (.int (nI i)), some (.int (nI l))] [] (mk σ) 0 0
  refine g_il0n (pc := 0) C dJ0_checkIndex_df160_0 ?_
  refine g_il1n (pc := 1) C dJ0_checkIndex_df160_1 ?_
  refine g_getsF (pc := 2) C sJ0_1053 dJ0_checkIndex_df160_2 ?_
  refine s_SI (pc := 5) (st := []) C (c_checkIndex3 (d := d - 1) (by omega) σ h hl (oF ω) (oF_cat C)) (by omega) lJ0_1059 dJ0_checkIndex_df160_5 rfl (Nat.le_of_ble_eq_true rfl) rfl ?_
  refine g_pop (pc := 8) C dJ0_checkIndex_df160_8 rfl ?_
  exact r_U C hr dJ0_checkIndex_df160_9 rfl

theorem c_charAt1 {d : Nat} (hd : 3 ≤ d) (σ : Sg) {q : String × Nat × String × List Int32} {j : Nat} (hq : sxL[j]? = some q) {i : Nat} (h : i < q.2.2.2.length) : CI d mJ1_charAt_3b067 [.ref (100200 + j), .int (nI i)] σ (q.2.2.2.getD i 0) σ := by
  have hql := sx_len q (List.mem_of_getElem? hq)
  refine con_ofF (by decide +kernel) (catL rfl) (Nat.le_of_ble_eq_true rfl) ?_
  intro μ ω C hr
  have C : Cx μ ω "java/lang/StringLatin1" cJ1_charAt_3b067 2 d := C
  have hr : (mH μ).sig.returnType = some .char := hr
  show G μ ω (RQ μ ω (pI (q.2.2.2.getD i 0) σ)) 0 [some (.ref (100200 + j)), some (.int (nI i))] [] (mk σ) 0 0
  refine g_il1n (pc := 0) C dJ1_charAt_3b067_0 ?_
  refine g_al0n (pc := 1) C dJ1_charAt_3b067_1 ?_
  refine g_alenX (pc := 2) C hq dJ1_charAt_3b067_2 ?_
  refine s_SU (pc := 3) (st := []) C (c_checkIndex (d := d - 1) (by omega) σ h (by omega)) (by omega) lJ1_9 dJ1_charAt_3b067_3 rfl (Nat.le_of_ble_eq_true rfl) rfl ?_
  refine g_al0n (pc := 6) C dJ1_charAt_3b067_6 ?_
  refine g_il1n (pc := 7) C dJ1_charAt_3b067_7 ?_
  refine g_baldX (pc := 8) C hq (vp_in_nI h (by omega)) dJ1_charAt_3b067_8 ?_
  refine g_sipush (pc := 9) (v := 255) C dJ1_charAt_3b067_9 (by decide) ?_
  refine g_iand (pc := 12) C dJ1_charAt_3b067_12 ?_
  refine g_i2c (pc := 13) C dJ1_charAt_3b067_13 ?_
  exact r_Z C hr dJ1_charAt_3b067_14 (by rw [pk_char]; exact (pk_charN (Nat.mod_lt _ (by decide))).1) (by rw [nI_clamp (by omega)]; exact sx_chr q (List.mem_of_getElem? hq) i h) rfl

theorem chr_n {q : String × Nat × String × List Int32} {j : Nat} (hq : sxL[j]? = some q) {i : Nat} (h : i < q.2.2.2.length) : narrow .char (.int (q.2.2.2.getD i 0)) = .int (q.2.2.2.getD i 0) := by
  rw [← sx_chr q (List.mem_of_getElem? hq) i h, pk_char]; exact (pk_charN (Nat.mod_lt _ (by decide))).1
theorem c_charAt {d : Nat} (hd : 4 ≤ d) (σ : Sg) {q : String × Nat × String × List Int32} {j : Nat} (hq : sxL[j]? = some q) {i : Nat} (h : i < q.2.2.2.length) : CI d mJ0_charAt_5068e [.ref (100100 + j), .int (nI i)] σ (q.2.2.2.getD i 0) σ := by
  have hql := sx_len q (List.mem_of_getElem? hq)
  refine con_ofF (by decide +kernel) (catL rfl) (Nat.le_of_ble_eq_true rfl) ?_
  intro μ ω C hr
  have C : Cx μ ω "java/lang/String" cJ0_charAt_5068e 2 d := C
  have hr : (mH μ).sig.returnType = some .char := hr
  show G μ ω (RQ μ ω (pI (q.2.2.2.getD i 0) σ)) 0 [some (.ref (100100 + j)), some (.int (nI i))] [] (mk σ) 0 0
  refine g_al0n (pc := 0) C dJ0_charAt_5068e_0 ?_
  refine s_XB (pc := 1) (st := []) C hq rfl (c_isLatin1 (d := d - 1) (by omega) σ hq) (by omega) lJ0_492 dJ0_charAt_5068e_1 rfl (Nat.le_of_ble_eq_true rfl) rfl (fun b_4 => ?_) (fun b_4 => absurd trivial b_4)
  refine g_if_eq (pc := 4) (tgt := 16) C dJ0_charAt_5068e_4 (by decide) (fun c => absurd c (by decide)) (fun _ => ?_)
  refine g_al0n (pc := 7) C dJ0_charAt_5068e_7 ?_
  refine g_getXv (pc := 8) (j := j) C hq sJ0_9 dJ0_charAt_5068e_8 ?_
  refine g_il1n (pc := 11) C dJ0_charAt_5068e_11 ?_
  refine s_SI (pc := 12) (st := []) C (c_charAt1 (d := d - 1) (by omega) σ hq h) (by omega) lJ0_495 dJ0_charAt_5068e_12 rfl (Nat.le_of_ble_eq_true rfl) rfl ?_
  exact r_Z C hr dJ0_charAt_5068e_15 (chr_n hq h) rfl rfl

def wSigns : List Int32 := [124, 38, 33, 60, 61, 62, 43, 45, 42, 47, 40, 41]
theorem sgn_i2b : ∀ k, k < 256 → ∀ j, j < 12 → (wSigns.getD j 0 = (nI k).toInt8.toInt32 ↔ wSigns.getD j 0 = nI k) := by decide +kernel
theorem c_canEncode {d : Nat} (hd : 1 ≤ d) (σ : Sg) {k : Nat} (h : k < 256) : CB d mJ1_canEncode_9a6ad [.int (nI k)] σ True σ := by
  refine con_ofF (by decide +kernel) (catL rfl) (Nat.le_of_ble_eq_true rfl) ?_
  intro μ ω C hr
  have C : Cx μ ω "java/lang/StringLatin1" cJ1_canEncode_9a6ad 1 d := C
  have hr : (mH μ).sig.returnType = some .boolean := hr
  show G μ ω (RQ μ ω (pB True σ)) 0 [some (.int (nI k))] [] (mk σ) 0 0
  refine g_il0n (pc := 0) C dJ1_canEncode_9a6ad_0 ?_
  refine g_if_lt (pc := 1) (tgt := 15) C dJ1_canEncode_9a6ad_1 (by decide) (fun c_1 => absurd c_1 (nI_pos (by omega))) (fun c_1 => ?_)
  refine g_il0n (pc := 4) C dJ1_canEncode_9a6ad_4 ?_
  refine g_sipush (pc := 5) (v := 255) C dJ1_canEncode_9a6ad_5 (by decide) ?_
  refine g_icmp_gt (pc := 8) (tgt := 15) C dJ1_canEncode_9a6ad_8 (by decide) (fun c_8 => absurd (nI_lt (b := 256) h (by decide)) (fun _ => by have := (nI_ltI (a := 255) (by decide) (by omega)).mp c_8; omega)) (fun c_8 => ?_)
  refine g_iconst (pc := 11) (v := 1) C dJ1_canEncode_9a6ad_11 (by decide) ?_
  refine g_goto (pc := 12) (tgt := 16) C dJ1_canEncode_9a6ad_12 (by decide) ?_
  exact r_B1 C hr dJ1_canEncode_9a6ad_16 trivial rfl

theorem lp_indexOfChar {μ : Mx} {ω : Om} {d : Nat} (hd : 1 ≤ d) (C : Cx μ ω "java/lang/StringLatin1" cJ1_indexOfChar_4cfef 6 d) (hr : (mH μ).sig.returnType = some .int) (σ : Sg) {k : Nat} (hk : k < 256) : ∀ (f i : Nat), i + f = 12 → (∀ j, j < i → wSigns.getD j 0 ≠ nI k) → G μ ω (RQ μ ω (pP (fun v τ' => τ' = σ ∧ (0 ≤ v ↔ ∃ j, j < 12 ∧ wSigns.getD j 0 = nI k)))) 7 [some (.ref (100200 + 4)), some (.int (nI k)), some (.int 0), some (.int (nI 12)), some (.int ((nI k).toInt8.toInt32)), some (.int (nI i))] [] (mk σ) 0 0 := by
  intro f
  induction f with
  | zero =>
    intro i hif hv
    have hin : i = 12 := by omega
    subst hin
    refine g_il5 (pc := 7) C dJ1_indexOfChar_4cfef_7 ?_
    refine g_il3n (pc := 9) C dJ1_indexOfChar_4cfef_9 ?_
    refine g_icmp_geL (pc := 10) (tgt := 31) C dJ1_indexOfChar_4cfef_10 (by decide) (fun c_10 => ?_) (fun c_10 => absurd c_10 (by decide))
    refine g_iconst (pc := 31) (v := (-1)) C dJ1_indexOfChar_4cfef_31 (by decide) ?_
    exact r_P C hr dJ1_indexOfChar_4cfef_32 ⟨rfl, fun h => absurd h (by decide), fun ⟨j, h1, h2⟩ => absurd h2 (hv j h1)⟩
  | succ f ih =>
    intro i hif hv
    refine g_il5 (pc := 7) C dJ1_indexOfChar_4cfef_7 ?_
    refine g_il3n (pc := 9) C dJ1_indexOfChar_4cfef_9 ?_
    refine g_icmp_geL (pc := 10) (tgt := 31) C dJ1_indexOfChar_4cfef_10 (by decide) (fun c_10 => absurd (show nI i < nI 12 from nI_lt (by omega) (by decide)) c_10) (fun c_10 => ?_)
    refine g_al0n (pc := 13) C dJ1_indexOfChar_4cfef_13 ?_
    refine g_il5 (pc := 14) C dJ1_indexOfChar_4cfef_14 ?_
    refine g_baldX (pc := 16) C rfl (by exact vp_in_nI (show i < 12 by omega) (by decide)) dJ1_indexOfChar_4cfef_16 ?_
    refine g_il4 (pc := 17) C dJ1_indexOfChar_4cfef_17 ?_
    refine g_icmp_ne (pc := 19) (tgt := 25) C dJ1_indexOfChar_4cfef_19 (by decide) (fun c_19 => ?_) (fun c_19 => ?_)
    · refine g_ii5 (pc := 25) (v := nI (i + 1)) C dJ1_indexOfChar_4cfef_25 (nI_inc1 _) ?_
      refine g_goto (pc := 28) (tgt := 7) C dJ1_indexOfChar_4cfef_28 (by decide) ?_
      rw [nI_clamp (by omega)] at c_19
      exact ih (i + 1) (by omega) (fun j hj => by
        by_cases e : j = i
        · subst e; exact fun h => c_19 ((sgn_i2b k hk j (by omega)).mpr h)
        · exact hv j (by omega))
    · refine g_il5 (pc := 22) C dJ1_indexOfChar_4cfef_22 ?_
      rw [nI_clamp (by omega)] at c_19
      exact r_P C hr dJ1_indexOfChar_4cfef_24 ⟨rfl, fun _ => ⟨i, by omega, (sgn_i2b k hk i (by omega)).mp c_19⟩, fun _ => nI_pos' (by omega)⟩

theorem c_indexOfChar {d : Nat} (hd : 1 ≤ d) (σ : Sg) {k : Nat} (hk : k < 256) : CP d mJ1_indexOfChar_4cfef [.ref (100200 + 4), .int (nI k), .int 0, .int (nI 12)] σ (fun v τ' => τ' = σ ∧ (0 ≤ v ↔ ∃ j, j < 12 ∧ wSigns.getD j 0 = nI k)) := by
  refine con_ofF (by decide +kernel) (catL rfl) (Nat.le_of_ble_eq_true rfl) ?_
  intro μ ω C hr
  have C : Cx μ ω "java/lang/StringLatin1" cJ1_indexOfChar_4cfef 6 d := C
  have hr : (mH μ).sig.returnType = some .int := hr
  show G μ ω (RQ μ ω (pP (fun v τ' => τ' = σ ∧ (0 ≤ v ↔ ∃ j, j < 12 ∧ wSigns.getD j 0 = nI k)))) 0 [some (.ref (100200 + 4)), some (.int (nI k)), some (.int 0), some (.int (nI 12)), none, none] [] (mk σ) 0 0
  refine g_il1n (pc := 0) C dJ1_indexOfChar_4cfef_0 ?_
  refine g_i2b (pc := 1) C dJ1_indexOfChar_4cfef_1 ?_
  refine g_is4 (pc := 2) C dJ1_indexOfChar_4cfef_2 ?_
  refine g_il2n (pc := 4) C dJ1_indexOfChar_4cfef_4 ?_
  refine g_is5 (pc := 5) C dJ1_indexOfChar_4cfef_5 ?_
  exact lp_indexOfChar hd C hr σ hk 12 0 (by omega) (fun j hj => absurd hj (by omega))

theorem c_indexOf1 {d : Nat} (hd : 2 ≤ d) (σ : Sg) {k : Nat} (hk : k < 256) : CP d mJ1_indexOf_4cfef [.ref (100200 + 4), .int (nI k), .int 0, .int (nI 12)] σ (fun v τ' => τ' = σ ∧ (0 ≤ v ↔ ∃ j, j < 12 ∧ wSigns.getD j 0 = nI k)) := by
  refine con_ofF (by decide +kernel) (catL rfl) (Nat.le_of_ble_eq_true rfl) ?_
  intro μ ω C hr
  have C : Cx μ ω "java/lang/StringLatin1" cJ1_indexOf_4cfef 4 d := C
  have hr : (mH μ).sig.returnType = some .int := hr
  show G μ ω (RQ μ ω (pP (fun v τ' => τ' = σ ∧ (0 ≤ v ↔ ∃ j, j < 12 ∧ wSigns.getD j 0 = nI k)))) 0 [some (.ref (100200 + 4)), some (.int (nI k)), some (.int 0), some (.int (nI 12))] [] (mk σ) 0 0
  refine g_il1n (pc := 0) C dJ1_indexOf_4cfef_0 ?_
  refine s_SB (pc := 1) (st := []) C (c_canEncode (d := d - 1) (by omega) σ hk) (by omega) lJ1_88 dJ1_indexOf_4cfef_1 rfl (Nat.le_of_ble_eq_true rfl) rfl (fun b_1 => ?_) (fun b_1 => absurd trivial b_1)
  refine g_if_ne (pc := 4) (tgt := 9) C dJ1_indexOf_4cfef_4 (by decide) (fun _ => ?_) (fun c => absurd c (by decide))
  refine g_il2n (pc := 9) C dJ1_indexOf_4cfef_9 ?_
  refine g_iconst (pc := 10) (v := 0) C dJ1_indexOf_4cfef_10 (by decide) ?_
  refine s_SI (pc := 11) (st := []) C (c_max (d := d - 1) (by omega) σ 0 0) (by omega) lJ1_92 dJ1_indexOf_4cfef_11 rfl (Nat.le_of_ble_eq_true rfl) rfl ?_
  refine g_is2n (pc := 14) C dJ1_indexOf_4cfef_14 ?_
  refine g_il3n (pc := 15) C dJ1_indexOf_4cfef_15 ?_
  refine g_al0n (pc := 16) C dJ1_indexOf_4cfef_16 ?_
  refine g_alenX (pc := 17) C rfl dJ1_indexOf_4cfef_17 ?_
  refine s_SI (pc := 18) (st := []) C (c_min (d := d - 1) (by omega) σ (nI 12) (nI 12)) (by omega) lJ1_38 dJ1_indexOf_4cfef_18 rfl (Nat.le_of_ble_eq_true rfl) rfl ?_
  refine g_is3n (pc := 21) C dJ1_indexOf_4cfef_21 ?_
  refine g_il2n (pc := 22) C dJ1_indexOf_4cfef_22 ?_
  refine g_il3n (pc := 23) C dJ1_indexOf_4cfef_23 ?_
  refine g_icmp_lt (pc := 24) (tgt := 29) C dJ1_indexOf_4cfef_24 (by decide) (fun c_24 => ?_) (fun c_24 => absurd (show (0 : Int32) < nI 12 by decide) c_24)
  refine g_al0n (pc := 29) C dJ1_indexOf_4cfef_29 ?_
  refine g_il1n (pc := 30) C dJ1_indexOf_4cfef_30 ?_
  refine g_il2n (pc := 31) C dJ1_indexOf_4cfef_31 ?_
  refine g_il3n (pc := 32) C dJ1_indexOf_4cfef_32 ?_
  refine s_SP (pc := 33) (st := []) C (c_indexOfChar (d := d - 1) (by omega) σ hk) (by omega) lJ1_95 dJ1_indexOf_4cfef_33 rfl (Nat.le_of_ble_eq_true rfl) rfl (fun v_i τ hv_i => ?_)
  exact r_P C hr dJ1_indexOf_4cfef_36 hv_i

theorem c_indexOf2 {d : Nat} (hd : 3 ≤ d) (σ : Sg) {k : Nat} (hk : k < 256) : CP d mJ0_indexOf_7cf53 [.ref (100100 + 4), .int (nI k), .int 0] σ (fun v τ' => τ' = σ ∧ (0 ≤ v ↔ ∃ j, j < 12 ∧ wSigns.getD j 0 = nI k)) := by
  refine con_ofF (by decide +kernel) (catL rfl) (Nat.le_of_ble_eq_true rfl) ?_
  intro μ ω C hr
  have C : Cx μ ω "java/lang/String" cJ0_indexOf_7cf53 3 d := C
  have hr : (mH μ).sig.returnType = some .int := hr
  show G μ ω (RQ μ ω (pP (fun v τ' => τ' = σ ∧ (0 ≤ v ↔ ∃ j, j < 12 ∧ wSigns.getD j 0 = nI k)))) 0 [some (.ref (100100 + 4)), some (.int (nI k)), some (.int 0)] [] (mk σ) 0 0
  refine g_al0n (pc := 0) C dJ0_indexOf_7cf53_0 ?_
  refine s_XB (pc := 1) (st := []) C rfl rfl (c_isLatin1 (d := d - 1) (by omega) σ (j := 4) rfl) (by omega) lJ0_492 dJ0_indexOf_7cf53_1 rfl (Nat.le_of_ble_eq_true rfl) rfl (fun b_4 => ?_) (fun b_4 => absurd trivial b_4)
  refine g_if_eq (pc := 4) (tgt := 23) C dJ0_indexOf_7cf53_4 (by decide) (fun c => absurd c (by decide)) (fun _ => ?_)
  refine g_al0n (pc := 7) C dJ0_indexOf_7cf53_7 ?_
  refine g_getXv (pc := 8) (j := 4) C rfl sJ0_9 dJ0_indexOf_7cf53_8 ?_
  refine g_il1n (pc := 11) C dJ0_indexOf_7cf53_11 ?_
  refine g_il2n (pc := 12) C dJ0_indexOf_7cf53_12 ?_
  refine g_al0n (pc := 13) C dJ0_indexOf_7cf53_13 ?_
  refine s_XI (pc := 14) (st := [(.int 0), (.int (nI k)), (.ref (100200 + 4))]) C rfl rfl (c_length (d := d - 1) (by omega) σ (j := 4) rfl) (by omega) lJ0_505 dJ0_indexOf_7cf53_14 rfl (Nat.le_of_ble_eq_true rfl) rfl ?_
  refine s_SP (pc := 17) (st := []) C (c_indexOf1 (d := d - 1) (by omega) σ hk) (by omega) lJ0_637 dJ0_indexOf_7cf53_17 rfl (Nat.le_of_ble_eq_true rfl) rfl (fun v_i τ hv_i => ?_)
  refine g_goto (pc := 20) (tgt := 36) C dJ0_indexOf_7cf53_20 (by decide) ?_
  exact r_P C hr dJ0_indexOf_7cf53_36 hv_i

theorem c_indexOf {d : Nat} (hd : 4 ≤ d) (σ : Sg) {k : Nat} (hk : k < 256) : CP d mJ0_indexOf_0f7a4 [.ref (100100 + 4), .int (nI k)] σ (fun v τ' => τ' = σ ∧ (0 ≤ v ↔ ∃ j, j < 12 ∧ wSigns.getD j 0 = nI k)) := by
  refine con_ofF (by decide +kernel) (catL rfl) (Nat.le_of_ble_eq_true rfl) ?_
  intro μ ω C hr
  have C : Cx μ ω "java/lang/String" cJ0_indexOf_0f7a4 2 d := C
  have hr : (mH μ).sig.returnType = some .int := hr
  show G μ ω (RQ μ ω (pP (fun v τ' => τ' = σ ∧ (0 ≤ v ↔ ∃ j, j < 12 ∧ wSigns.getD j 0 = nI k)))) 0 [some (.ref (100100 + 4)), some (.int (nI k))] [] (mk σ) 0 0
  refine g_al0n (pc := 0) C dJ0_indexOf_0f7a4_0 ?_
  refine g_il1n (pc := 1) C dJ0_indexOf_0f7a4_1 ?_
  refine g_iconst (pc := 2) (v := 0) C dJ0_indexOf_0f7a4_2 (by decide) ?_
  refine s_XP (pc := 3) (st := []) C rfl rfl (c_indexOf2 (d := d - 1) (by omega) σ hk) (by omega) lJ0_633 dJ0_indexOf_0f7a4_3 rfl (Nat.le_of_ble_eq_true rfl) rfl (fun v_i τ hv_i => ?_)
  exact r_P C hr dJ0_indexOf_0f7a4_6 hv_i

/-- what bitCount works out -/
def bc1 (x : Int32) : Int32 := x - ((x.toUInt32 >>> ((1 : Int32).toUInt32 &&& Int32.toUInt32 31)).toInt32 &&& 1431655765)
def bc2 (x : Int32) : Int32 := (x &&& 858993459) + ((x.toUInt32 >>> ((2 : Int32).toUInt32 &&& Int32.toUInt32 31)).toInt32 &&& 858993459)
def bc3 (x : Int32) : Int32 := (x + (x.toUInt32 >>> ((4 : Int32).toUInt32 &&& Int32.toUInt32 31)).toInt32) &&& 252645135
def bc4 (x : Int32) : Int32 := x + (x.toUInt32 >>> ((8 : Int32).toUInt32 &&& Int32.toUInt32 31)).toInt32
def bc5 (x : Int32) : Int32 := x + (x.toUInt32 >>> ((16 : Int32).toUInt32 &&& Int32.toUInt32 31)).toInt32
def bcK (x : Int32) : Int32 := bc5 (bc4 (bc3 (bc2 (bc1 x)))) &&& 63
theorem c_bitCount {d : Nat} (hd : 1 ≤ d) (σ : Sg) (x : Int32) : CI d mJ6_bitCount_0f7a4 [.int x] σ (bcK x) σ := by
  refine con_ofF (by decide +kernel) (catL rfl) (Nat.le_of_ble_eq_true rfl) ?_
  intro μ ω C hr
  have C : Cx μ ω "java/lang/Integer" cJ6_bitCount_0f7a4 1 d := C
  have hr : (mH μ).sig.returnType = some .int := hr
  show G μ ω (RQ μ ω (pI (bcK x) σ)) 0 [some (.int x)] [] (mk σ) 0 0
  refine g_il0n (pc := 0) C dJ6_bitCount_0f7a4_0 ?_
  refine g_il0n (pc := 1) C dJ6_bitCount_0f7a4_1 ?_
  refine g_iconst (pc := 2) (v := 1) C dJ6_bitCount_0f7a4_2 (by decide) ?_
  refine g_iushr (pc := 3) C dJ6_bitCount_0f7a4_3 rfl ?_
  refine g_ldcw (pc := 4) C dJ6_bitCount_0f7a4_4 kJ6_265 ?_
  refine g_iand (pc := 7) C dJ6_bitCount_0f7a4_7 ?_
  refine g_isub (pc := 8) C dJ6_bitCount_0f7a4_8 ?_
  refine g_is0n (pc := 9) C dJ6_bitCount_0f7a4_9 ?_
  refine g_il0n (pc := 10) C dJ6_bitCount_0f7a4_10 ?_
  refine g_ldcw (pc := 11) C dJ6_bitCount_0f7a4_11 kJ6_266 ?_
  refine g_iand (pc := 14) C dJ6_bitCount_0f7a4_14 ?_
  refine g_il0n (pc := 15) C dJ6_bitCount_0f7a4_15 ?_
  refine g_iconst (pc := 16) (v := 2) C dJ6_bitCount_0f7a4_16 (by decide) ?_
  refine g_iushr (pc := 17) C dJ6_bitCount_0f7a4_17 rfl ?_
  refine g_ldcw (pc := 18) C dJ6_bitCount_0f7a4_18 kJ6_266 ?_
  refine g_iand (pc := 21) C dJ6_bitCount_0f7a4_21 ?_
  refine g_iadd (pc := 22) C dJ6_bitCount_0f7a4_22 ?_
  refine g_is0n (pc := 23) C dJ6_bitCount_0f7a4_23 ?_
  refine g_il0n (pc := 24) C dJ6_bitCount_0f7a4_24 ?_
  refine g_il0n (pc := 25) C dJ6_bitCount_0f7a4_25 ?_
  refine g_iconst (pc := 26) (v := 4) C dJ6_bitCount_0f7a4_26 (by decide) ?_
  refine g_iushr (pc := 27) C dJ6_bitCount_0f7a4_27 rfl ?_
  refine g_iadd (pc := 28) C dJ6_bitCount_0f7a4_28 ?_
  refine g_ldcw (pc := 29) C dJ6_bitCount_0f7a4_29 kJ6_267 ?_
  refine g_iand (pc := 32) C dJ6_bitCount_0f7a4_32 ?_
  refine g_is0n (pc := 33) C dJ6_bitCount_0f7a4_33 ?_
  refine g_il0n (pc := 34) C dJ6_bitCount_0f7a4_34 ?_
  refine g_il0n (pc := 35) C dJ6_bitCount_0f7a4_35 ?_
  refine g_bipush (pc := 36) (v := 8) C dJ6_bitCount_0f7a4_36 (by decide) ?_
  refine g_iushr (pc := 38) C dJ6_bitCount_0f7a4_38 rfl ?_
  refine g_iadd (pc := 39) C dJ6_bitCount_0f7a4_39 ?_
  refine g_is0n (pc := 40) C dJ6_bitCount_0f7a4_40 ?_
  refine g_il0n (pc := 41) C dJ6_bitCount_0f7a4_41 ?_
  refine g_il0n (pc := 42) C dJ6_bitCount_0f7a4_42 ?_
  refine g_bipush (pc := 43) (v := 16) C dJ6_bitCount_0f7a4_43 (by decide) ?_
  refine g_iushr (pc := 45) C dJ6_bitCount_0f7a4_45 rfl ?_
  refine g_iadd (pc := 46) C dJ6_bitCount_0f7a4_46 ?_
  refine g_is0n (pc := 47) C dJ6_bitCount_0f7a4_47 ?_
  refine g_il0n (pc := 48) C dJ6_bitCount_0f7a4_48 ?_
  refine g_bipush (pc := 49) (v := 63) C dJ6_bitCount_0f7a4_49 (by decide) ?_
  refine g_iand (pc := 51) C dJ6_bitCount_0f7a4_51 ?_
  exact r_I C hr dJ6_bitCount_0f7a4_52 rfl rfl

