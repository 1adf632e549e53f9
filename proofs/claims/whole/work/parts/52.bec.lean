/-! ===== the class: a world becomes another ===== -/
/-- fields of the object at K and the first n of the rows behind it, to hi, are another world's; nothing else has changed -/
def BC (K lo hi n : Nat) (fs : List Nat) (σ τ : Sg) (y z : Nat) : Prop := (∀ f ∈ fs, τ (z + K) f = σ (y + K) f) ∧ (∀ k, lo ≤ k → k ≤ hi → ∀ j, j < n → τ (z + k) j = σ (y + k) j) ∧ ∀ q, ¬ (z + K ≤ q ∧ q ≤ z + hi) → τ q = σ q
theorem c_becG {d : Nat} (hd : 1 ≤ d) (σ : Sg) {y z : Nat} (hy : isW y) (hz : isW z) (hyz : z + 37 ≤ y ∨ y + 37 ≤ z) {n : Nat} (hn : σ (y + 1) 4 = nI n) (hn2 : n ≤ 10) : CQ d mX1_become [.ref (z + 1), .ref (y + 1)] σ (fun τ => BC 1 2 5 n [4, 5] σ τ y z) := by
  refine con_of (by decide) (catL rfl) (Nat.le_of_ble_eq_true rfl) ?_
  intro μ ω C hr
  have C : Cx μ ω "TowField$Gliders" cX1_become 2 d := C
  have hr : (mH μ).sig.returnType = none := hr
  show G μ ω (RQ μ ω (pQ (fun τ => BC 1 2 5 n [4, 5] σ τ y z))) 0 [some (.ref (z + 1)), some (.ref (y + 1))] [] (mk σ) 0 0
  refine g_al0n (pc := 0) C dX1_become_0 ?_
  refine g_al1n (pc := 1) C dX1_become_1 ?_
  refine s_getIv (pc := 2) (v := nI n) C fX1_22 (w1 hy) rfl (by first | exact hn | (simp (disch := omega) only [up_ne]; exact hn)) dX1_become_2 ?_
  refine s_putI (pc := 5) C pX1_22 (w1 hz) rfl dX1_become_5 ?_
  refine g_al0n (pc := 8) C dX1_become_8 ?_
  refine g_al1n (pc := 9) C dX1_become_9 ?_
  refine s_getIv (pc := 10) (v := σ (y + 1) 5) C fX1_26 (w1 hy) rfl (by first | rfl | (simp (disch := omega) only [up_ne])) dX1_become_10 ?_
  refine s_putI (pc := 13) C pX1_26 (w1 hz) rfl dX1_become_13 ?_
  refine g_al1n (pc := 16) C dX1_become_16 ?_
  refine s_getR (pc := 17) C fX1_9 (w1 hy) rfl dX1_become_17 ?_
  refine g_iconst (pc := 20) (v := 0) C dX1_become_20 (by decide) ?_
  refine g_al0n (pc := 21) C dX1_become_21 ?_
  refine s_getR (pc := 22) C fX1_9 (w1 hz) rfl dX1_become_22 ?_
  refine g_iconst (pc := 25) (v := 0) C dX1_become_25 (by decide) ?_
  refine g_al0n (pc := 26) C dX1_become_26 ?_
  refine s_getIv (pc := 27) (v := nI n) C fX1_22 (w1 hz) rfl (by simp (disch := omega) only [up_ne, up_at, upd_ne, upd_at]) dX1_become_27 ?_
  refine s_cpy0 (pc := 30) (c := n) C (w2 hy) (w2 hz) rfl (by omega) (by omega) (Nat.le_of_ble_eq_true rfl) (Nat.le_of_ble_eq_true rfl) lX1_39 (by omega) (Nat.le_of_ble_eq_true rfl) rfl dX1_become_30 (fun t_30 hc_30 he_30 => ?_)
  refine g_al1n (pc := 33) C dX1_become_33 ?_
  refine s_getR (pc := 34) C fX1_13 (w1 hy) rfl dX1_become_34 ?_
  refine g_iconst (pc := 37) (v := 0) C dX1_become_37 (by decide) ?_
  refine g_al0n (pc := 38) C dX1_become_38 ?_
  refine s_getR (pc := 39) C fX1_13 (w1 hz) rfl dX1_become_39 ?_
  refine g_iconst (pc := 42) (v := 0) C dX1_become_42 (by decide) ?_
  refine g_al0n (pc := 43) C dX1_become_43 ?_
  refine s_getIv (pc := 44) (v := nI n) C fX1_22 (w1 hz) rfl (by rw [he_30 _ (by simp; try omega)]; simp (disch := omega) only [up_ne, up_at, upd_ne, upd_at]) dX1_become_44 ?_
  refine s_cpy0 (pc := 47) (c := n) C (w3 hy) (w3 hz) rfl (by omega) (by omega) (Nat.le_of_ble_eq_true rfl) (Nat.le_of_ble_eq_true rfl) lX1_39 (by omega) (Nat.le_of_ble_eq_true rfl) rfl dX1_become_47 (fun t_47 hc_47 he_47 => ?_)
  refine g_al1n (pc := 50) C dX1_become_50 ?_
  refine s_getR (pc := 51) C fX1_16 (w1 hy) rfl dX1_become_51 ?_
  refine g_iconst (pc := 54) (v := 0) C dX1_become_54 (by decide) ?_
  refine g_al0n (pc := 55) C dX1_become_55 ?_
  refine s_getR (pc := 56) C fX1_16 (w1 hz) rfl dX1_become_56 ?_
  refine g_iconst (pc := 59) (v := 0) C dX1_become_59 (by decide) ?_
  refine g_al0n (pc := 60) C dX1_become_60 ?_
  refine s_getIv (pc := 61) (v := nI n) C fX1_22 (w1 hz) rfl (by rw [he_47 _ (by simp; try omega), he_30 _ (by simp; try omega)]; simp (disch := omega) only [up_ne, up_at, upd_ne, upd_at]) dX1_become_61 ?_
  refine s_cpy0 (pc := 64) (c := n) C (w4 hy) (w4 hz) rfl (by omega) (by omega) (Nat.le_of_ble_eq_true rfl) (Nat.le_of_ble_eq_true rfl) lX1_39 (by omega) (Nat.le_of_ble_eq_true rfl) rfl dX1_become_64 (fun t_64 hc_64 he_64 => ?_)
  refine g_al1n (pc := 67) C dX1_become_67 ?_
  refine s_getR (pc := 68) C fX1_19 (w1 hy) rfl dX1_become_68 ?_
  refine g_iconst (pc := 71) (v := 0) C dX1_become_71 (by decide) ?_
  refine g_al0n (pc := 72) C dX1_become_72 ?_
  refine s_getR (pc := 73) C fX1_19 (w1 hz) rfl dX1_become_73 ?_
  refine g_iconst (pc := 76) (v := 0) C dX1_become_76 (by decide) ?_
  refine g_al0n (pc := 77) C dX1_become_77 ?_
  refine s_getIv (pc := 78) (v := nI n) C fX1_22 (w1 hz) rfl (by rw [he_64 _ (by simp; try omega), he_47 _ (by simp; try omega), he_30 _ (by simp; try omega)]; simp (disch := omega) only [up_ne, up_at, upd_ne, upd_at]) dX1_become_78 ?_
  refine s_cpy0 (pc := 81) (c := n) C (w5 hy) (w5 hz) rfl (by omega) (by omega) (Nat.le_of_ble_eq_true rfl) (Nat.le_of_ble_eq_true rfl) lX1_39 (by omega) (Nat.le_of_ble_eq_true rfl) rfl dX1_become_81 (fun t_81 hc_81 he_81 => ?_)
  refine r_Q C hr dX1_become_84 ⟨?_, ?_, ?_⟩
  · intro f hf
    rw [he_81 _ (by simp; try omega), he_64 _ (by simp; try omega), he_47 _ (by simp; try omega), he_30 _ (by simp; try omega)]
    simp only [List.mem_cons, List.not_mem_nil, or_false] at hf
    rcases hf with rfl | rfl
    · simp (disch := omega) only [up_ne, up_at, upd_ne, upd_at]; exact hn.symm
    · simp (disch := omega) only [up_ne, up_at, upd_ne, upd_at]
  · intro k h1 h2 j hj
    rcases (show k = 2 ∨ k = 3 ∨ k = 4 ∨ k = 5 by omega) with rfl | rfl | rfl | rfl
    · rw [he_81 _ (by simp; try omega), he_64 _ (by simp; try omega), he_47 _ (by simp; try omega)]; rw [hc_30 j hj]; first | rfl | (simp (disch := omega) only [up_ne])
    · rw [he_81 _ (by simp; try omega), he_64 _ (by simp; try omega)]; rw [hc_47 j hj, he_30 _ (by simp; try omega)]; first | rfl | (simp (disch := omega) only [up_ne])
    · rw [he_81 _ (by simp; try omega)]; rw [hc_64 j hj, he_47 _ (by simp; try omega), he_30 _ (by simp; try omega)]; first | rfl | (simp (disch := omega) only [up_ne])
    · skip; rw [hc_81 j hj, he_64 _ (by simp; try omega), he_47 _ (by simp; try omega), he_30 _ (by simp; try omega)]; first | rfl | (simp (disch := omega) only [up_ne])
  · intro q hq
    rw [he_81 _ (by simp; try omega), he_64 _ (by simp; try omega), he_47 _ (by simp; try omega), he_30 _ (by simp; try omega)]
    simp (disch := omega) only [up_ne]

theorem c_becP {d : Nat} (hd : 1 ≤ d) (σ : Sg) {y z : Nat} (hy : isW y) (hz : isW z) (hyz : z + 37 ≤ y ∨ y + 37 ≤ z) {n : Nat} (hn : σ (y + 6) 4 = nI n) (hn2 : n ≤ 14) : CQ d mX4_become [.ref (z + 6), .ref (y + 6)] σ (fun τ => BC 6 7 10 n [4, 5] σ τ y z) := by
  refine con_of (by decide) (catL rfl) (Nat.le_of_ble_eq_true rfl) ?_
  intro μ ω C hr
  have C : Cx μ ω "TowField$People" cX4_become 2 d := C
  have hr : (mH μ).sig.returnType = none := hr
  show G μ ω (RQ μ ω (pQ (fun τ => BC 6 7 10 n [4, 5] σ τ y z))) 0 [some (.ref (z + 6)), some (.ref (y + 6))] [] (mk σ) 0 0
  refine g_al0n (pc := 0) C dX4_become_0 ?_
  refine g_al1n (pc := 1) C dX4_become_1 ?_
  refine s_getIv (pc := 2) (v := nI n) C fX4_22 (w6 hy) rfl (by first | exact hn | (simp (disch := omega) only [up_ne]; exact hn)) dX4_become_2 ?_
  refine s_putI (pc := 5) C pX4_22 (w6 hz) rfl dX4_become_5 ?_
  refine g_al0n (pc := 8) C dX4_become_8 ?_
  refine g_al1n (pc := 9) C dX4_become_9 ?_
  refine s_getIv (pc := 10) (v := σ (y + 6) 5) C fX4_26 (w6 hy) rfl (by first | rfl | (simp (disch := omega) only [up_ne])) dX4_become_10 ?_
  refine s_putI (pc := 13) C pX4_26 (w6 hz) rfl dX4_become_13 ?_
  refine g_al1n (pc := 16) C dX4_become_16 ?_
  refine s_getR (pc := 17) C fX4_9 (w6 hy) rfl dX4_become_17 ?_
  refine g_iconst (pc := 20) (v := 0) C dX4_become_20 (by decide) ?_
  refine g_al0n (pc := 21) C dX4_become_21 ?_
  refine s_getR (pc := 22) C fX4_9 (w6 hz) rfl dX4_become_22 ?_
  refine g_iconst (pc := 25) (v := 0) C dX4_become_25 (by decide) ?_
  refine g_al0n (pc := 26) C dX4_become_26 ?_
  refine s_getIv (pc := 27) (v := nI n) C fX4_22 (w6 hz) rfl (by simp (disch := omega) only [up_ne, up_at, upd_ne, upd_at]) dX4_become_27 ?_
  refine s_cpy0 (pc := 30) (c := n) C (w7 hy) (w7 hz) rfl (by omega) (by omega) (Nat.le_of_ble_eq_true rfl) (Nat.le_of_ble_eq_true rfl) lX4_45 (by omega) (Nat.le_of_ble_eq_true rfl) rfl dX4_become_30 (fun t_30 hc_30 he_30 => ?_)
  refine g_al1n (pc := 33) C dX4_become_33 ?_
  refine s_getR (pc := 34) C fX4_13 (w6 hy) rfl dX4_become_34 ?_
  refine g_iconst (pc := 37) (v := 0) C dX4_become_37 (by decide) ?_
  refine g_al0n (pc := 38) C dX4_become_38 ?_
  refine s_getR (pc := 39) C fX4_13 (w6 hz) rfl dX4_become_39 ?_
  refine g_iconst (pc := 42) (v := 0) C dX4_become_42 (by decide) ?_
  refine g_al0n (pc := 43) C dX4_become_43 ?_
  refine s_getIv (pc := 44) (v := nI n) C fX4_22 (w6 hz) rfl (by rw [he_30 _ (by simp; try omega)]; simp (disch := omega) only [up_ne, up_at, upd_ne, upd_at]) dX4_become_44 ?_
  refine s_cpy0 (pc := 47) (c := n) C (w8 hy) (w8 hz) rfl (by omega) (by omega) (Nat.le_of_ble_eq_true rfl) (Nat.le_of_ble_eq_true rfl) lX4_45 (by omega) (Nat.le_of_ble_eq_true rfl) rfl dX4_become_47 (fun t_47 hc_47 he_47 => ?_)
  refine g_al1n (pc := 50) C dX4_become_50 ?_
  refine s_getR (pc := 51) C fX4_16 (w6 hy) rfl dX4_become_51 ?_
  refine g_iconst (pc := 54) (v := 0) C dX4_become_54 (by decide) ?_
  refine g_al0n (pc := 55) C dX4_become_55 ?_
  refine s_getR (pc := 56) C fX4_16 (w6 hz) rfl dX4_become_56 ?_
  refine g_iconst (pc := 59) (v := 0) C dX4_become_59 (by decide) ?_
  refine g_al0n (pc := 60) C dX4_become_60 ?_
  refine s_getIv (pc := 61) (v := nI n) C fX4_22 (w6 hz) rfl (by rw [he_47 _ (by simp; try omega), he_30 _ (by simp; try omega)]; simp (disch := omega) only [up_ne, up_at, upd_ne, upd_at]) dX4_become_61 ?_
  refine s_cpy0 (pc := 64) (c := n) C (w9 hy) (w9 hz) rfl (by omega) (by omega) (Nat.le_of_ble_eq_true rfl) (Nat.le_of_ble_eq_true rfl) lX4_45 (by omega) (Nat.le_of_ble_eq_true rfl) rfl dX4_become_64 (fun t_64 hc_64 he_64 => ?_)
  refine g_al1n (pc := 67) C dX4_become_67 ?_
  refine s_getR (pc := 68) C fX4_19 (w6 hy) rfl dX4_become_68 ?_
  refine g_iconst (pc := 71) (v := 0) C dX4_become_71 (by decide) ?_
  refine g_al0n (pc := 72) C dX4_become_72 ?_
  refine s_getR (pc := 73) C fX4_19 (w6 hz) rfl dX4_become_73 ?_
  refine g_iconst (pc := 76) (v := 0) C dX4_become_76 (by decide) ?_
  refine g_al0n (pc := 77) C dX4_become_77 ?_
  refine s_getIv (pc := 78) (v := nI n) C fX4_22 (w6 hz) rfl (by rw [he_64 _ (by simp; try omega), he_47 _ (by simp; try omega), he_30 _ (by simp; try omega)]; simp (disch := omega) only [up_ne, up_at, upd_ne, upd_at]) dX4_become_78 ?_
  refine s_cpy0 (pc := 81) (c := n) C (w10 hy) (w10 hz) rfl (by omega) (by omega) (Nat.le_of_ble_eq_true rfl) (Nat.le_of_ble_eq_true rfl) lX4_45 (by omega) (Nat.le_of_ble_eq_true rfl) rfl dX4_become_81 (fun t_81 hc_81 he_81 => ?_)
  refine r_Q C hr dX4_become_84 ⟨?_, ?_, ?_⟩
  · intro f hf
    rw [he_81 _ (by simp; try omega), he_64 _ (by simp; try omega), he_47 _ (by simp; try omega), he_30 _ (by simp; try omega)]
    simp only [List.mem_cons, List.not_mem_nil, or_false] at hf
    rcases hf with rfl | rfl
    · simp (disch := omega) only [up_ne, up_at, upd_ne, upd_at]; exact hn.symm
    · simp (disch := omega) only [up_ne, up_at, upd_ne, upd_at]
  · intro k h1 h2 j hj
    rcases (show k = 7 ∨ k = 8 ∨ k = 9 ∨ k = 10 by omega) with rfl | rfl | rfl | rfl
    · rw [he_81 _ (by simp; try omega), he_64 _ (by simp; try omega), he_47 _ (by simp; try omega)]; rw [hc_30 j hj]; first | rfl | (simp (disch := omega) only [up_ne])
    · rw [he_81 _ (by simp; try omega), he_64 _ (by simp; try omega)]; rw [hc_47 j hj, he_30 _ (by simp; try omega)]; first | rfl | (simp (disch := omega) only [up_ne])
    · rw [he_81 _ (by simp; try omega)]; rw [hc_64 j hj, he_47 _ (by simp; try omega), he_30 _ (by simp; try omega)]; first | rfl | (simp (disch := omega) only [up_ne])
    · skip; rw [hc_81 j hj, he_64 _ (by simp; try omega), he_47 _ (by simp; try omega), he_30 _ (by simp; try omega)]; first | rfl | (simp (disch := omega) only [up_ne])
  · intro q hq
    rw [he_81 _ (by simp; try omega), he_64 _ (by simp; try omega), he_47 _ (by simp; try omega), he_30 _ (by simp; try omega)]
    simp (disch := omega) only [up_ne]

theorem c_becW {d : Nat} (hd : 1 ≤ d) (σ : Sg) {y z : Nat} (hy : isW y) (hz : isW z) (hyz : z + 37 ≤ y ∨ y + 37 ≤ z) {n : Nat} (hn : σ (y + 11) 2 = nI n) (hn2 : n ≤ 3) : CQ d mX9_become [.ref (z + 11), .ref (y + 11)] σ (fun τ => BC 11 12 13 (2 * n) [2] σ τ y z) := by
  have e2 : nI n * 2 = nI (2 * n) := (pk_mul n 2).trans (by rw [Nat.mul_comm])
  refine con_of (by decide) (catL rfl) (Nat.le_of_ble_eq_true rfl) ?_
  intro μ ω C hr
  have C : Cx μ ω "TowField$Winches" cX9_become 2 d := C
  have hr : (mH μ).sig.returnType = none := hr
  show G μ ω (RQ μ ω (pQ (fun τ => BC 11 12 13 (2 * n) [2] σ τ y z))) 0 [some (.ref (z + 11)), some (.ref (y + 11))] [] (mk σ) 0 0
  refine g_al0n (pc := 0) C dX9_become_0 ?_
  refine g_al1n (pc := 1) C dX9_become_1 ?_
  refine s_getIv (pc := 2) (v := nI n) C fX9_16 (w11 hy) rfl (by first | exact hn | (simp (disch := omega) only [up_ne]; exact hn)) dX9_become_2 ?_
  refine s_putI (pc := 5) C pX9_16 (w11 hz) rfl dX9_become_5 ?_
  refine g_al1n (pc := 8) C dX9_become_8 ?_
  refine s_getR (pc := 9) C fX9_9 (w11 hy) rfl dX9_become_9 ?_
  refine g_iconst (pc := 12) (v := 0) C dX9_become_12 (by decide) ?_
  refine g_al0n (pc := 13) C dX9_become_13 ?_
  refine s_getR (pc := 14) C fX9_9 (w11 hz) rfl dX9_become_14 ?_
  refine g_iconst (pc := 17) (v := 0) C dX9_become_17 (by decide) ?_
  refine g_al0n (pc := 18) C dX9_become_18 ?_
  refine s_getIv (pc := 19) (v := nI n) C fX9_16 (w11 hz) rfl (by simp (disch := omega) only [up_ne, up_at, upd_ne, upd_at]) dX9_become_19 ?_
  refine g_iconst (pc := 22) (v := 2) C dX9_become_22 (by decide) ?_
  refine g_imul (pc := 23) C dX9_become_23 ?_
  refine s_cpy0 (pc := 24) (c := 2 * n) C (w12 hy) (w12 hz) e2 (by omega) (by omega) (Nat.le_of_ble_eq_true rfl) (Nat.le_of_ble_eq_true rfl) lX9_41 (by omega) (Nat.le_of_ble_eq_true rfl) rfl dX9_become_24 (fun t_24 hc_24 he_24 => ?_)
  refine g_al1n (pc := 27) C dX9_become_27 ?_
  refine s_getR (pc := 28) C fX9_13 (w11 hy) rfl dX9_become_28 ?_
  refine g_iconst (pc := 31) (v := 0) C dX9_become_31 (by decide) ?_
  refine g_al0n (pc := 32) C dX9_become_32 ?_
  refine s_getR (pc := 33) C fX9_13 (w11 hz) rfl dX9_become_33 ?_
  refine g_iconst (pc := 36) (v := 0) C dX9_become_36 (by decide) ?_
  refine g_al0n (pc := 37) C dX9_become_37 ?_
  refine s_getIv (pc := 38) (v := nI n) C fX9_16 (w11 hz) rfl (by rw [he_24 _ (by simp; try omega)]; simp (disch := omega) only [up_ne, up_at, upd_ne, upd_at]) dX9_become_38 ?_
  refine g_iconst (pc := 41) (v := 2) C dX9_become_41 (by decide) ?_
  refine g_imul (pc := 42) C dX9_become_42 ?_
  refine s_cpy0 (pc := 43) (c := 2 * n) C (w13 hy) (w13 hz) e2 (by omega) (by omega) (Nat.le_of_ble_eq_true rfl) (Nat.le_of_ble_eq_true rfl) lX9_41 (by omega) (Nat.le_of_ble_eq_true rfl) rfl dX9_become_43 (fun t_43 hc_43 he_43 => ?_)
  refine r_Q C hr dX9_become_46 ⟨?_, ?_, ?_⟩
  · intro f hf
    rw [he_43 _ (by simp; try omega), he_24 _ (by simp; try omega)]
    simp only [List.mem_cons, List.not_mem_nil, or_false] at hf
    subst hf
    simp (disch := omega) only [up_ne, up_at, upd_ne, upd_at]
    first | exact hn.symm | rfl
  · intro k h1 h2 j hj
    rcases (show k = 12 ∨ k = 13 by omega) with rfl | rfl
    · rw [he_43 _ (by simp; try omega)]; rw [hc_24 j hj]; first | rfl | (simp (disch := omega) only [up_ne])
    · skip; rw [hc_43 j hj, he_24 _ (by simp; try omega)]; first | rfl | (simp (disch := omega) only [up_ne])
  · intro q hq
    rw [he_43 _ (by simp; try omega), he_24 _ (by simp; try omega)]
    simp (disch := omega) only [up_ne]

theorem c_becN {d : Nat} (hd : 1 ≤ d) (σ : Sg) {y z : Nat} (hy : isW y) (hz : isW z) (hyz : z + 37 ≤ y ∨ y + 37 ≤ z) {n : Nat} (hn : σ (y + 14) 1 = nI n) (hn2 : n ≤ 3) : CQ d mX5_become [.ref (z + 14), .ref (y + 14)] σ (fun τ => BC 14 15 15 n [1] σ τ y z) := by
  refine con_of (by decide) (catL rfl) (Nat.le_of_ble_eq_true rfl) ?_
  intro μ ω C hr
  have C : Cx μ ω "TowField$Planes" cX5_become 2 d := C
  have hr : (mH μ).sig.returnType = none := hr
  show G μ ω (RQ μ ω (pQ (fun τ => BC 14 15 15 n [1] σ τ y z))) 0 [some (.ref (z + 14)), some (.ref (y + 14))] [] (mk σ) 0 0
  refine g_al0n (pc := 0) C dX5_become_0 ?_
  refine g_al1n (pc := 1) C dX5_become_1 ?_
  refine s_getIv (pc := 2) (v := nI n) C fX5_13 (w14 hy) rfl (by first | exact hn | (simp (disch := omega) only [up_ne]; exact hn)) dX5_become_2 ?_
  refine s_putI (pc := 5) C pX5_13 (w14 hz) rfl dX5_become_5 ?_
  refine g_al1n (pc := 8) C dX5_become_8 ?_
  refine s_getR (pc := 9) C fX5_9 (w14 hy) rfl dX5_become_9 ?_
  refine g_iconst (pc := 12) (v := 0) C dX5_become_12 (by decide) ?_
  refine g_al0n (pc := 13) C dX5_become_13 ?_
  refine s_getR (pc := 14) C fX5_9 (w14 hz) rfl dX5_become_14 ?_
  refine g_iconst (pc := 17) (v := 0) C dX5_become_17 (by decide) ?_
  refine g_al0n (pc := 18) C dX5_become_18 ?_
  refine s_getIv (pc := 19) (v := nI n) C fX5_13 (w14 hz) rfl (by simp (disch := omega) only [up_ne, up_at, upd_ne, upd_at]) dX5_become_19 ?_
  refine s_cpy0 (pc := 22) (c := n) C (w15 hy) (w15 hz) rfl (by omega) (by omega) (Nat.le_of_ble_eq_true rfl) (Nat.le_of_ble_eq_true rfl) lX5_27 (by omega) (Nat.le_of_ble_eq_true rfl) rfl dX5_become_22 (fun t_22 hc_22 he_22 => ?_)
  refine r_Q C hr dX5_become_25 ⟨?_, ?_, ?_⟩
  · intro f hf
    rw [he_22 _ (by simp; try omega)]
    simp only [List.mem_cons, List.not_mem_nil, or_false] at hf
    subst hf
    simp (disch := omega) only [up_ne, up_at, upd_ne, upd_at]
    first | exact hn.symm | rfl
  · intro k h1 h2 j hj
    rcases (show k = 15 by omega) with rfl
    skip; rw [hc_22 j hj]; first | rfl | (simp (disch := omega) only [up_ne])
  · intro q hq
    rw [he_22 _ (by simp; try omega)]
    simp (disch := omega) only [up_ne]

theorem c_becL {d : Nat} (hd : 1 ≤ d) (σ : Sg) {y z : Nat} (hy : isW y) (hz : isW z) (hyz : z + 37 ≤ y ∨ y + 37 ≤ z) {n : Nat} (hn : σ (y + 16) 5 = nI n) (hn2 : n ≤ 6) : CQ d mX3_become [.ref (z + 16), .ref (y + 16)] σ (fun τ => BC 16 19 21 n [5] σ τ y z ∧ (∀ j, j < 6 → τ (z + 17) j = σ (y + 17) j) ∧ ∀ j, j < 4 → τ (z + 18) j = σ (y + 18) j) := by
  refine con_of (by decide) (catL rfl) (Nat.le_of_ble_eq_true rfl) ?_
  intro μ ω C hr
  have C : Cx μ ω "TowField$Lanes" cX3_become 2 d := C
  have hr : (mH μ).sig.returnType = none := hr
  show G μ ω (RQ μ ω (pQ (fun τ => BC 16 19 21 n [5] σ τ y z ∧ (∀ j, j < 6 → τ (z + 17) j = σ (y + 17) j) ∧ ∀ j, j < 4 → τ (z + 18) j = σ (y + 18) j))) 0 [some (.ref (z + 16)), some (.ref (y + 16))] [] (mk σ) 0 0
  refine g_al0n (pc := 0) C dX3_become_0 ?_
  refine g_al1n (pc := 1) C dX3_become_1 ?_
  refine s_getIv (pc := 2) (v := nI n) C fX3_25 (w16 hy) rfl (by first | exact hn | (simp (disch := omega) only [up_ne]; exact hn)) dX3_become_2 ?_
  refine s_putI (pc := 5) C pX3_25 (w16 hz) rfl dX3_become_5 ?_
  refine g_al1n (pc := 8) C dX3_become_8 ?_
  refine s_getR (pc := 9) C fX3_9 (w16 hy) rfl dX3_become_9 ?_
  refine g_iconst (pc := 12) (v := 0) C dX3_become_12 (by decide) ?_
  refine g_al0n (pc := 13) C dX3_become_13 ?_
  refine s_getR (pc := 14) C fX3_9 (w16 hz) rfl dX3_become_14 ?_
  refine g_iconst (pc := 17) (v := 0) C dX3_become_17 (by decide) ?_
  refine g_bipush (pc := 18) (v := 6) C dX3_become_18 (by decide) ?_
  refine s_cpy0 (pc := 20) (c := 6) C (w17 hy) (w17 hz) rfl (by omega) (by omega) (Nat.le_of_ble_eq_true rfl) (Nat.le_of_ble_eq_true rfl) lX3_39 (by omega) (Nat.le_of_ble_eq_true rfl) rfl dX3_become_20 (fun t_20 hc_20 he_20 => ?_)
  refine g_al1n (pc := 23) C dX3_become_23 ?_
  refine s_getR (pc := 24) C fX3_13 (w16 hy) rfl dX3_become_24 ?_
  refine g_iconst (pc := 27) (v := 0) C dX3_become_27 (by decide) ?_
  refine g_al0n (pc := 28) C dX3_become_28 ?_
  refine s_getR (pc := 29) C fX3_13 (w16 hz) rfl dX3_become_29 ?_
  refine g_iconst (pc := 32) (v := 0) C dX3_become_32 (by decide) ?_
  refine g_iconst (pc := 33) (v := 4) C dX3_become_33 (by decide) ?_
  refine s_cpy0 (pc := 34) (c := 4) C (w18 hy) (w18 hz) rfl (by omega) (by omega) (Nat.le_of_ble_eq_true rfl) (Nat.le_of_ble_eq_true rfl) lX3_39 (by omega) (Nat.le_of_ble_eq_true rfl) rfl dX3_become_34 (fun t_34 hc_34 he_34 => ?_)
  refine g_al1n (pc := 37) C dX3_become_37 ?_
  refine s_getR (pc := 38) C fX3_16 (w16 hy) rfl dX3_become_38 ?_
  refine g_iconst (pc := 41) (v := 0) C dX3_become_41 (by decide) ?_
  refine g_al0n (pc := 42) C dX3_become_42 ?_
  refine s_getR (pc := 43) C fX3_16 (w16 hz) rfl dX3_become_43 ?_
  refine g_iconst (pc := 46) (v := 0) C dX3_become_46 (by decide) ?_
  refine g_al0n (pc := 47) C dX3_become_47 ?_
  refine s_getIv (pc := 48) (v := nI n) C fX3_25 (w16 hz) rfl (by rw [he_34 _ (by simp; try omega), he_20 _ (by simp; try omega)]; simp (disch := omega) only [up_ne, up_at, upd_ne, upd_at]) dX3_become_48 ?_
  refine s_cpy0 (pc := 51) (c := n) C (w19 hy) (w19 hz) rfl (by omega) (by omega) (Nat.le_of_ble_eq_true rfl) (Nat.le_of_ble_eq_true rfl) lX3_39 (by omega) (Nat.le_of_ble_eq_true rfl) rfl dX3_become_51 (fun t_51 hc_51 he_51 => ?_)
  refine g_al1n (pc := 54) C dX3_become_54 ?_
  refine s_getR (pc := 55) C fX3_19 (w16 hy) rfl dX3_become_55 ?_
  refine g_iconst (pc := 58) (v := 0) C dX3_become_58 (by decide) ?_
  refine g_al0n (pc := 59) C dX3_become_59 ?_
  refine s_getR (pc := 60) C fX3_19 (w16 hz) rfl dX3_become_60 ?_
  refine g_iconst (pc := 63) (v := 0) C dX3_become_63 (by decide) ?_
  refine g_al0n (pc := 64) C dX3_become_64 ?_
  refine s_getIv (pc := 65) (v := nI n) C fX3_25 (w16 hz) rfl (by rw [he_51 _ (by simp; try omega), he_34 _ (by simp; try omega), he_20 _ (by simp; try omega)]; simp (disch := omega) only [up_ne, up_at, upd_ne, upd_at]) dX3_become_65 ?_
  refine s_cpy0 (pc := 68) (c := n) C (w20 hy) (w20 hz) rfl (by omega) (by omega) (Nat.le_of_ble_eq_true rfl) (Nat.le_of_ble_eq_true rfl) lX3_39 (by omega) (Nat.le_of_ble_eq_true rfl) rfl dX3_become_68 (fun t_68 hc_68 he_68 => ?_)
  refine g_al1n (pc := 71) C dX3_become_71 ?_
  refine s_getR (pc := 72) C fX3_22 (w16 hy) rfl dX3_become_72 ?_
  refine g_iconst (pc := 75) (v := 0) C dX3_become_75 (by decide) ?_
  refine g_al0n (pc := 76) C dX3_become_76 ?_
  refine s_getR (pc := 77) C fX3_22 (w16 hz) rfl dX3_become_77 ?_
  refine g_iconst (pc := 80) (v := 0) C dX3_become_80 (by decide) ?_
  refine g_al0n (pc := 81) C dX3_become_81 ?_
  refine s_getIv (pc := 82) (v := nI n) C fX3_25 (w16 hz) rfl (by rw [he_68 _ (by simp; try omega), he_51 _ (by simp; try omega), he_34 _ (by simp; try omega), he_20 _ (by simp; try omega)]; simp (disch := omega) only [up_ne, up_at, upd_ne, upd_at]) dX3_become_82 ?_
  refine s_cpy0 (pc := 85) (c := n) C (w21 hy) (w21 hz) rfl (by omega) (by omega) (Nat.le_of_ble_eq_true rfl) (Nat.le_of_ble_eq_true rfl) lX3_39 (by omega) (Nat.le_of_ble_eq_true rfl) rfl dX3_become_85 (fun t_85 hc_85 he_85 => ?_)
  refine r_Q C hr dX3_become_88 ⟨⟨?_, ?_, ?_⟩, ?_, ?_⟩
  · intro f hf
    rw [he_85 _ (by simp; try omega), he_68 _ (by simp; try omega), he_51 _ (by simp; try omega), he_34 _ (by simp; try omega), he_20 _ (by simp; try omega)]
    simp only [List.mem_cons, List.not_mem_nil, or_false] at hf
    subst hf
    simp (disch := omega) only [up_ne, up_at, upd_ne, upd_at]
    first | exact hn.symm | rfl
  · intro k h1 h2 j hj
    rcases (show k = 19 ∨ k = 20 ∨ k = 21 by omega) with rfl | rfl | rfl
    · rw [he_85 _ (by simp; try omega), he_68 _ (by simp; try omega)]; rw [hc_51 j hj, he_34 _ (by simp; try omega), he_20 _ (by simp; try omega)]; first | rfl | (simp (disch := omega) only [up_ne])
    · rw [he_85 _ (by simp; try omega)]; rw [hc_68 j hj, he_51 _ (by simp; try omega), he_34 _ (by simp; try omega), he_20 _ (by simp; try omega)]; first | rfl | (simp (disch := omega) only [up_ne])
    · skip; rw [hc_85 j hj, he_68 _ (by simp; try omega), he_51 _ (by simp; try omega), he_34 _ (by simp; try omega), he_20 _ (by simp; try omega)]; first | rfl | (simp (disch := omega) only [up_ne])
  · intro q hq
    rw [he_85 _ (by simp; try omega), he_68 _ (by simp; try omega), he_51 _ (by simp; try omega), he_34 _ (by simp; try omega), he_20 _ (by simp; try omega)]
    simp (disch := omega) only [up_ne]
  · intro j hj
    rw [he_85 _ (by simp; try omega), he_68 _ (by simp; try omega), he_51 _ (by simp; try omega), he_34 _ (by simp; try omega)]; rw [hc_20 j hj]; first | rfl | (simp (disch := omega) only [up_ne])
  · intro j hj
    rw [he_85 _ (by simp; try omega), he_68 _ (by simp; try omega), he_51 _ (by simp; try omega)]; rw [hc_34 j hj, he_20 _ (by simp; try omega)]; first | rfl | (simp (disch := omega) only [up_ne])

theorem c_becA {d : Nat} (hd : 1 ≤ d) (σ : Sg) {y z : Nat} (hy : isW y) (hz : isW z) (hyz : z + 37 ≤ y ∨ y + 37 ≤ z) {n : Nat} (hn : σ (y + 22) 12 = nI n) (hn2 : n ≤ 20) : CQ d mX0_become [.ref (z + 22), .ref (y + 22)] σ (fun τ => BC 22 23 34 n [12] σ τ y z) := by
  refine con_of (by decide) (catL rfl) (Nat.le_of_ble_eq_true rfl) ?_
  intro μ ω C hr
  have C : Cx μ ω "TowField$Asks" cX0_become 2 d := C
  have hr : (mH μ).sig.returnType = none := hr
  show G μ ω (RQ μ ω (pQ (fun τ => BC 22 23 34 n [12] σ τ y z))) 0 [some (.ref (z + 22)), some (.ref (y + 22))] [] (mk σ) 0 0
  refine g_al0n (pc := 0) C dX0_become_0 ?_
  refine g_al1n (pc := 1) C dX0_become_1 ?_
  refine s_getIv (pc := 2) (v := nI n) C fX0_46 (w22 hy) rfl (by first | exact hn | (simp (disch := omega) only [up_ne]; exact hn)) dX0_become_2 ?_
  refine s_putI (pc := 5) C pX0_46 (w22 hz) rfl dX0_become_5 ?_
  refine g_al1n (pc := 8) C dX0_become_8 ?_
  refine s_getR (pc := 9) C fX0_9 (w22 hy) rfl dX0_become_9 ?_
  refine g_iconst (pc := 12) (v := 0) C dX0_become_12 (by decide) ?_
  refine g_al0n (pc := 13) C dX0_become_13 ?_
  refine s_getR (pc := 14) C fX0_9 (w22 hz) rfl dX0_become_14 ?_
  refine g_iconst (pc := 17) (v := 0) C dX0_become_17 (by decide) ?_
  refine g_al0n (pc := 18) C dX0_become_18 ?_
  refine s_getIv (pc := 19) (v := nI n) C fX0_46 (w22 hz) rfl (by simp (disch := omega) only [up_ne, up_at, upd_ne, upd_at]) dX0_become_19 ?_
  refine s_cpy0 (pc := 22) (c := n) C (w23 hy) (w23 hz) rfl (by omega) (by omega) (Nat.le_of_ble_eq_true rfl) (Nat.le_of_ble_eq_true rfl) lX0_73 (by omega) (Nat.le_of_ble_eq_true rfl) rfl dX0_become_22 (fun t_22 hc_22 he_22 => ?_)
  refine g_al1n (pc := 25) C dX0_become_25 ?_
  refine s_getR (pc := 26) C fX0_13 (w22 hy) rfl dX0_become_26 ?_
  refine g_iconst (pc := 29) (v := 0) C dX0_become_29 (by decide) ?_
  refine g_al0n (pc := 30) C dX0_become_30 ?_
  refine s_getR (pc := 31) C fX0_13 (w22 hz) rfl dX0_become_31 ?_
  refine g_iconst (pc := 34) (v := 0) C dX0_become_34 (by decide) ?_
  refine g_al0n (pc := 35) C dX0_become_35 ?_
  refine s_getIv (pc := 36) (v := nI n) C fX0_46 (w22 hz) rfl (by rw [he_22 _ (by simp; try omega)]; simp (disch := omega) only [up_ne, up_at, upd_ne, upd_at]) dX0_become_36 ?_
  refine s_cpy0 (pc := 39) (c := n) C (w24 hy) (w24 hz) rfl (by omega) (by omega) (Nat.le_of_ble_eq_true rfl) (Nat.le_of_ble_eq_true rfl) lX0_73 (by omega) (Nat.le_of_ble_eq_true rfl) rfl dX0_become_39 (fun t_39 hc_39 he_39 => ?_)
  refine g_al1n (pc := 42) C dX0_become_42 ?_
  refine s_getR (pc := 43) C fX0_16 (w22 hy) rfl dX0_become_43 ?_
  refine g_iconst (pc := 46) (v := 0) C dX0_become_46 (by decide) ?_
  refine g_al0n (pc := 47) C dX0_become_47 ?_
  refine s_getR (pc := 48) C fX0_16 (w22 hz) rfl dX0_become_48 ?_
  refine g_iconst (pc := 51) (v := 0) C dX0_become_51 (by decide) ?_
  refine g_al0n (pc := 52) C dX0_become_52 ?_
  refine s_getIv (pc := 53) (v := nI n) C fX0_46 (w22 hz) rfl (by rw [he_39 _ (by simp; try omega), he_22 _ (by simp; try omega)]; simp (disch := omega) only [up_ne, up_at, upd_ne, upd_at]) dX0_become_53 ?_
  refine s_cpy0 (pc := 56) (c := n) C (w25 hy) (w25 hz) rfl (by omega) (by omega) (Nat.le_of_ble_eq_true rfl) (Nat.le_of_ble_eq_true rfl) lX0_73 (by omega) (Nat.le_of_ble_eq_true rfl) rfl dX0_become_56 (fun t_56 hc_56 he_56 => ?_)
  refine g_al1n (pc := 59) C dX0_become_59 ?_
  refine s_getR (pc := 60) C fX0_19 (w22 hy) rfl dX0_become_60 ?_
  refine g_iconst (pc := 63) (v := 0) C dX0_become_63 (by decide) ?_
  refine g_al0n (pc := 64) C dX0_become_64 ?_
  refine s_getR (pc := 65) C fX0_19 (w22 hz) rfl dX0_become_65 ?_
  refine g_iconst (pc := 68) (v := 0) C dX0_become_68 (by decide) ?_
  refine g_al0n (pc := 69) C dX0_become_69 ?_
  refine s_getIv (pc := 70) (v := nI n) C fX0_46 (w22 hz) rfl (by rw [he_56 _ (by simp; try omega), he_39 _ (by simp; try omega), he_22 _ (by simp; try omega)]; simp (disch := omega) only [up_ne, up_at, upd_ne, upd_at]) dX0_become_70 ?_
  refine s_cpy0 (pc := 73) (c := n) C (w26 hy) (w26 hz) rfl (by omega) (by omega) (Nat.le_of_ble_eq_true rfl) (Nat.le_of_ble_eq_true rfl) lX0_73 (by omega) (Nat.le_of_ble_eq_true rfl) rfl dX0_become_73 (fun t_73 hc_73 he_73 => ?_)
  refine g_al1n (pc := 76) C dX0_become_76 ?_
  refine s_getR (pc := 77) C fX0_22 (w22 hy) rfl dX0_become_77 ?_
  refine g_iconst (pc := 80) (v := 0) C dX0_become_80 (by decide) ?_
  refine g_al0n (pc := 81) C dX0_become_81 ?_
  refine s_getR (pc := 82) C fX0_22 (w22 hz) rfl dX0_become_82 ?_
  refine g_iconst (pc := 85) (v := 0) C dX0_become_85 (by decide) ?_
  refine g_al0n (pc := 86) C dX0_become_86 ?_
  refine s_getIv (pc := 87) (v := nI n) C fX0_46 (w22 hz) rfl (by rw [he_73 _ (by simp; try omega), he_56 _ (by simp; try omega), he_39 _ (by simp; try omega), he_22 _ (by simp; try omega)]; simp (disch := omega) only [up_ne, up_at, upd_ne, upd_at]) dX0_become_87 ?_
  refine s_cpy0 (pc := 90) (c := n) C (w27 hy) (w27 hz) rfl (by omega) (by omega) (Nat.le_of_ble_eq_true rfl) (Nat.le_of_ble_eq_true rfl) lX0_73 (by omega) (Nat.le_of_ble_eq_true rfl) rfl dX0_become_90 (fun t_90 hc_90 he_90 => ?_)
  refine g_al1n (pc := 93) C dX0_become_93 ?_
  refine s_getR (pc := 94) C fX0_25 (w22 hy) rfl dX0_become_94 ?_
  refine g_iconst (pc := 97) (v := 0) C dX0_become_97 (by decide) ?_
  refine g_al0n (pc := 98) C dX0_become_98 ?_
  refine s_getR (pc := 99) C fX0_25 (w22 hz) rfl dX0_become_99 ?_
  refine g_iconst (pc := 102) (v := 0) C dX0_become_102 (by decide) ?_
  refine g_al0n (pc := 103) C dX0_become_103 ?_
  refine s_getIv (pc := 104) (v := nI n) C fX0_46 (w22 hz) rfl (by rw [he_90 _ (by simp; try omega), he_73 _ (by simp; try omega), he_56 _ (by simp; try omega), he_39 _ (by simp; try omega), he_22 _ (by simp; try omega)]; simp (disch := omega) only [up_ne, up_at, upd_ne, upd_at]) dX0_become_104 ?_
  refine s_cpy0 (pc := 107) (c := n) C (w28 hy) (w28 hz) rfl (by omega) (by omega) (Nat.le_of_ble_eq_true rfl) (Nat.le_of_ble_eq_true rfl) lX0_73 (by omega) (Nat.le_of_ble_eq_true rfl) rfl dX0_become_107 (fun t_107 hc_107 he_107 => ?_)
  refine g_al1n (pc := 110) C dX0_become_110 ?_
  refine s_getR (pc := 111) C fX0_28 (w22 hy) rfl dX0_become_111 ?_
  refine g_iconst (pc := 114) (v := 0) C dX0_become_114 (by decide) ?_
  refine g_al0n (pc := 115) C dX0_become_115 ?_
  refine s_getR (pc := 116) C fX0_28 (w22 hz) rfl dX0_become_116 ?_
  refine g_iconst (pc := 119) (v := 0) C dX0_become_119 (by decide) ?_
  refine g_al0n (pc := 120) C dX0_become_120 ?_
  refine s_getIv (pc := 121) (v := nI n) C fX0_46 (w22 hz) rfl (by rw [he_107 _ (by simp; try omega), he_90 _ (by simp; try omega), he_73 _ (by simp; try omega), he_56 _ (by simp; try omega), he_39 _ (by simp; try omega), he_22 _ (by simp; try omega)]; simp (disch := omega) only [up_ne, up_at, upd_ne, upd_at]) dX0_become_121 ?_
  refine s_cpy0 (pc := 124) (c := n) C (w29 hy) (w29 hz) rfl (by omega) (by omega) (Nat.le_of_ble_eq_true rfl) (Nat.le_of_ble_eq_true rfl) lX0_73 (by omega) (Nat.le_of_ble_eq_true rfl) rfl dX0_become_124 (fun t_124 hc_124 he_124 => ?_)
  refine g_al1n (pc := 127) C dX0_become_127 ?_
  refine s_getR (pc := 128) C fX0_31 (w22 hy) rfl dX0_become_128 ?_
  refine g_iconst (pc := 131) (v := 0) C dX0_become_131 (by decide) ?_
  refine g_al0n (pc := 132) C dX0_become_132 ?_
  refine s_getR (pc := 133) C fX0_31 (w22 hz) rfl dX0_become_133 ?_
  refine g_iconst (pc := 136) (v := 0) C dX0_become_136 (by decide) ?_
  refine g_al0n (pc := 137) C dX0_become_137 ?_
  refine s_getIv (pc := 138) (v := nI n) C fX0_46 (w22 hz) rfl (by rw [he_124 _ (by simp; try omega), he_107 _ (by simp; try omega), he_90 _ (by simp; try omega), he_73 _ (by simp; try omega), he_56 _ (by simp; try omega), he_39 _ (by simp; try omega), he_22 _ (by simp; try omega)]; simp (disch := omega) only [up_ne, up_at, upd_ne, upd_at]) dX0_become_138 ?_
  refine s_cpy0 (pc := 141) (c := n) C (w30 hy) (w30 hz) rfl (by omega) (by omega) (Nat.le_of_ble_eq_true rfl) (Nat.le_of_ble_eq_true rfl) lX0_73 (by omega) (Nat.le_of_ble_eq_true rfl) rfl dX0_become_141 (fun t_141 hc_141 he_141 => ?_)
  refine g_al1n (pc := 144) C dX0_become_144 ?_
  refine s_getR (pc := 145) C fX0_34 (w22 hy) rfl dX0_become_145 ?_
  refine g_iconst (pc := 148) (v := 0) C dX0_become_148 (by decide) ?_
  refine g_al0n (pc := 149) C dX0_become_149 ?_
  refine s_getR (pc := 150) C fX0_34 (w22 hz) rfl dX0_become_150 ?_
  refine g_iconst (pc := 153) (v := 0) C dX0_become_153 (by decide) ?_
  refine g_al0n (pc := 154) C dX0_become_154 ?_
  refine s_getIv (pc := 155) (v := nI n) C fX0_46 (w22 hz) rfl (by rw [he_141 _ (by simp; try omega), he_124 _ (by simp; try omega), he_107 _ (by simp; try omega), he_90 _ (by simp; try omega), he_73 _ (by simp; try omega), he_56 _ (by simp; try omega), he_39 _ (by simp; try omega), he_22 _ (by simp; try omega)]; simp (disch := omega) only [up_ne, up_at, upd_ne, upd_at]) dX0_become_155 ?_
  refine s_cpy0 (pc := 158) (c := n) C (w31 hy) (w31 hz) rfl (by omega) (by omega) (Nat.le_of_ble_eq_true rfl) (Nat.le_of_ble_eq_true rfl) lX0_73 (by omega) (Nat.le_of_ble_eq_true rfl) rfl dX0_become_158 (fun t_158 hc_158 he_158 => ?_)
  refine g_al1n (pc := 161) C dX0_become_161 ?_
  refine s_getR (pc := 162) C fX0_37 (w22 hy) rfl dX0_become_162 ?_
  refine g_iconst (pc := 165) (v := 0) C dX0_become_165 (by decide) ?_
  refine g_al0n (pc := 166) C dX0_become_166 ?_
  refine s_getR (pc := 167) C fX0_37 (w22 hz) rfl dX0_become_167 ?_
  refine g_iconst (pc := 170) (v := 0) C dX0_become_170 (by decide) ?_
  refine g_al0n (pc := 171) C dX0_become_171 ?_
  refine s_getIv (pc := 172) (v := nI n) C fX0_46 (w22 hz) rfl (by rw [he_158 _ (by simp; try omega), he_141 _ (by simp; try omega), he_124 _ (by simp; try omega), he_107 _ (by simp; try omega), he_90 _ (by simp; try omega), he_73 _ (by simp; try omega), he_56 _ (by simp; try omega), he_39 _ (by simp; try omega), he_22 _ (by simp; try omega)]; simp (disch := omega) only [up_ne, up_at, upd_ne, upd_at]) dX0_become_172 ?_
  refine s_cpy0 (pc := 175) (c := n) C (w32 hy) (w32 hz) rfl (by omega) (by omega) (Nat.le_of_ble_eq_true rfl) (Nat.le_of_ble_eq_true rfl) lX0_73 (by omega) (Nat.le_of_ble_eq_true rfl) rfl dX0_become_175 (fun t_175 hc_175 he_175 => ?_)
  refine g_al1n (pc := 178) C dX0_become_178 ?_
  refine s_getR (pc := 179) C fX0_40 (w22 hy) rfl dX0_become_179 ?_
  refine g_iconst (pc := 182) (v := 0) C dX0_become_182 (by decide) ?_
  refine g_al0n (pc := 183) C dX0_become_183 ?_
  refine s_getR (pc := 184) C fX0_40 (w22 hz) rfl dX0_become_184 ?_
  refine g_iconst (pc := 187) (v := 0) C dX0_become_187 (by decide) ?_
  refine g_al0n (pc := 188) C dX0_become_188 ?_
  refine s_getIv (pc := 189) (v := nI n) C fX0_46 (w22 hz) rfl (by rw [he_175 _ (by simp; try omega), he_158 _ (by simp; try omega), he_141 _ (by simp; try omega), he_124 _ (by simp; try omega), he_107 _ (by simp; try omega), he_90 _ (by simp; try omega), he_73 _ (by simp; try omega), he_56 _ (by simp; try omega), he_39 _ (by simp; try omega), he_22 _ (by simp; try omega)]; simp (disch := omega) only [up_ne, up_at, upd_ne, upd_at]) dX0_become_189 ?_
  refine s_cpy0 (pc := 192) (c := n) C (w33 hy) (w33 hz) rfl (by omega) (by omega) (Nat.le_of_ble_eq_true rfl) (Nat.le_of_ble_eq_true rfl) lX0_73 (by omega) (Nat.le_of_ble_eq_true rfl) rfl dX0_become_192 (fun t_192 hc_192 he_192 => ?_)
  refine g_al1n (pc := 195) C dX0_become_195 ?_
  refine s_getR (pc := 196) C fX0_43 (w22 hy) rfl dX0_become_196 ?_
  refine g_iconst (pc := 199) (v := 0) C dX0_become_199 (by decide) ?_
  refine g_al0n (pc := 200) C dX0_become_200 ?_
  refine s_getR (pc := 201) C fX0_43 (w22 hz) rfl dX0_become_201 ?_
  refine g_iconst (pc := 204) (v := 0) C dX0_become_204 (by decide) ?_
  refine g_al0n (pc := 205) C dX0_become_205 ?_
  refine s_getIv (pc := 206) (v := nI n) C fX0_46 (w22 hz) rfl (by rw [he_192 _ (by simp; try omega), he_175 _ (by simp; try omega), he_158 _ (by simp; try omega), he_141 _ (by simp; try omega), he_124 _ (by simp; try omega), he_107 _ (by simp; try omega), he_90 _ (by simp; try omega), he_73 _ (by simp; try omega), he_56 _ (by simp; try omega), he_39 _ (by simp; try omega), he_22 _ (by simp; try omega)]; simp (disch := omega) only [up_ne, up_at, upd_ne, upd_at]) dX0_become_206 ?_
  refine s_cpy0 (pc := 209) (c := n) C (w34 hy) (w34 hz) rfl (by omega) (by omega) (Nat.le_of_ble_eq_true rfl) (Nat.le_of_ble_eq_true rfl) lX0_73 (by omega) (Nat.le_of_ble_eq_true rfl) rfl dX0_become_209 (fun t_209 hc_209 he_209 => ?_)
  refine r_Q C hr dX0_become_212 ⟨?_, ?_, ?_⟩
  · intro f hf
    rw [he_209 _ (by simp; try omega), he_192 _ (by simp; try omega), he_175 _ (by simp; try omega), he_158 _ (by simp; try omega), he_141 _ (by simp; try omega), he_124 _ (by simp; try omega), he_107 _ (by simp; try omega), he_90 _ (by simp; try omega), he_73 _ (by simp; try omega), he_56 _ (by simp; try omega), he_39 _ (by simp; try omega), he_22 _ (by simp; try omega)]
    simp only [List.mem_cons, List.not_mem_nil, or_false] at hf
    subst hf
    simp (disch := omega) only [up_ne, up_at, upd_ne, upd_at]
    first | exact hn.symm | rfl
  · intro k h1 h2 j hj
    rcases (show k = 23 ∨ k = 24 ∨ k = 25 ∨ k = 26 ∨ k = 27 ∨ k = 28 ∨ k = 29 ∨ k = 30 ∨ k = 31 ∨ k = 32 ∨ k = 33 ∨ k = 34 by omega) with rfl | rfl | rfl | rfl | rfl | rfl | rfl | rfl | rfl | rfl | rfl | rfl
    · rw [he_209 _ (by simp; try omega), he_192 _ (by simp; try omega), he_175 _ (by simp; try omega), he_158 _ (by simp; try omega), he_141 _ (by simp; try omega), he_124 _ (by simp; try omega), he_107 _ (by simp; try omega), he_90 _ (by simp; try omega), he_73 _ (by simp; try omega), he_56 _ (by simp; try omega), he_39 _ (by simp; try omega)]; rw [hc_22 j hj]; first | rfl | (simp (disch := omega) only [up_ne])
    · rw [he_209 _ (by simp; try omega), he_192 _ (by simp; try omega), he_175 _ (by simp; try omega), he_158 _ (by simp; try omega), he_141 _ (by simp; try omega), he_124 _ (by simp; try omega), he_107 _ (by simp; try omega), he_90 _ (by simp; try omega), he_73 _ (by simp; try omega), he_56 _ (by simp; try omega)]; rw [hc_39 j hj, he_22 _ (by simp; try omega)]; first | rfl | (simp (disch := omega) only [up_ne])
    · rw [he_209 _ (by simp; try omega), he_192 _ (by simp; try omega), he_175 _ (by simp; try omega), he_158 _ (by simp; try omega), he_141 _ (by simp; try omega), he_124 _ (by simp; try omega), he_107 _ (by simp; try omega), he_90 _ (by simp; try omega), he_73 _ (by simp; try omega)]; rw [hc_56 j hj, he_39 _ (by simp; try omega), he_22 _ (by simp; try omega)]; first | rfl | (simp (disch := omega) only [up_ne])
    · rw [he_209 _ (by simp; try omega), he_192 _ (by simp; try omega), he_175 _ (by simp; try omega), he_158 _ (by simp; try omega), he_141 _ (by simp; try omega), he_124 _ (by simp; try omega), he_107 _ (by simp; try omega), he_90 _ (by simp; try omega)]; rw [hc_73 j hj, he_56 _ (by simp; try omega), he_39 _ (by simp; try omega), he_22 _ (by simp; try omega)]; first | rfl | (simp (disch := omega) only [up_ne])
    · rw [he_209 _ (by simp; try omega), he_192 _ (by simp; try omega), he_175 _ (by simp; try omega), he_158 _ (by simp; try omega), he_141 _ (by simp; try omega), he_124 _ (by simp; try omega), he_107 _ (by simp; try omega)]; rw [hc_90 j hj, he_73 _ (by simp; try omega), he_56 _ (by simp; try omega), he_39 _ (by simp; try omega), he_22 _ (by simp; try omega)]; first | rfl | (simp (disch := omega) only [up_ne])
    · rw [he_209 _ (by simp; try omega), he_192 _ (by simp; try omega), he_175 _ (by simp; try omega), he_158 _ (by simp; try omega), he_141 _ (by simp; try omega), he_124 _ (by simp; try omega)]; rw [hc_107 j hj, he_90 _ (by simp; try omega), he_73 _ (by simp; try omega), he_56 _ (by simp; try omega), he_39 _ (by simp; try omega), he_22 _ (by simp; try omega)]; first | rfl | (simp (disch := omega) only [up_ne])
    · rw [he_209 _ (by simp; try omega), he_192 _ (by simp; try omega), he_175 _ (by simp; try omega), he_158 _ (by simp; try omega), he_141 _ (by simp; try omega)]; rw [hc_124 j hj, he_107 _ (by simp; try omega), he_90 _ (by simp; try omega), he_73 _ (by simp; try omega), he_56 _ (by simp; try omega), he_39 _ (by simp; try omega), he_22 _ (by simp; try omega)]; first | rfl | (simp (disch := omega) only [up_ne])
    · rw [he_209 _ (by simp; try omega), he_192 _ (by simp; try omega), he_175 _ (by simp; try omega), he_158 _ (by simp; try omega)]; rw [hc_141 j hj, he_124 _ (by simp; try omega), he_107 _ (by simp; try omega), he_90 _ (by simp; try omega), he_73 _ (by simp; try omega), he_56 _ (by simp; try omega), he_39 _ (by simp; try omega), he_22 _ (by simp; try omega)]; first | rfl | (simp (disch := omega) only [up_ne])
    · rw [he_209 _ (by simp; try omega), he_192 _ (by simp; try omega), he_175 _ (by simp; try omega)]; rw [hc_158 j hj, he_141 _ (by simp; try omega), he_124 _ (by simp; try omega), he_107 _ (by simp; try omega), he_90 _ (by simp; try omega), he_73 _ (by simp; try omega), he_56 _ (by simp; try omega), he_39 _ (by simp; try omega), he_22 _ (by simp; try omega)]; first | rfl | (simp (disch := omega) only [up_ne])
    · rw [he_209 _ (by simp; try omega), he_192 _ (by simp; try omega)]; rw [hc_175 j hj, he_158 _ (by simp; try omega), he_141 _ (by simp; try omega), he_124 _ (by simp; try omega), he_107 _ (by simp; try omega), he_90 _ (by simp; try omega), he_73 _ (by simp; try omega), he_56 _ (by simp; try omega), he_39 _ (by simp; try omega), he_22 _ (by simp; try omega)]; first | rfl | (simp (disch := omega) only [up_ne])
    · rw [he_209 _ (by simp; try omega)]; rw [hc_192 j hj, he_175 _ (by simp; try omega), he_158 _ (by simp; try omega), he_141 _ (by simp; try omega), he_124 _ (by simp; try omega), he_107 _ (by simp; try omega), he_90 _ (by simp; try omega), he_73 _ (by simp; try omega), he_56 _ (by simp; try omega), he_39 _ (by simp; try omega), he_22 _ (by simp; try omega)]; first | rfl | (simp (disch := omega) only [up_ne])
    · skip; rw [hc_209 j hj, he_192 _ (by simp; try omega), he_175 _ (by simp; try omega), he_158 _ (by simp; try omega), he_141 _ (by simp; try omega), he_124 _ (by simp; try omega), he_107 _ (by simp; try omega), he_90 _ (by simp; try omega), he_73 _ (by simp; try omega), he_56 _ (by simp; try omega), he_39 _ (by simp; try omega), he_22 _ (by simp; try omega)]; first | rfl | (simp (disch := omega) only [up_ne])
  · intro q hq
    rw [he_209 _ (by simp; try omega), he_192 _ (by simp; try omega), he_175 _ (by simp; try omega), he_158 _ (by simp; try omega), he_141 _ (by simp; try omega), he_124 _ (by simp; try omega), he_107 _ (by simp; try omega), he_90 _ (by simp; try omega), he_73 _ (by simp; try omega), he_56 _ (by simp; try omega), he_39 _ (by simp; try omega), he_22 _ (by simp; try omega)]
    simp (disch := omega) only [up_ne]

theorem become_RW {σ X : Sg} {y z : Nat} {ν : Nu} (hR : RW σ y ν) {n : Nat} (hM : MV σ y ν n) (h0 : ∀ f, 9 ≤ f → f ≤ 12 → X z f = σ y f) (h35 : ∀ j, j < 4 → X (z + 35) j = σ (y + 35) j) (h36 : ∀ j, j < 2 → X (z + 36) j = σ (y + 36) j)
    (g4 : X (z + 1) 4 = σ (y + 1) 4) (g5 : X (z + 1) 5 = σ (y + 1) 5) (gA : ∀ k, 2 ≤ k → k ≤ 5 → ∀ j, j < cnt ν 3 → X (z + k) j = σ (y + k) j)
    (p4 : X (z + 6) 4 = σ (y + 6) 4) (p5 : X (z + 6) 5 = σ (y + 6) 5) (pA : ∀ k, 7 ≤ k → k ≤ 10 → ∀ j, j < cnt ν 4 → X (z + k) j = σ (y + k) j)
    (w2 : X (z + 11) 2 = σ (y + 11) 2) (wA : ∀ k, 12 ≤ k → k ≤ 13 → ∀ j, j < 2 * cnt ν 5 → X (z + k) j = σ (y + k) j)
    (n1 : X (z + 14) 1 = σ (y + 14) 1) (nA : ∀ j, j < cnt ν 6 → X (z + 15) j = σ (y + 15) j)
    (l5 : X (z + 16) 5 = σ (y + 16) 5) (l17 : ∀ j, j < 6 → X (z + 17) j = σ (y + 17) j) (l18 : ∀ j, j < 4 → X (z + 18) j = σ (y + 18) j) (lA : ∀ k, 19 ≤ k → k ≤ 21 → ∀ j, j < n → X (z + k) j = σ (y + k) j)
    (a12 : X (z + 22) 12 = σ (y + 22) 12) (aA2 : ∀ k, 23 ≤ k → k ≤ 34 → ∀ j, j < cnt ν 7 → X (z + k) j = σ (y + k) j) (ht : ∀ k, 3 ≤ k → k ≤ 9 → X k = σ k) (n8 : cnt ν 8 ≤ 6) : RW X z ν := by
  obtain ⟨r1, r2, r3, r4, r5, r6⟩ := hR.r
  refine ⟨⟨by rw [g4]; exact hR.g.1, fun g hg => ?_⟩, ⟨by rw [p4]; exact hR.p.1, fun p hp => ?_⟩, ⟨fun g hg => by rw [g5]; exact hR.b.1 g hg, fun p hp => by rw [p5]; exact hR.b.2 p hp⟩, ⟨by rw [w2]; exact hR.w.1, fun p hp => ?_⟩, ⟨by rw [n1]; exact hR.n.1, fun p hp => by rw [nA p hp]; exact hR.n.2 p hp⟩, ⟨⟨fun k hk => by rw [l17 k hk]; exact hR.l.1.1 k hk, fun u hu => by rw [l18 u hu]; exact hR.l.1.2 u hu⟩, n, ?_⟩, ⟨by rw [a12]; exact hR.a.1, fun a ha => ?_⟩, ⟨by rw [h0 9 (by omega) (by omega)]; exact r1, by rw [h0 10 (by omega) (by omega)]; exact r2, by rw [h0 11 (by omega) (by omega)]; exact r3, by rw [h0 12 (by omega) (by omega)]; exact r4, fun i hi => by rw [h35 i hi]; exact r5 i hi, fun u hu => by rw [h36 u hu]; exact r6 u hu⟩, hR.t.mv ht n8 rfl (fun _ _ _ => rfl)⟩
  · rw [gA 2 (by omega) (by omega) g hg, gA 3 (by omega) (by omega) g hg, gA 4 (by omega) (by omega) g hg, gA 5 (by omega) (by omega) g hg]; exact hR.g.2 g hg
  · rw [pA 7 (by omega) (by omega) p hp, pA 8 (by omega) (by omega) p hp, pA 9 (by omega) (by omega) p hp, pA 10 (by omega) (by omega) p hp]; exact hR.p.2 p hp
  · rw [wA 12 (by omega) (by omega) p hp, wA 13 (by omega) (by omega) p hp]; exact hR.w.2 p hp
  · obtain ⟨m1, m2, m3, m4⟩ := hM
    refine ⟨l5.trans m1, fun i hi => ?_, fun i j hij hj => ?_, fun l hl hb2 => ?_⟩
    · rw [lA 19 (by omega) (by omega) i hi, lA 20 (by omega) (by omega) i hi, lA 21 (by omega) (by omega) i hi]; exact m2 i hi
    · rw [lA 19 (by omega) (by omega) i (by omega), lA 19 (by omega) (by omega) j hj]; exact m3 i j hij hj
    · obtain ⟨i, hi, e⟩ := m4 l hl hb2
      exact ⟨i, hi, by rw [lA 19 (by omega) (by omega) i hi]; exact e⟩
  · rw [aA2 23 (by omega) (by omega) a ha, aA2 24 (by omega) (by omega) a ha, aA2 25 (by omega) (by omega) a ha, aA2 26 (by omega) (by omega) a ha, aA2 27 (by omega) (by omega) a ha, aA2 28 (by omega) (by omega) a ha, aA2 29 (by omega) (by omega) a ha, aA2 30 (by omega) (by omega) a ha, aA2 31 (by omega) (by omega) a ha, aA2 32 (by omega) (by omega) a ha, aA2 33 (by omega) (by omega) a ha, aA2 34 (by omega) (by omega) a ha]; exact hR.a.2 a ha
theorem c_become {d : Nat} (hd : 2 ≤ d) (σ : Sg) {y z : Nat} (hy : isW y) (hz : isW z) (hyz : z + 37 ≤ y ∨ y + 37 ≤ z) {ν : Nu} (hI : INV ν) (hR : RW σ y ν) : CQ d mX10_become [.ref z, .ref y] σ (fun τ => RW τ z ν ∧ ∀ q, ¬ (z ≤ q ∧ q ≤ z + 36) → τ q = σ q) := by
  have hyy := isW_ge hy
  have hzz := isW_ge hz
  obtain ⟨n, hM⟩ := hR.l.2
  refine con_of (by decide) (catL rfl) (Nat.le_of_ble_eq_true rfl) ?_
  intro μ ω C hr
  have C : Cx μ ω "TowField$World" cX10_become 2 d := C
  have hr : (mH μ).sig.returnType = none := hr
  show G μ ω (RQ μ ω (pQ (fun τ => RW τ z ν ∧ ∀ q, ¬ (z ≤ q ∧ q ≤ z + 36) → τ q = σ q))) 0 [some (.ref z), some (.ref y)] [] (mk σ) 0 0
  refine g_al0n (pc := 0) C dX10_become_0 ?_
  refine g_al1n (pc := 1) C dX10_become_1 ?_
  refine s_getIv (pc := 2) (v := σ y 9) C fX10_60 (w0 hy) rfl (by first | rfl | (simp (disch := omega) only [up_ne])) dX10_become_2 ?_
  refine s_putI (pc := 5) C pX10_60 (w0 hz) rfl dX10_become_5 ?_
  refine g_al0n (pc := 8) C dX10_become_8 ?_
  refine g_al1n (pc := 9) C dX10_become_9 ?_
  refine s_getIv (pc := 10) (v := σ y 10) C fX10_64 (w0 hy) rfl (by first | rfl | (simp (disch := omega) only [up_ne])) dX10_become_10 ?_
  refine s_putI (pc := 13) C pX10_64 (w0 hz) rfl dX10_become_13 ?_
  refine g_al0n (pc := 16) C dX10_become_16 ?_
  refine g_al1n (pc := 17) C dX10_become_17 ?_
  refine s_getIv (pc := 18) (v := σ y 11) C fX10_67 (w0 hy) rfl (by first | rfl | (simp (disch := omega) only [up_ne])) dX10_become_18 ?_
  refine s_putI (pc := 21) C pX10_67 (w0 hz) rfl dX10_become_21 ?_
  refine g_al0n (pc := 24) C dX10_become_24 ?_
  refine g_al1n (pc := 25) C dX10_become_25 ?_
  refine s_getIv (pc := 26) (v := σ y 12) C fX10_70 (w0 hy) rfl (by first | rfl | (simp (disch := omega) only [up_ne])) dX10_become_26 ?_
  refine s_putI (pc := 29) C pX10_70 (w0 hz) rfl dX10_become_29 ?_
  refine g_al1n (pc := 32) C dX10_become_32 ?_
  refine s_getR (pc := 33) C fX10_51 (w0 hy) rfl dX10_become_33 ?_
  refine g_iconst (pc := 36) (v := 0) C dX10_become_36 (by decide) ?_
  refine g_al0n (pc := 37) C dX10_become_37 ?_
  refine s_getR (pc := 38) C fX10_51 (w0 hz) rfl dX10_become_38 ?_
  refine g_iconst (pc := 41) (v := 0) C dX10_become_41 (by decide) ?_
  refine g_iconst (pc := 42) (v := 4) C dX10_become_42 (by decide) ?_
  refine s_cpy0 (pc := 43) (c := 4) C (w35 hy) (w35 hz) rfl (by omega) (by omega) (Nat.le_of_ble_eq_true rfl) (Nat.le_of_ble_eq_true rfl) lX10_80 (by omega) (Nat.le_of_ble_eq_true rfl) rfl dX10_become_43 (fun t_43 hc_43 he_43 => ?_)
  refine g_al1n (pc := 46) C dX10_become_46 ?_
  refine s_getR (pc := 47) C fX10_57 (w0 hy) rfl dX10_become_47 ?_
  refine g_iconst (pc := 50) (v := 0) C dX10_become_50 (by decide) ?_
  refine g_al0n (pc := 51) C dX10_become_51 ?_
  refine s_getR (pc := 52) C fX10_57 (w0 hz) rfl dX10_become_52 ?_
  refine g_iconst (pc := 55) (v := 0) C dX10_become_55 (by decide) ?_
  refine g_iconst (pc := 56) (v := 2) C dX10_become_56 (by decide) ?_
  refine s_cpy0 (pc := 57) (c := 2) C (w36 hy) (w36 hz) rfl (by omega) (by omega) (Nat.le_of_ble_eq_true rfl) (Nat.le_of_ble_eq_true rfl) lX10_80 (by omega) (Nat.le_of_ble_eq_true rfl) rfl dX10_become_57 (fun t_57 hc_57 he_57 => ?_)
  have hS0 : ∀ q, ¬ (z ≤ q ∧ q ≤ z + 36) → t_57 q = σ q := fun q h => by rw [he_57 _ (by simp; omega), he_43 _ (by simp; omega)]; simp (disch := omega) only [up_ne]
  refine g_al0n (pc := 60) C dX10_become_60 ?_
  refine s_getR (pc := 61) C fX10_10 (w0 hz) rfl dX10_become_61 ?_
  refine g_al1n (pc := 64) C dX10_become_64 ?_
  refine s_getR (pc := 65) C fX10_10 (w0 hy) rfl dX10_become_65 ?_
  refine s_VQ (pc := 68) (st := []) C (w1 hz) rfl (c_becG (d := d - 1) (by omega) t_57 hy hz hyz (n := cnt ν 3) (by rw [hS0 _ (by omega)]; exact hR.n3 hI) hI.n3.2) (by omega) lX10_86 dX10_become_68 rfl (Nat.le_of_ble_eq_true rfl) rfl (fun s_g hq_g => ?_)
  have hS1 : ∀ q, ¬ (z ≤ q ∧ q ≤ z + 36) → s_g q = σ q := fun q h => (hq_g.2.2 q (by omega)).trans (hS0 q h)
  refine g_al0n (pc := 71) C dX10_become_71 ?_
  refine s_getR (pc := 72) C fX10_19 (w0 hz) rfl dX10_become_72 ?_
  refine g_al1n (pc := 75) C dX10_become_75 ?_
  refine s_getR (pc := 76) C fX10_19 (w0 hy) rfl dX10_become_76 ?_
  refine s_VQ (pc := 79) (st := []) C (w6 hz) rfl (c_becP (d := d - 1) (by omega) s_g hy hz hyz (n := cnt ν 4) (by rw [hS1 _ (by omega)]; exact hR.n4 hI) hI.n4.2) (by omega) lX10_90 dX10_become_79 rfl (Nat.le_of_ble_eq_true rfl) rfl (fun s_p hq_p => ?_)
  have hS2 : ∀ q, ¬ (z ≤ q ∧ q ≤ z + 36) → s_p q = σ q := fun q h => (hq_p.2.2 q (by omega)).trans (hS1 q h)
  refine g_al0n (pc := 82) C dX10_become_82 ?_
  refine s_getR (pc := 83) C fX10_26 (w0 hz) rfl dX10_become_83 ?_
  refine g_al1n (pc := 86) C dX10_become_86 ?_
  refine s_getR (pc := 87) C fX10_26 (w0 hy) rfl dX10_become_87 ?_
  refine s_VQ (pc := 90) (st := []) C (w11 hz) rfl (c_becW (d := d - 1) (by omega) s_p hy hz hyz (n := cnt ν 5) (by rw [hS2 _ (by omega)]; exact hR.n5 hI) hI.n5.2) (by omega) lX10_93 dX10_become_90 rfl (Nat.le_of_ble_eq_true rfl) rfl (fun s_w hq_w => ?_)
  have hS3 : ∀ q, ¬ (z ≤ q ∧ q ≤ z + 36) → s_w q = σ q := fun q h => (hq_w.2.2 q (by omega)).trans (hS2 q h)
  refine g_al0n (pc := 93) C dX10_become_93 ?_
  refine s_getR (pc := 94) C fX10_33 (w0 hz) rfl dX10_become_94 ?_
  refine g_al1n (pc := 97) C dX10_become_97 ?_
  refine s_getR (pc := 98) C fX10_33 (w0 hy) rfl dX10_become_98 ?_
  refine s_VQ (pc := 101) (st := []) C (w14 hz) rfl (c_becN (d := d - 1) (by omega) s_w hy hz hyz (n := cnt ν 6) (by rw [hS3 _ (by omega)]; exact hR.n6 hI) hI.n6.2) (by omega) lX10_96 dX10_become_101 rfl (Nat.le_of_ble_eq_true rfl) rfl (fun s_n hq_n => ?_)
  have hS4 : ∀ q, ¬ (z ≤ q ∧ q ≤ z + 36) → s_n q = σ q := fun q h => (hq_n.2.2 q (by omega)).trans (hS3 q h)
  refine g_al0n (pc := 104) C dX10_become_104 ?_
  refine s_getR (pc := 105) C fX10_40 (w0 hz) rfl dX10_become_105 ?_
  refine g_al1n (pc := 108) C dX10_become_108 ?_
  refine s_getR (pc := 109) C fX10_40 (w0 hy) rfl dX10_become_109 ?_
  refine s_VQ (pc := 112) (st := []) C (w16 hz) rfl (c_becL (d := d - 1) (by omega) s_n hy hz hyz (n := n) (by rw [hS4 _ (by omega)]; exact hM.1) (MV_le hM)) (by omega) lX10_99 dX10_become_112 rfl (Nat.le_of_ble_eq_true rfl) rfl (fun s_l hq_l => ?_)
  obtain ⟨hq_l, hq_17, hq_18⟩ := hq_l
  have hS5 : ∀ q, ¬ (z ≤ q ∧ q ≤ z + 36) → s_l q = σ q := fun q h => (hq_l.2.2 q (by omega)).trans (hS4 q h)
  refine g_al0n (pc := 115) C dX10_become_115 ?_
  refine s_getR (pc := 116) C fX10_47 (w0 hz) rfl dX10_become_116 ?_
  refine g_al1n (pc := 119) C dX10_become_119 ?_
  refine s_getR (pc := 120) C fX10_47 (w0 hy) rfl dX10_become_120 ?_
  refine s_VQ (pc := 123) (st := []) C (w22 hz) rfl (c_becA (d := d - 1) (by omega) s_l hy hz hyz (n := cnt ν 7) (by rw [hS5 _ (by omega)]; exact hR.n7 hI) hI.n7.2) (by omega) lX10_102 dX10_become_123 rfl (Nat.le_of_ble_eq_true rfl) rfl (fun s_a hq_a => ?_)
  have hS6 : ∀ q, ¬ (z ≤ q ∧ q ≤ z + 36) → s_a q = σ q := fun q h => (hq_a.2.2 q (by omega)).trans (hS5 q h)
  refine r_Q C hr dX10_become_126 ⟨become_RW hR hM ?_ ?_ ?_ ?_ ?_ ?_ ?_ ?_ ?_ ?_ ?_ ?_ ?_ ?_ ?_ ?_ ?_ ?_ ?_ (fun k h1 h2 => hS6 k (by omega)) hI.n8.2, hS6⟩
  · intro f h1 h2
    rw [hq_a.2.2 _ (by omega), hq_l.2.2 _ (by omega), hq_n.2.2 _ (by omega), hq_w.2.2 _ (by omega), hq_p.2.2 _ (by omega), hq_g.2.2 _ (by omega), he_57 _ (by simp), he_43 _ (by simp)]
    rcases (show f = 9 ∨ f = 10 ∨ f = 11 ∨ f = 12 by omega) with rfl | rfl | rfl | rfl <;> simp (disch := omega) only [up_at, upd_ne, upd_at]
  · intro j hj; rw [hq_a.2.2 _ (by omega), hq_l.2.2 _ (by omega), hq_n.2.2 _ (by omega), hq_w.2.2 _ (by omega), hq_p.2.2 _ (by omega), hq_g.2.2 _ (by omega), he_57 _ (by simp), hc_43 j hj]; simp (disch := omega) only [up_ne]
  · intro j hj; rw [hq_a.2.2 _ (by omega), hq_l.2.2 _ (by omega), hq_n.2.2 _ (by omega), hq_w.2.2 _ (by omega), hq_p.2.2 _ (by omega), hq_g.2.2 _ (by omega), hc_57 j hj, he_43 _ (by simp; omega)]; simp (disch := omega) only [up_ne]
  · rw [hq_a.2.2 _ (by omega), hq_l.2.2 _ (by omega), hq_n.2.2 _ (by omega), hq_w.2.2 _ (by omega), hq_p.2.2 _ (by omega)]; exact (hq_g.1 4 (by simp)).trans (by rw [hS0 _ (by omega)])
  · rw [hq_a.2.2 _ (by omega), hq_l.2.2 _ (by omega), hq_n.2.2 _ (by omega), hq_w.2.2 _ (by omega), hq_p.2.2 _ (by omega)]; exact (hq_g.1 5 (by simp)).trans (by rw [hS0 _ (by omega)])
  · intro k h1 h2 j hj; rw [hq_a.2.2 _ (by omega), hq_l.2.2 _ (by omega), hq_n.2.2 _ (by omega), hq_w.2.2 _ (by omega), hq_p.2.2 _ (by omega)]; exact (hq_g.2.1 k h1 h2 j hj).trans (by rw [hS0 _ (by omega)])
  · rw [hq_a.2.2 _ (by omega), hq_l.2.2 _ (by omega), hq_n.2.2 _ (by omega), hq_w.2.2 _ (by omega)]; exact (hq_p.1 4 (by simp)).trans (by rw [hS1 _ (by omega)])
  · rw [hq_a.2.2 _ (by omega), hq_l.2.2 _ (by omega), hq_n.2.2 _ (by omega), hq_w.2.2 _ (by omega)]; exact (hq_p.1 5 (by simp)).trans (by rw [hS1 _ (by omega)])
  · intro k h1 h2 j hj; rw [hq_a.2.2 _ (by omega), hq_l.2.2 _ (by omega), hq_n.2.2 _ (by omega), hq_w.2.2 _ (by omega)]; exact (hq_p.2.1 k h1 h2 j hj).trans (by rw [hS1 _ (by omega)])
  · rw [hq_a.2.2 _ (by omega), hq_l.2.2 _ (by omega), hq_n.2.2 _ (by omega)]; exact (hq_w.1 2 (by simp)).trans (by rw [hS2 _ (by omega)])
  · intro k h1 h2 j hj; rw [hq_a.2.2 _ (by omega), hq_l.2.2 _ (by omega), hq_n.2.2 _ (by omega)]; exact (hq_w.2.1 k h1 h2 j hj).trans (by rw [hS2 _ (by omega)])
  · rw [hq_a.2.2 _ (by omega), hq_l.2.2 _ (by omega)]; exact (hq_n.1 1 (by simp)).trans (by rw [hS3 _ (by omega)])
  · intro j hj; rw [hq_a.2.2 _ (by omega), hq_l.2.2 _ (by omega)]; exact (hq_n.2.1 15 (by omega) (by omega) j hj).trans (by rw [hS3 _ (by omega)])
  · rw [hq_a.2.2 _ (by omega)]; exact (hq_l.1 5 (by simp)).trans (by rw [hS4 _ (by omega)])
  · intro j hj; rw [hq_a.2.2 _ (by omega)]; exact (hq_17 j hj).trans (by rw [hS4 _ (by omega)])
  · intro j hj; rw [hq_a.2.2 _ (by omega)]; exact (hq_18 j hj).trans (by rw [hS4 _ (by omega)])
  · intro k h1 h2 j hj; rw [hq_a.2.2 _ (by omega)]; exact (hq_l.2.1 k h1 h2 j hj).trans (by rw [hS4 _ (by omega)])
  · exact (hq_a.1 12 (by simp)).trans (by rw [hS5 _ (by omega)])
  · intro k h1 h2 j hj; exact (hq_a.2.1 k h1 h2 j hj).trans (by rw [hS5 _ (by omega)])

