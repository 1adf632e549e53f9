/-! ===== the class: check, feed, share ===== -/
theorem tells_eq (ν : Nu) : jrem (wentV ν) 1000 + 10 * (wentV ν / 1000) = (minS ν).1 := by
  obtain ⟨a, b, ha, hb, e1, e2⟩ := went_ab ν
  rw [e1, e2, show jrem (nI (a + 1000 * b)) 1000 = nI ((a + 1000 * b) % 1000) from pk_rem (d := 1000) (by omega) (by decide) (by decide), show nI (a + 1000 * b) / 1000 = nI ((a + 1000 * b) / 1000) from pk_div (d := 1000) (by omega) (by decide) (by decide), show (10 : Int32) = nI 10 from rfl, pk_mul, nI_add]
  congr 1; omega
theorem bytes256 (x : Int32) : ∃ b, b < 256 ∧ x &&& 255 = nI b := by
  obtain ⟨j, hj, e⟩ := pk_andE x (m := 255) 8 (by decide)
  exact ⟨j, hj, e⟩
theorem lp_check {μ : Mx} {ω : Om} {d : Nat} (hd : 7 ≤ d) (C : Cx μ ω "TowField" cX11_check 7 d) (hr : (mH μ).sig.returnType = some .int) (σ : Sg) {α : Al} (hA : IA α) (hC : RC σ α) {j n : Nat} (hj : j < 4) (hz : aZ α j = nI n) (hn : n ≤ 24) {m0 : Nat} (hm0 : aN α 0 = nI m0) (hm9 : m0 ≤ 900) {y : Int32} (hB : BR (aN α) y) (Φ : Int32 → Sg → Prop) : ∀ (f i : Nat) (τ : Sg) (l5 : Option Value) (l6 : Option Value), i + f = n → (RW τ 86 (runS (aN α) i)) → (∀ k, (k < 86 ∨ 122 < k) → k ≠ 10 → k ≠ 11 → τ k = σ k) → (∀ t, (∀ k, (k < 86 ∨ 122 < k) → k ≠ 10 → k ≠ 11 → t k = σ k) → Φ (nI (chkS (aN α) (fun k => aU α (24 * j + k)) i f)) t) → G μ ω (RQ μ ω (pP Φ)) 66 [some (.ref 0), some (.int (nI j)), some (.int y), some (.int (nI n)), some (.int (nI i)), l5, l6] [] (mk τ) 0 0 := by
  intro f
  induction f with
  | zero =>
    intro i τ l5 l6 hif hv hv1 hv2
    have hin : i = n := by omega
    have hI := hA.i
    refine g_il4 (pc := 66) C dX11_check_66 ?_
    refine g_il3n (pc := 68) C dX11_check_68 ?_
    refine g_icmp_geL (pc := 69) (tgt := 126) C dX11_check_69 (by decide) (fun c_69 => ?_) (fun c_69 => absurd c_69 (nI_nlt (by omega) (by omega)))
    refine g_il3n (pc := 126) C dX11_check_126 ?_
    subst hin
    exact r_P C hr dX11_check_127 (hv2 τ hv1)
  | succ f ih =>
    intro i τ l5 l6 hif hv hv1 hv2
    have hI := hA.i
    have hk := KP_run hI hm0 i (by omega)
    refine g_il4 (pc := 66) C dX11_check_66 ?_
    refine g_il3n (pc := 68) C dX11_check_68 ?_
    refine g_icmp_geL (pc := 69) (tgt := 126) C dX11_check_69 (by decide) (fun c_69 => absurd (nI_lt (by omega) (by omega)) c_69) (fun c_69 => ?_)
    refine g_al0n (pc := 72) C dX11_check_72 ?_
    refine s_getR (pc := 73) C fX11_28 h0 rfl dX11_check_73 ?_
    refine g_il2n (pc := 76) C dX11_check_76 ?_
    refine s_VP (pc := 77) (st := []) C (w0 (b := 86) isW86) rfl (c_goMinute (d := d - 1) (by omega) τ isW86 (INV_run hI hm0 i (by omega)).1 hv (by rw [hk.2.2.2.1]; exact hA.x) (hB.kp hk hI.n7.2)) (by omega) lX11_265 dX11_check_77 rfl (Nat.le_of_ble_eq_true rfl) rfl (fun v τ2 hw => ?_)
    obtain ⟨hvv, hR2, hF2⟩ := hw
    refine g_is5 (pc := 80) C dX11_check_80 ?_
    refine g_il5 (pc := 82) C dX11_check_82 ?_
    refine g_sipush (pc := 84) (v := 1000) C dX11_check_84 (by decide) ?_
    refine g_irem (pc := 87) C dX11_check_87 (by decide) ?_
    refine g_bipush (pc := 88) (v := 10) C dX11_check_88 (by decide) ?_
    refine g_il5 (pc := 90) C dX11_check_90 ?_
    refine g_sipush (pc := 92) (v := 1000) C dX11_check_92 (by decide) ?_
    refine g_idiv (pc := 95) C dX11_check_95 (by decide) ?_
    refine g_imul (pc := 96) C dX11_check_96 ?_
    refine g_iadd (pc := 97) C dX11_check_97 ?_
    refine g_is6 (pc := 98) C dX11_check_98 ?_
    refine g_al0n (pc := 100) C dX11_check_100 ?_
    refine s_getR (pc := 101) C fX11_34 h0 rfl dX11_check_101 ?_
    refine s_getR (pc := 104) C fX11_268 h123 rfl dX11_check_104 ?_
    refine g_il1n (pc := 107) C dX11_check_107 ?_
    refine s_aald (pc := 108) (q := j) C h126 (by decide) rfl (rows4 j (by omega)) (by decide) dX11_check_108 ?_
    refine g_il4 (pc := 109) C dX11_check_109 ?_
    refine s_ialdv (pc := 111) (q := i) (v := aU α (24 * j + i)) C (sh24 (j := j) (by omega)) rfl (by omega) (Nat.le_of_ble_eq_true rfl) (by rw [hF2 _ (by omega) (by omega) (by omega), hv1 _ (by omega) (by omega) (by omega)]; exact hC.u0 hj (by rw [hz, nI_clamp (by omega)]; omega)) dX11_check_111 ?_
    refine g_il6 (pc := 112) C dX11_check_112 ?_
    refine g_icmp_eq (pc := 114) (tgt := 120) C dX11_check_114 (by decide) (fun c_114 => ?_) (fun c_114 => ?_)
    · refine g_ii4 (pc := 120) (v := nI (i + 1)) C dX11_check_120 (nI_inc1 _) ?_
      refine g_goto (pc := 123) (tgt := 66) C dX11_check_123 (by decide) ?_
      have hw2 : wentS (aN α) i = aU α (24 * j + i) := by
        unfold wentS
        rw [← tells_eq, ← hvv]; exact c_114.symm
      exact ih (i + 1) τ2 _ _ (by omega) hR2 (fun k h1 h2 h3 => (hF2 k (by omega) h2 h3).trans (hv1 k h1 h2 h3)) (fun t ht => by have := hv2 t ht; rw [chkS_s, if_pos hw2] at this; exact this)
    · refine g_il4 (pc := 117) C dX11_check_117 ?_
      have hw2 : ¬ wentS (aN α) i = aU α (24 * j + i) := by
        unfold wentS
        rw [← tells_eq, ← hvv]; exact fun q => c_114 q.symm
      exact r_P C hr dX11_check_119 (by have := hv2 τ2 (fun k h1 h2 h3 => (hF2 k (by omega) h2 h3).trans (hv1 k h1 h2 h3)); rw [chkS_s, if_neg hw2] at this; exact this)

theorem x_check {d : Nat} (hd : 7 ≤ d) (σ : Sg) {α : Al} (hA : IA α) (hC : RC σ α) (s : Int32) : CP d mX11_check [.ref 0, .int s] σ (XPo σ (sp_check α s)) := by
  have hI := hA.i
  have hR := hC.w
  obtain ⟨m0, hm9, hm0⟩ := hA.m
  refine con_of (by decide) (catL rfl) (Nat.le_of_ble_eq_true rfl) ?_
  intro μ ω C hr
  have C : Cx μ ω "TowField" cX11_check 7 d := C
  have hr : (mH μ).sig.returnType = some .int := hr
  show G μ ω (RQ μ ω (pP (XPo σ (sp_check α s)))) 0 [some (.ref 0), some (.int s), none, none, none, none, none] [] (mk σ) 0 0
  refine g_il1n (pc := 0) C dX11_check_0 ?_
  refine s_SB (pc := 1) (st := []) C (c_X6_has (d := d - 1) (by omega) σ s) (by omega) lX11_258 dX11_check_1 rfl (Nat.le_of_ble_eq_true rfl) rfl (fun b_1 => ?_) (fun b_1 => ?_)
  · obtain ⟨j, hj, rfl⟩ := rg b_1 (B := 3) (by decide)
    have kj : (nI j).toNatClampNeg = j := nI_clamp (by omega)
    refine g_if_ne (pc := 4) (tgt := 14) C dX11_check_4 (by decide) (fun _ => ?_) (fun c => absurd c (by decide))
    refine g_al0n (pc := 14) C dX11_check_14 ?_
    refine s_getR (pc := 15) C fX11_34 h0 rfl dX11_check_15 ?_
    refine s_getR (pc := 18) C fX11_259 h123 rfl dX11_check_18 ?_
    refine g_il1n (pc := 21) C dX11_check_21 ?_
    refine s_ialdv (pc := 22) (q := j) (v := aW α j) C h124 rfl (by omega) (Nat.le_of_ble_eq_true rfl) (hC.w0 (by omega)) dX11_check_22 ?_
    refine g_if_ne (pc := 23) (tgt := 34) C dX11_check_23 (by decide) (fun c_23 => ?_) (fun c_23 => ?_)
    · refine g_al0n (pc := 34) C dX11_check_34 ?_
      refine s_getR (pc := 35) C fX11_28 h0 rfl dX11_check_35 ?_
      refine g_al0n (pc := 38) C dX11_check_38 ?_
      refine s_getR (pc := 39) C fX11_21 h0 rfl dX11_check_39 ?_
      refine s_VQ (pc := 42) (st := []) C (w0 (b := 86) isW86) rfl (c_become (d := d - 1) (by omega) σ isW12 isW86 (by omega) hI hR) (by omega) lX11_251 dX11_check_42 rfl (Nat.le_of_ble_eq_true rfl) rfl (fun τ1 hw1 => ?_)
      obtain ⟨hR1, hq1⟩ := hw1
      refine g_al0n (pc := 45) C dX11_check_45 ?_
      refine s_getR (pc := 46) C fX11_28 h0 rfl dX11_check_46 ?_
      refine s_VP (pc := 49) (st := []) C (w0 (b := 86) isW86) rfl (c_barred (d := d - 1) (by omega) τ1 isW86 hI hR1) (by omega) lX11_210 dX11_check_49 rfl (Nat.le_of_ble_eq_true rfl) rfl (fun y τ2 hw2 => ?_)
      obtain ⟨hB, hE2⟩ := hw2
      obtain ⟨n, hn24, hz⟩ := hA.z j (by omega)
      refine g_is2n (pc := 52) C dX11_check_52 ?_
      refine g_al0n (pc := 53) C dX11_check_53 ?_
      refine s_getR (pc := 54) C fX11_34 h0 rfl dX11_check_54 ?_
      refine s_getR (pc := 57) C fX11_263 h123 rfl dX11_check_57 ?_
      refine g_il1n (pc := 60) C dX11_check_60 ?_
      refine s_ialdv (pc := 61) (q := j) (v := nI n) C h125 rfl (by omega) (Nat.le_of_ble_eq_true rfl) (by rw [hE2 _ (by simp), hq1 _ (by omega)]; exact (hC.z0 (by omega)).trans hz) dX11_check_61 ?_
      refine g_is3n (pc := 62) C dX11_check_62 ?_
      refine g_iconst (pc := 63) (v := 0) C dX11_check_63 (by decide) ?_
      refine g_is4 (pc := 64) C dX11_check_64 ?_
      exact lp_check (by omega) C hr σ hA hC (by omega) hz hn24 hm0 hm9 hB _ n 0 τ2 _ _ (by omega) (hR1.tx hI isW86 hE2) (fun k h1 h2 h3 => (hE2 _ (by simp; omega)).trans (hq1 _ (by omega))) (fun t ht => XPo_try hA hC ht (by simp only [sp_check, b_1, c_23, kj, hz, nI_clamp (show n < 2 ^ 31 by omega), eq_self, ne_eq, not_true_eq_false, not_false_eq_true, Classical.not_not, decide_true, decide_false, and_true, true_and, and_false, false_and, and_self, or_true, true_or, or_false, false_or, or_self, if_true, if_false, ite_true, ite_false, Bool.eq_false_iff, Bool.not_eq_eq_eq_not, Bool.true_eq_false, Bool.false_eq_true, reduceCtorEq]) rfl)
    · refine g_al0n (pc := 26) C dX11_check_26 ?_
      refine g_ldcw (pc := 27) C dX11_check_27 kX11_262 ?_
      refine s_VI (pc := 30) (st := []) C h0 rfl (c_found5 (d := d - 1) (by omega) σ) (by omega) lX11_58 dX11_check_30 rfl (Nat.le_of_ble_eq_true rfl) rfl ?_
      have hsp : sp_check α (nI j) = FM α := by simp only [sp_check, b_1, eq_true c_23, kj, eq_self, ne_eq, not_true_eq_false, not_false_eq_true, Classical.not_not, decide_true, decide_false, and_true, true_and, and_false, false_and, and_self, or_true, true_or, or_false, false_or, or_self, if_true, if_false, ite_true, ite_false, Bool.eq_false_iff, Bool.not_eq_eq_eq_not, Bool.true_eq_false, Bool.false_eq_true, reduceCtorEq]
      exact r_P C hr dX11_check_33 (by rw [hsp]; exact XPo_fnd hA hC (i := 5) (by decide) _)
  · refine g_if_ne (pc := 4) (tgt := 14) C dX11_check_4 (by decide) (fun c => absurd c (by decide)) (fun _ => ?_)
    refine g_al0n (pc := 7) C dX11_check_7 ?_
    refine g_ldc (pc := 8) C dX11_check_8 kX11_57 ?_
    refine s_VI (pc := 10) (st := []) C h0 rfl (c_found0 (d := d - 1) (by omega) σ) (by omega) lX11_58 dX11_check_10 rfl (Nat.le_of_ble_eq_true rfl) rfl ?_
    have hsp : sp_check α s = FB α := by simp only [sp_check, b_1, eq_self, ne_eq, not_true_eq_false, not_false_eq_true, Classical.not_not, decide_true, decide_false, and_true, true_and, and_false, false_and, and_self, or_true, true_or, or_false, false_or, or_self, if_true, if_false, ite_true, ite_false, Bool.eq_false_iff, Bool.not_eq_eq_eq_not, Bool.true_eq_false, Bool.false_eq_true, reduceCtorEq]
    exact r_P C hr dX11_check_13 (by rw [hsp]; exact XPo_fnd hA hC (i := 0) (by decide) _)

theorem c_tadd {d : Nat} (hd : 1 ≤ d) (σ : Sg) {t : Nat} (ht : σ 131 2 = nI t) (h1 : t < 100) (x : Int32) : CU d mX7_add [.ref 131, .int x] σ (up (up σ 132 t x) 131 2 (nI t + 1)) := by
  refine con_of (by decide) (catL rfl) (Nat.le_of_ble_eq_true rfl) ?_
  intro μ ω C hr
  have C : Cx μ ω "TowField$Tape" cX7_add 2 d := C
  have hr : (mH μ).sig.returnType = none := hr
  show G μ ω (RQ μ ω (pU (up (up σ 132 t x) 131 2 (nI t + 1)))) 0 [some (.ref 131), some (.int x)] [] (mk σ) 0 0
  refine g_al0n (pc := 0) C dX7_add_0 ?_
  refine s_getIv (pc := 1) (v := nI t) C fX7_18 h131 rfl (by first | exact ht | (simp (disch := omega) only [up_ne]; exact ht)) dX7_add_1 ?_
  refine g_bipush (pc := 4) (v := 100) C dX7_add_4 (by decide) ?_
  refine g_icmp_geL (pc := 6) (tgt := 29) C dX7_add_6 (by decide) (fun c_6 => absurd (nI_lt (b := 100) h1 (by decide)) c_6) (fun c_6 => ?_)
  refine g_al0n (pc := 9) C dX7_add_9 ?_
  refine s_getR (pc := 10) C fX7_9 h131 rfl dX7_add_10 ?_
  refine g_al0n (pc := 13) C dX7_add_13 ?_
  refine s_getIv (pc := 14) (v := nI t) C fX7_18 h131 rfl (by first | exact ht | (simp (disch := omega) only [up_ne]; exact ht)) dX7_add_14 ?_
  refine g_il1n (pc := 17) C dX7_add_17 ?_
  refine s_iast (pc := 18) (q := t) C h132 rfl (by omega) (Nat.le_of_ble_eq_true rfl) dX7_add_18 ?_
  refine g_al0n (pc := 19) C dX7_add_19 ?_
  refine g_dup (pc := 20) C dX7_add_20 rfl ?_
  refine s_getIv (pc := 21) (v := nI t) C fX7_18 h131 rfl (by first | exact ht | (simp (disch := omega) only [up_ne]; exact ht)) dX7_add_21 ?_
  refine g_iconst (pc := 24) (v := 1) C dX7_add_24 (by decide) ?_
  refine g_iadd (pc := 25) C dX7_add_25 ?_
  refine s_putI (pc := 26) C pX7_18 h131 rfl dX7_add_26 ?_
  exact r_U C hr dX7_add_29 rfl

theorem lp_feedX {μ : Mx} {ω : Om} {d : Nat} (hd : 2 ≤ d) (C : Cx μ ω "TowField" cX11_feed 4 d) (hr : (mH μ).sig.returnType = some .int) (σ : Sg) (b n : Int32) {N e : Nat} {T : Nu} (he : e ≤ 100) (Φ : Int32 → Sg → Prop) (hΦ : ∀ τ', τ' 132 = T → τ' 131 2 = nI e → Eqx [131, 132] σ τ' → Φ (nI e) τ') : ∀ (f i : Nat) (v : Int32) (t : Nat) (τ : Sg), i + f = N → (v = nI f - 1) → (τ 131 2 = nI t) → (t + f = e) → (fdT (τ 132) t b f = T) → (Eqx [131, 132] σ τ) → G μ ω (RQ μ ω (pP Φ)) 41 [some (.ref 0), some (.int b), some (.int n), some (.int v)] [] (mk τ) 0 0 := by
  intro f
  induction f with
  | zero =>
    intro i v t τ hif hv hv1 hv2 hv3 hv4
    have hin : i = N := by omega
    have hvv : v = -1 := hv.trans (by decide)
    subst hvv
    · refine g_il3n (pc := 41) C dX11_feed_41 ?_
      refine g_if_lt (pc := 42) (tgt := 68) C dX11_feed_42 (by decide) (fun _ => ?_) (fun c => absurd c (by decide))
      refine g_al0n (pc := 68) C dX11_feed_68 ?_
      refine s_getR (pc := 69) C fX11_41 h0 rfl dX11_feed_69 ?_
      refine s_getIv (pc := 72) (v := nI t) C fX11_222 h131 rfl hv1 dX11_feed_72 ?_
      obtain rfl : t = e := by omega
      exact r_P C hr dX11_feed_75 (hΦ τ hv3 hv1 hv4)
  | succ f ih =>
    intro i v t τ hif hv hv1 hv2 hv3 hv4
    have hvv : v = nI f := hv.trans (nI_pred f)
    subst hvv
    · refine g_il3n (pc := 41) C dX11_feed_41 ?_
      refine g_if_lt (pc := 42) (tgt := 68) C dX11_feed_42 (by decide) (fun c_42 => absurd c_42 (nI_pos (by omega))) (fun c_42 => ?_)
      refine g_al0n (pc := 45) C dX11_feed_45 ?_
      refine s_getR (pc := 46) C fX11_41 h0 rfl dX11_feed_46 ?_
      refine g_il1n (pc := 49) C dX11_feed_49 ?_
      refine g_bipush (pc := 50) (v := 8) C dX11_feed_50 (by decide) ?_
      refine g_il3n (pc := 52) C dX11_feed_52 ?_
      refine g_imul (pc := 53) C dX11_feed_53 ?_
      refine g_ishr (pc := 54) C dX11_feed_54 ?_
      refine g_sipush (pc := 55) (v := 255) C dX11_feed_55 (by decide) ?_
      refine g_iand (pc := 58) C dX11_feed_58 ?_
      refine s_VU (pc := 59) (st := []) C h131 rfl (c_tadd (d := d - 1) (by omega) τ (t := t) hv1 (by omega) ((b >>> ((8 * (nI f)) &&& 31)) &&& 255)) (by omega) lX11_223 dX11_feed_59 rfl (Nat.le_of_ble_eq_true rfl) rfl ?_
      refine g_ii3 (pc := 62) (v := (nI f) + (-1)) C dX11_feed_62 rfl ?_
      refine g_goto (pc := 65) (tgt := 41) C dX11_feed_65 (by decide) ?_
      exact ih (i + 1) _ (t + 1) _ (by omega) (Int32.sub_eq_add_neg _ _).symm (by rw [up_at, upd_at]; exact nI_1 t) (by omega) (by rw [up_ne _ _ _ (by decide), up_at]; exact hv3) (hv4.tr ((Eqx.up (by decide)).tr (Eqx.up (by decide))))

theorem x_feed {d : Nat} (hd : 3 ≤ d) (σ : Sg) {α : Al} (hA : IA α) (hC : RC σ α) (b n : Int32) : CP d mX11_feed [.ref 0, .int b, .int n] σ (XPo σ (sp_feed α b n)) := by
  have hI := hA.i
  have hR := hC.w
  obtain ⟨t, ht100, h6⟩ := hA.s
  refine con_of (by decide) (catL rfl) (Nat.le_of_ble_eq_true rfl) ?_
  intro μ ω C hr
  have C : Cx μ ω "TowField" cX11_feed 4 d := C
  have hr : (mH μ).sig.returnType = some .int := hr
  show G μ ω (RQ μ ω (pP (XPo σ (sp_feed α b n)))) 0 [some (.ref 0), some (.int b), some (.int n), none] [] (mk σ) 0 0
  refine g_il2n (pc := 0) C dX11_feed_0 ?_
  refine g_iconst (pc := 1) (v := 1) C dX11_feed_1 (by decide) ?_
  refine g_iconst (pc := 2) (v := 4) C dX11_feed_2 (by decide) ?_
  refine s_SB (pc := 3) (st := []) C (c_X11_within (d := d - 1) (by omega) σ n 1 4) (by omega) lX11_53 dX11_feed_3 rfl (Nat.le_of_ble_eq_true rfl) rfl (fun b_3 => ?_) (fun b_3 => ?_)
  · obtain ⟨j, hj, rfl⟩ := rgL b_3 (by decide) (B := 4) (by decide)
    have kj : (nI j).toNatClampNeg = j := nI_clamp (by omega)
    refine g_if_ne (pc := 6) (tgt := 16) C dX11_feed_6 (by decide) (fun _ => ?_) (fun c => absurd c (by decide))
    refine g_al0n (pc := 16) C dX11_feed_16 ?_
    refine s_getR (pc := 17) C fX11_41 h0 rfl dX11_feed_17 ?_
    refine s_getIv (pc := 20) (v := aS α) C fX11_222 h131 rfl hC.2.2.2.2.1.1 dX11_feed_20 ?_
    refine g_il2n (pc := 23) C dX11_feed_23 ?_
    refine g_iadd (pc := 24) C dX11_feed_24 ?_
    refine g_bipush (pc := 25) (v := 100) C dX11_feed_25 (by decide) ?_
    refine g_icmp_leL (pc := 27) (tgt := 37) C dX11_feed_27 (by decide) (fun c_27 => ?_) (fun c_27 => ?_)
    · refine g_il2n (pc := 37) C dX11_feed_37 ?_
      refine g_iconst (pc := 38) (v := 1) C dX11_feed_38 (by decide) ?_
      refine g_isub (pc := 39) C dX11_feed_39 ?_
      refine g_is3n (pc := 40) C dX11_feed_40 ?_
      have e6 : aS α + nI j = nI (t + j) := by rw [h6, nI_add]
      have kt : (aS α).toNatClampNeg = t := by rw [h6, nI_clamp (by omega)]
      have ht : t + j ≤ 100 := by rw [e6] at c_27; have := Int32.not_lt.mp c_27; exact (nI_leI (by omega) (by decide)).mp this
      exact lp_feedX (by omega) C hr σ b _ ht _ (fun τ' q1 q2 q4 => by
        have hsp : sp_feed α b (nI j) = (aS α + nI j, α.1, α.2.1, α.2.2.1, α.2.2.2.1, fdT (aT α) t b j, aS α + nI j, α.2.2.2.2.2.2) := by simp only [sp_feed, b_3, c_27, kj, kt, eq_self, ne_eq, not_true_eq_false, not_false_eq_true, Classical.not_not, decide_true, decide_false, and_true, true_and, and_false, false_and, and_self, or_true, true_or, or_false, false_or, or_self, if_true, if_false, ite_true, ite_false, Bool.eq_false_iff, Bool.not_eq_eq_eq_not, Bool.true_eq_false, Bool.false_eq_true, reduceCtorEq]
        rw [hsp, e6]
        exact ⟨rfl, RC_tape hA hC (fun k hk => q4 k (by simp; omega)) q2 (by rw [q1, hC.2.2.2.2.1.2]), fun k hk => q4 k (by simp; omega)⟩) j 0 _ t σ (Nat.zero_add j) rfl (hC.2.2.2.2.1.1.trans h6) rfl rfl Eqx.rf
    · refine g_al0n (pc := 30) C dX11_feed_30 ?_
      refine g_ldc (pc := 31) C dX11_feed_31 kX11_82 ?_
      refine s_VI (pc := 33) (st := []) C h0 rfl (c_found1 (d := d - 1) (by omega) σ) (by omega) lX11_58 dX11_feed_33 rfl (Nat.le_of_ble_eq_true rfl) rfl ?_
      have hsp : sp_feed α b (nI j) = FF α := by simp only [sp_feed, b_3, c_27, kj, eq_self, ne_eq, not_true_eq_false, not_false_eq_true, Classical.not_not, decide_true, decide_false, and_true, true_and, and_false, false_and, and_self, or_true, true_or, or_false, false_or, or_self, if_true, if_false, ite_true, ite_false, Bool.eq_false_iff, Bool.not_eq_eq_eq_not, Bool.true_eq_false, Bool.false_eq_true, reduceCtorEq]
      exact r_P C hr dX11_feed_36 (by rw [hsp]; exact XPo_fnd hA hC (i := 1) (by decide) _)
  · refine g_if_ne (pc := 6) (tgt := 16) C dX11_feed_6 (by decide) (fun c => absurd c (by decide)) (fun _ => ?_)
    refine g_al0n (pc := 9) C dX11_feed_9 ?_
    refine g_ldc (pc := 10) C dX11_feed_10 kX11_57 ?_
    refine s_VI (pc := 12) (st := []) C h0 rfl (c_found0 (d := d - 1) (by omega) σ) (by omega) lX11_58 dX11_feed_12 rfl (Nat.le_of_ble_eq_true rfl) rfl ?_
    have hsp : sp_feed α b n = FB α := by simp only [sp_feed, b_3, eq_self, ne_eq, not_true_eq_false, not_false_eq_true, Classical.not_not, decide_true, decide_false, and_true, true_and, and_false, false_and, and_self, or_true, true_or, or_false, false_or, or_self, if_true, if_false, ite_true, ite_false, Bool.eq_false_iff, Bool.not_eq_eq_eq_not, Bool.true_eq_false, Bool.false_eq_true, reduceCtorEq]
    exact r_P C hr dX11_feed_15 (by rw [hsp]; exact XPo_fnd hA hC (i := 0) (by decide) _)

theorem lp_part {μ : Mx} {ω : Om} {d : Nat} (hd : 2 ≤ d) (C : Cx μ ω "TowField$People" cX4_part 6 d) (hr : (mH μ).sig.returnType = some .int) (σ : Sg) {z : Nat} (hz : isW z) {ν : Nu} (hN : IN ν) {o : Nat} (ho : o < 2 ^ cnt ν 4) (s m : Int32) (hm : ¬ m = 0) : ∀ (f i : Nat) (w : Int32) (τ : Sg), i + f = cnt ν 4 → (w = (shr ν (nI o) s m i).2) → (RW τ z (shr ν (nI o) s m i).1) → (Fz z σ τ) → G μ ω (RQ μ ω (pP (fun v t => v = m ∧ RW t z (shr ν (nI o) s m (cnt ν 4)).1 ∧ Fz z σ t))) 19 [some (.ref (z + 6)), some (.int (nI o)), some (.int s), some (.int m), some (.int w), some (.int (nI i))] [] (mk τ) 0 0 := by
  intro f
  induction f with
  | zero =>
    intro i w τ hif hv hv1 hv2
    have hin : i = cnt ν 4 := by omega
    have h4 := hN.1.n4.2
    refine g_il5 (pc := 19) C dX4_part_19 ?_
    refine g_al0n (pc := 21) C dX4_part_21 ?_
    refine s_getIv (pc := 22) (v := nI (cnt ν 4)) C fX4_22 (w6 hz) rfl ((hv1.p.1.trans (shr_keep ν _ s m i (by omega) 4 (by omega))).trans hN.1.n4.1) dX4_part_22 ?_
    refine g_icmp_geL (pc := 25) (tgt := 70) C dX4_part_25 (by decide) (fun c_25 => ?_) (fun c_25 => absurd c_25 (nI_nlt (by omega) (by omega)))
    refine g_il3n (pc := 70) C dX4_part_70 ?_
    exact r_P C hr dX4_part_71 ⟨rfl, by rw [← hin]; exact hv1, hv2⟩
  | succ f ih =>
    intro i w τ hif hv hv1 hv2
    have h4 := hN.1.n4.2
    refine g_il5 (pc := 19) C dX4_part_19 ?_
    refine g_al0n (pc := 21) C dX4_part_21 ?_
    refine s_getIv (pc := 22) (v := nI (cnt ν 4)) C fX4_22 (w6 hz) rfl ((hv1.p.1.trans (shr_keep ν _ s m i (by omega) 4 (by omega))).trans hN.1.n4.1) dX4_part_22 ?_
    refine g_icmp_geL (pc := 25) (tgt := 70) C dX4_part_25 (by decide) (fun c_25 => absurd (nI_lt (by omega) (by omega)) c_25) (fun c_25 => ?_)
    refine g_il1n (pc := 28) C dX4_part_28 ?_
    refine g_il5 (pc := 29) C dX4_part_29 ?_
    refine s_NB (pc := 31) (st := []) C (c_hasBit (d := d - 1) (by omega) τ (nI o) (nI i)) (by omega) lX4_35 dX4_part_31 rfl (Nat.le_of_ble_eq_true rfl) rfl (fun b_31 => ?_) (fun b_31 => ?_)
    · refine g_if_eq (pc := 34) (tgt := 64) C dX4_part_34 (by decide) (fun c => absurd c (by decide)) (fun _ => ?_)
      refine g_al0n (pc := 37) C dX4_part_37 ?_
      refine s_getR (pc := 38) C fX4_19 (w6 hz) rfl dX4_part_38 ?_
      refine g_il5 (pc := 41) C dX4_part_41 ?_
      refine g_dup2 (pc := 43) C dX4_part_43 rfl rfl ?_
      refine s_ialdv (pc := 44) (q := i) (v := (shr ν (nI o) s m i).1 (90 + 4 * i + 3)) C (w10 hz) rfl (by omega) (Nat.le_of_ble_eq_true rfl) (hv1.p3 (by rw [cntE (shr_keep ν _ s m i (by omega) 4 (by omega))]; omega)) dX4_part_44 ?_
      refine g_il2n (pc := 45) C dX4_part_45 ?_
      refine g_il3n (pc := 46) C dX4_part_46 ?_
      refine g_idiv (pc := 47) C dX4_part_47 hm ?_
      refine g_il4 (pc := 48) C dX4_part_48 ?_
      refine g_if_leL (pc := 50) (tgt := 57) C dX4_part_50 (by decide) (fun c_50 => ?_) (fun c_50 => ?_)
      · refine g_iconst (pc := 57) (v := 0) C dX4_part_57 (by decide) ?_
        refine g_iadd (pc := 58) C dX4_part_58 ?_
        refine g_iadd (pc := 59) C dX4_part_59 ?_
        refine s_iast (pc := 60) (q := i) C (w10 hz) rfl (by omega) (Nat.le_of_ble_eq_true rfl) dX4_part_60 ?_
        refine g_ii4 (pc := 61) (v := w + (-1)) C dX4_part_61 rfl ?_
        refine g_ii5 (pc := 64) (v := nI (i + 1)) C dX4_part_64 (nI_inc1 _) ?_
        refine g_goto (pc := 67) (tgt := 19) C dX4_part_67 (by decide) ?_
        have hsn : shr ν (nI o) s m (i + 1) = (upd (shr ν (nI o) s m i).1 (90 + 4 * i + 3) ((shr ν (nI o) s m i).1 (90 + 4 * i + 3) + (s / m + 0)), w - 1) := by rw [shr_s, if_pos b_31, ← hv, if_neg c_50]
        have hNi : IN (shr ν (nI o) s m i).1 := IN_free hN (fun j hj => shr_keep ν _ s m i (by omega) j (by omega))
        exact ih (i + 1) _ _ (by omega) (by rw [hsn]; exact (Int32.sub_eq_add_neg _ _).symm) (by rw [hsn]; exact W_bill hz hNi.1 hv1 (by rw [cntE (shr_keep ν _ s m i (by omega) 4 (by omega))]; omega) _) (Fz.up (by omega) hv2)
      · refine g_iconst (pc := 53) (v := 1) C dX4_part_53 (by decide) ?_
        refine g_goto (pc := 54) (tgt := 58) C dX4_part_54 (by decide) ?_
        refine g_iadd (pc := 58) C dX4_part_58 ?_
        refine g_iadd (pc := 59) C dX4_part_59 ?_
        refine s_iast (pc := 60) (q := i) C (w10 hz) rfl (by omega) (Nat.le_of_ble_eq_true rfl) dX4_part_60 ?_
        refine g_ii4 (pc := 61) (v := w + (-1)) C dX4_part_61 rfl ?_
        refine g_ii5 (pc := 64) (v := nI (i + 1)) C dX4_part_64 (nI_inc1 _) ?_
        refine g_goto (pc := 67) (tgt := 19) C dX4_part_67 (by decide) ?_
        have hsn : shr ν (nI o) s m (i + 1) = (upd (shr ν (nI o) s m i).1 (90 + 4 * i + 3) ((shr ν (nI o) s m i).1 (90 + 4 * i + 3) + (s / m + 1)), w - 1) := by rw [shr_s, if_pos b_31, ← hv, if_pos c_50]
        have hNi : IN (shr ν (nI o) s m i).1 := IN_free hN (fun j hj => shr_keep ν _ s m i (by omega) j (by omega))
        exact ih (i + 1) _ _ (by omega) (by rw [hsn]; exact (Int32.sub_eq_add_neg _ _).symm) (by rw [hsn]; exact W_bill hz hNi.1 hv1 (by rw [cntE (shr_keep ν _ s m i (by omega) 4 (by omega))]; omega) _) (Fz.up (by omega) hv2)
    · refine g_if_eq (pc := 34) (tgt := 64) C dX4_part_34 (by decide) (fun _ => ?_) (fun c => absurd c (by decide))
      refine g_ii5 (pc := 64) (v := nI (i + 1)) C dX4_part_64 (nI_inc1 _) ?_
      refine g_goto (pc := 67) (tgt := 19) C dX4_part_67 (by decide) ?_
      have hsn : shr ν (nI o) s m (i + 1) = shr ν (nI o) s m i := by rw [shr_s, if_neg b_31]
      exact ih (i + 1) w τ (by omega) (by rw [hsn]; exact hv) (by rw [hsn]; exact hv1) hv2

theorem c_partX {d : Nat} (hd : 2 ≤ d) (σ : Sg) {z : Nat} (hz : isW z) {ν : Nu} (hN : IN ν) (hR : RW σ z ν) {o : Nat} (ho : o < 2 ^ cnt ν 4) (s m : Int32) (hm : ¬ m = 0) (hbc : bcK (nI o) = m) : CP d mX4_part [.ref (z + 6), .int (nI o), .int s] σ (fun v t => v = m ∧ RW t z (shr ν (nI o) s m (cnt ν 4)).1 ∧ Fz z σ t) := by
  refine con_of (by decide) (catL rfl) (Nat.le_of_ble_eq_true rfl) ?_
  intro μ ω C hr
  have C : Cx μ ω "TowField$People" cX4_part 6 d := C
  have hr : (mH μ).sig.returnType = some .int := hr
  show G μ ω (RQ μ ω (pP (fun v t => v = m ∧ RW t z (shr ν (nI o) s m (cnt ν 4)).1 ∧ Fz z σ t))) 0 [some (.ref (z + 6)), some (.int (nI o)), some (.int s), none, none, none] [] (mk σ) 0 0
  refine g_il1n (pc := 0) C dX4_part_0 ?_
  refine s_SI (pc := 1) (st := []) C (by have := c_bitCount (d := d - 1) (by omega) σ (nI o); rw [hbc] at this; exact this) (by omega) lX4_39 dX4_part_1 rfl (Nat.le_of_ble_eq_true rfl) rfl ?_
  refine g_is3n (pc := 4) C dX4_part_4 ?_
  refine g_il3n (pc := 5) C dX4_part_5 ?_
  refine g_if_ne (pc := 6) (tgt := 11) C dX4_part_6 (by decide) (fun c_6 => ?_) (fun c_6 => absurd c_6 hm)
  refine g_il2n (pc := 11) C dX4_part_11 ?_
  refine g_il3n (pc := 12) C dX4_part_12 ?_
  refine g_irem (pc := 13) C dX4_part_13 hm ?_
  refine g_is4 (pc := 14) C dX4_part_14 ?_
  refine g_iconst (pc := 16) (v := 0) C dX4_part_16 (by decide) ?_
  refine g_is5 (pc := 17) C dX4_part_17 ?_
  exact lp_part hd C hr σ hz hN ho s m hm (cnt ν 4) 0 _ σ (by omega) rfl hR Fz.rf

theorem x_share {d : Nat} (hd : 3 ≤ d) (σ : Sg) {α : Al} (hA : IA α) (hC : RC σ α) (g s : Int32) : CP d mX11_share [.ref 0, .int g, .int s] σ (XPo σ (sp_share α g s)) := by
  have hI := hA.i
  have hR := hC.w
  refine con_of (by decide) (catL rfl) (Nat.le_of_ble_eq_true rfl) ?_
  intro μ ω C hr
  have C : Cx μ ω "TowField" cX11_share 4 d := C
  have hr : (mH μ).sig.returnType = some .int := hr
  show G μ ω (RQ μ ω (pP (XPo σ (sp_share α g s)))) 0 [some (.ref 0), some (.int g), some (.int s), none] [] (mk σ) 0 0
  refine g_al0n (pc := 0) C dX11_share_0 ?_
  refine s_getR (pc := 1) C fX11_21 h0 rfl dX11_share_1 ?_
  refine s_getR (pc := 4) C fX11_72 (w0 (b := 12) isW12) rfl dX11_share_4 ?_
  refine g_il1n (pc := 7) C dX11_share_7 ?_
  refine s_VB (pc := 8) (st := []) C (w1 (b := 12) isW12) rfl (by have := c_hasX1 (d := d - 1) (by omega) σ isW12 g; rw [hR.g.1] at this; exact this) (by omega) lX11_108 dX11_share_8 rfl (Nat.le_of_ble_eq_true rfl) rfl (fun b_8 => ?_) (fun b_8 => ?_)
  · have hn3 := hI.n3.2
    obtain ⟨j, hj, rfl⟩ := (is_iff hI.n3.1 (by omega)).mp b_8
    have kj : (nI j).toNatClampNeg = j := nI_clamp (by omega)
    refine g_if_eq (pc := 11) (tgt := 25) C dX11_share_11 (by decide) (fun c => absurd c (by decide)) (fun _ => ?_)
    refine g_il2n (pc := 14) C dX11_share_14 ?_
    refine g_iconst (pc := 15) (v := 0) C dX11_share_15 (by decide) ?_
    refine g_sipush (pc := 16) (v := 9999) C dX11_share_16 (by decide) ?_
    refine s_SB (pc := 19) (st := []) C (c_X11_within (d := d - 1) (by omega) σ s 0 9999) (by omega) lX11_53 dX11_share_19 rfl (Nat.le_of_ble_eq_true rfl) rfl (fun b_19 => ?_) (fun b_19 => ?_)
    · refine g_if_ne (pc := 22) (tgt := 32) C dX11_share_22 (by decide) (fun _ => ?_) (fun c => absurd c (by decide))
      obtain ⟨o, ho, eo⟩ := hI.2.2.2.2.1 j hj
      have hn4 := hI.n4.2
      have ho14 : o < 2 ^ 14 := Nat.lt_of_lt_of_le ho (Nat.pow_le_pow_right (by decide) hn4)
      have eo2 : aN α (50 + 4 * j + 3) = nI o := eo
      refine g_al0n (pc := 32) C dX11_share_32 ?_
      refine s_getR (pc := 33) C fX11_21 h0 rfl dX11_share_33 ?_
      refine s_getR (pc := 36) C fX11_72 (w0 (b := 12) isW12) rfl dX11_share_36 ?_
      refine s_getR (pc := 39) C fX11_272 (w1 (b := 12) isW12) rfl dX11_share_39 ?_
      refine g_il1n (pc := 42) C dX11_share_42 ?_
      refine s_ialdv (pc := 43) (q := j) (v := nI o) C (w5 (b := 12) isW12) rfl (by omega) (Nat.le_of_ble_eq_true rfl) ((hR.g3 hj).trans eo) dX11_share_43 ?_
      refine g_is3n (pc := 44) C dX11_share_44 ?_
      refine g_il3n (pc := 45) C dX11_share_45 ?_
      refine g_if_ne (pc := 46) (tgt := 56) C dX11_share_46 (by decide) (fun c_46 => ?_) (fun c_46 => ?_)
      · have hm : ¬ sumL (bitf (nI o)) 14 = 0 := fun q => c_46 ((pop_0 ho14).mpr q)
        refine g_al0n (pc := 56) C dX11_share_56 ?_
        refine s_getR (pc := 57) C fX11_21 h0 rfl dX11_share_57 ?_
        refine s_getR (pc := 60) C fX11_62 (w0 (b := 12) isW12) rfl dX11_share_60 ?_
        refine g_il3n (pc := 63) C dX11_share_63 ?_
        refine g_il2n (pc := 64) C dX11_share_64 ?_
        refine s_VP (pc := 65) (st := []) C (w6 (b := 12) isW12) rfl (c_partX (d := d - 1) (by omega) σ isW12 hA.1 hR ho _ _ hm (bcK_14 ho14)) (by omega) lX11_275 dX11_share_65 rfl (Nat.le_of_ble_eq_true rfl) rfl (fun v τ hw => ?_)
        obtain ⟨hv, hR2, hF2⟩ := hw
        rw [← shr_hi (aN α) s _ ho 14 hn4 (by decide)] at hR2
        have hsp : sp_share α (nI j) s = (sumL (bitf (nI o)) 14, sN α (shr (aN α) (nI o) s (sumL (bitf (nI o)) 14) 14).1) := by simp only [sp_share, b_8, b_19, c_46, kj, eo2, hm, eq_self, ne_eq, not_true_eq_false, not_false_eq_true, Classical.not_not, decide_true, decide_false, and_true, true_and, and_false, false_and, and_self, or_true, true_or, or_false, false_or, or_self, if_true, if_false, ite_true, ite_false, Bool.eq_false_iff, Bool.not_eq_eq_eq_not, Bool.true_eq_false, Bool.false_eq_true, reduceCtorEq]
        exact r_P C hr dX11_share_68 (XPo_now hA hC hR2 hF2 hsp hv)
      · refine g_al0n (pc := 49) C dX11_share_49 ?_
        refine g_ldc (pc := 50) C dX11_share_50 kX11_244 ?_
        refine s_VI (pc := 52) (st := []) C h0 rfl (c_found3 (d := d - 1) (by omega) σ) (by omega) lX11_58 dX11_share_52 rfl (Nat.le_of_ble_eq_true rfl) rfl ?_
        have hm : sumL (bitf (nI o)) 14 = 0 := (pop_0 ho14).mp c_46
        have hsp : sp_share α (nI j) s = FN α := by simp only [sp_share, b_8, b_19, eq_true c_46, kj, eo2, hm, eq_self, ne_eq, not_true_eq_false, not_false_eq_true, Classical.not_not, decide_true, decide_false, and_true, true_and, and_false, false_and, and_self, or_true, true_or, or_false, false_or, or_self, if_true, if_false, ite_true, ite_false, Bool.eq_false_iff, Bool.not_eq_eq_eq_not, Bool.true_eq_false, Bool.false_eq_true, reduceCtorEq]
        exact r_P C hr dX11_share_55 (by rw [hsp]; exact XPo_fnd hA hC (i := 3) (by decide) _)
    · refine g_if_ne (pc := 22) (tgt := 32) C dX11_share_22 (by decide) (fun c => absurd c (by decide)) (fun _ => ?_)
      refine g_al0n (pc := 25) C dX11_share_25 ?_
      refine g_ldc (pc := 26) C dX11_share_26 kX11_57 ?_
      refine s_VI (pc := 28) (st := []) C h0 rfl (c_found0 (d := d - 1) (by omega) σ) (by omega) lX11_58 dX11_share_28 rfl (Nat.le_of_ble_eq_true rfl) rfl ?_
      have hsp : sp_share α (nI j) s = FB α := by simp only [sp_share, b_8, b_19, kj, eq_self, ne_eq, not_true_eq_false, not_false_eq_true, Classical.not_not, decide_true, decide_false, and_true, true_and, and_false, false_and, and_self, or_true, true_or, or_false, false_or, or_self, if_true, if_false, ite_true, ite_false, Bool.eq_false_iff, Bool.not_eq_eq_eq_not, Bool.true_eq_false, Bool.false_eq_true, reduceCtorEq]
      exact r_P C hr dX11_share_31 (by rw [hsp]; exact XPo_fnd hA hC (i := 0) (by decide) _)
  · refine g_if_eq (pc := 11) (tgt := 25) C dX11_share_11 (by decide) (fun _ => ?_) (fun c => absurd c (by decide))
    refine g_al0n (pc := 25) C dX11_share_25 ?_
    refine g_ldc (pc := 26) C dX11_share_26 kX11_57 ?_
    refine s_VI (pc := 28) (st := []) C h0 rfl (c_found0 (d := d - 1) (by omega) σ) (by omega) lX11_58 dX11_share_28 rfl (Nat.le_of_ble_eq_true rfl) rfl ?_
    have hsp : sp_share α g s = FB α := by simp only [sp_share, b_8, eq_self, ne_eq, not_true_eq_false, not_false_eq_true, Classical.not_not, decide_true, decide_false, and_true, true_and, and_false, false_and, and_self, or_true, true_or, or_false, false_or, or_self, if_true, if_false, ite_true, ite_false, Bool.eq_false_iff, Bool.not_eq_eq_eq_not, Bool.true_eq_false, Bool.false_eq_true, reduceCtorEq]
    exact r_P C hr dX11_share_31 (by rw [hsp]; exact XPo_fnd hA hC (i := 0) (by decide) _)

