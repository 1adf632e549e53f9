/-! ===== the class: text ===== -/
theorem sh100 {j : Nat} (hj : j < 6) : SH[3 + j]? = some (.inl 100) := by
  rcases (show j = 0 ∨ j = 1 ∨ j = 2 ∨ j = 3 ∨ j = 4 ∨ j = 5 by omega) with rfl | rfl | rfl | rfl | rfl | rfl
  · exact h3
  · exact h4
  · exact h5
  · exact h6
  · exact h7
  · exact h8
theorem rows6 : ∀ j, j < 6 → [3, 4, 5, 6, 7, 8][j]? = some (3 + j) := by decide
theorem c_tput {d : Nat} (hd : 1 ≤ d) (σ : Sg) {c n : Nat} (hc : c < 6) (hn : n ≤ 100) : CQ d mX8_put [.ref 1, .int (nI c), .ref 133, .int (nI n)] σ (fun τ => (∀ j, j < n → τ (3 + c) j = σ 133 j) ∧ τ 9 c = nI n ∧ (∀ j, j ≠ c → τ 9 j = σ 9 j) ∧ Eqx [3 + c, 9] σ τ) := by
  refine con_of (by decide) (catL rfl) (Nat.le_of_ble_eq_true rfl) ?_
  intro μ ω C hr
  have C : Cx μ ω "TowField$Texts" cX8_put 4 d := C
  have hr : (mH μ).sig.returnType = none := hr
  show G μ ω (RQ μ ω (pQ (fun τ => (∀ j, j < n → τ (3 + c) j = σ 133 j) ∧ τ 9 c = nI n ∧ (∀ j, j ≠ c → τ 9 j = σ 9 j) ∧ Eqx [3 + c, 9] σ τ))) 0 [some (.ref 1), some (.int (nI c)), some (.ref 133), some (.int (nI n))] [] (mk σ) 0 0
  refine g_al2n (pc := 0) C dX8_put_0 ?_
  refine g_iconst (pc := 1) (v := 0) C dX8_put_1 (by decide) ?_
  refine g_al0n (pc := 2) C dX8_put_2 ?_
  refine s_getR (pc := 3) C fX8_13 h1 rfl dX8_put_3 ?_
  refine g_il1n (pc := 6) C dX8_put_6 ?_
  refine s_aald (pc := 7) (q := c) C h2 (by decide) rfl (rows6 c (by omega)) (by decide) dX8_put_7 ?_
  refine g_iconst (pc := 8) (v := 0) C dX8_put_8 (by decide) ?_
  refine g_il3n (pc := 9) C dX8_put_9 ?_
  refine s_cpy0 (pc := 10) (c := n) C h133 (sh100 (j := c) (by omega)) rfl (by omega) (by omega) (Nat.le_of_ble_eq_true rfl) (Nat.le_of_ble_eq_true rfl) lX8_26 (by omega) (Nat.le_of_ble_eq_true rfl) rfl dX8_put_10 (fun t_10 hc_10 he_10 => ?_)
  refine g_al0n (pc := 13) C dX8_put_13 ?_
  refine s_getR (pc := 14) C fX8_16 h1 rfl dX8_put_14 ?_
  refine g_il1n (pc := 17) C dX8_put_17 ?_
  refine g_il3n (pc := 18) C dX8_put_18 ?_
  refine s_iast (pc := 19) (q := c) C h9 rfl (by omega) (Nat.le_of_ble_eq_true rfl) dX8_put_19 ?_
  exact r_Q C hr dX8_put_20 ⟨fun j hj => by rw [up_ne _ _ _ (by omega)]; exact hc_10 j hj, by rw [up_at, upd_at], fun j hj => by rw [up_at, upd_ne _ _ hj, he_10 9 (by simp; omega)], fun k hk => by rw [up_ne _ _ _ (fun z => hk (by simp [z]))]; exact he_10 k (fun z => hk (by simp at z; simp [z]))⟩

/-- a text was put down -/
theorem XPo_text {σ τ υ : Sg} {α : Al} {n q c k : Nat} {s : List Int32} (hA : IA α) (hC : RC σ α) (hk : k < 2) (hc : cnt (aN α) 8 = c) (hc6 : c < 6) (hg : GC 100 s) (hS : CS σ n q s τ) (p1 : ∀ j, j < s.length → υ (3 + c) j = up τ 131 2 0 133 j) (p2 : υ 9 c = nI s.length) (p3 : ∀ j, j ≠ c → υ 9 j = up τ 131 2 0 9 j) (p4 : Eqx [3 + c, 9] (up τ 131 2 0) υ) : XPo σ (nI c, sN (wipA α) (textS (aN α) (nI k) s)) (nI c) (up (up υ 12 12 (nI c + 1)) 48 k (nI c)) := by
  have hq0 : ∀ j, j ≠ 131 → j ≠ 133 → up τ 131 2 0 j = σ j := fun j h1 h2 => by rw [up_ne _ _ _ h1]; exact hS.fr j (by simp; omega)
  have hq1 : ∀ j, j ≠ 131 → j ≠ 133 → j ≠ 3 + c → j ≠ 9 → υ j = σ j := fun j h1 h2 h3 h4 => (p4 j (by simp; omega)).trans (hq0 j h1 h2)
  have hq : ∀ j, j ≠ 131 → j ≠ 133 → j ≠ 3 + c → j ≠ 9 → j ≠ 12 → j ≠ 48 → up (up υ 12 12 (nI c + 1)) 48 k (nI c) j = σ j := fun j h1 h2 h3 h4 h5 h6 => by rw [up_ne _ _ _ h6, up_ne _ _ _ h5]; exact hq1 j h1 h2 h3 h4
  have a9 : ∀ j, up (up υ 12 12 (nI c + 1)) 48 k (nI c) 9 j = υ 9 j := fun j => by rw [up_ne _ _ _ (by decide), up_ne _ _ _ (by decide)]
  have b9 : ∀ j, j ≠ c → up (up υ 12 12 (nI c + 1)) 48 k (nI c) 9 j = σ 9 j := fun j hj => by rw [a9, p3 j hj, hq0 9 (by decide) (by decide)]
  have hql : ∀ j, j ≠ 3 + c → j ≠ 9 → j ≠ 12 → j ≠ 48 → j < 123 → up (up υ 12 12 (nI c + 1)) 48 k (nI c) j = σ j := fun j h1 h2 h3 h4 h5 => hq j (by omega) (by omega) h1 h2 h3 h4
  obtain ⟨r1, r2, r3, r4, r5, r6⟩ := id hC
  refine ⟨rfl, ⟨W_text hA.1 hC.w hc hc6 hk rfl hg (fun j hj => ?_) (by rw [a9]; exact p2) b9 (by rw [up_ne _ _ _ (by decide), up_at, upd_at]; exact nI_1 c) (fun j hj => ?_) (by rw [up_at, upd_at]) (fun j hj => ?_) hql, fun z => W_keep (hA.2.1 z).1 (r2 z) (show cnt (aK α) 8 ≤ c by have := (hA.2.1 z).2; omega) b9 hql hc6, ?_, fun i hi => ?_, ⟨?_, ?_⟩, fun v hv => ?_⟩, fun j hj => hq j (by omega) (by omega) (by omega) (by omega) (by omega) (by omega)⟩
  · rw [up_ne _ _ _ (by omega), up_ne _ _ _ (by omega), p1 j hj, up_ne _ _ _ (by decide)]; exact hS.sp j hj
  · rw [up_ne _ _ _ (by decide), up_at, upd_ne _ _ hj, hq1 12 (by omega) (by omega) (by omega) (by omega)]
  · rw [up_at, upd_ne _ _ hj, up_ne _ _ _ (by decide), hq1 48 (by omega) (by omega) (by omega) (by omega)]
  · rw [hq 0 (by omega) (by omega) (by omega) (by omega) (by omega) (by omega)]; exact r3
  · rw [hq 134 (by omega) (by omega) (by omega) (by omega) (by omega) (by omega)]; exact r4 i hi
  · rw [up_ne _ _ _ (by omega), up_ne _ _ _ (by omega), p4 131 (by simp; omega), up_at, upd_at]; rfl
  · rw [hq 132 (by omega) (by omega) (by omega) (by omega) (by omega) (by omega)]; exact r5.2
  · rw [hq 124 (by omega) (by omega) (by omega) (by omega) (by omega) (by omega), hq 125 (by omega) (by omega) (by omega) (by omega) (by omega) (by omega), hq (127 + v) (by omega) (by omega) (by omega) (by omega) (by omega) (by omega)]; exact r6 v hv
theorem x_text {d : Nat} (hd : 641 ≤ d) (σ : Sg) {α : Al} (hA : IA α) (hC : RC σ α) (u : Int32) : CP d mX11_text [.ref 0, .int u] σ (XPo σ (sp_text α u)) := by
  have hI := hA.i
  have hR := hC.w
  obtain ⟨n, hn1, hS0, hby0⟩ := hA.2.2.2.2.1
  have h6 : σ 131 2 = nI n := hC.2.2.2.2.1.1.trans hS0
  have hT : σ 132 = aT α := hC.2.2.2.2.1.2
  have hby : BY (σ 132) n := by rw [hT]; exact hby0
  obtain ⟨c, hcc⟩ : ∃ c, cnt (aN α) 8 = c := ⟨_, rfl⟩
  have h8 : aN α 8 = nI c := by rw [← hcc]; exact hI.n8.1
  have hc8 : c ≤ 6 := by rw [← hcc]; exact hI.n8.2
  refine con_of (by decide) (catL rfl) (Nat.le_of_ble_eq_true rfl) ?_
  intro μ ω C hr
  have C : Cx μ ω "TowField" cX11_text 4 d := C
  have hr : (mH μ).sig.returnType = some .int := hr
  show G μ ω (RQ μ ω (pP (XPo σ (sp_text α u)))) 0 [some (.ref 0), some (.int u), none, none] [] (mk σ) 0 0
  refine g_il1n (pc := 0) C dX11_text_0 ?_
  refine g_iconst (pc := 1) (v := 0) C dX11_text_1 (by decide) ?_
  refine g_iconst (pc := 2) (v := 1) C dX11_text_2 (by decide) ?_
  refine s_SB (pc := 3) (st := []) C (c_X11_within (d := d - 1) (by omega) σ u 0 1) (by omega) lX11_53 dX11_text_3 rfl (Nat.le_of_ble_eq_true rfl) rfl (fun b_3 => ?_) (fun b_3 => ?_)
  · obtain ⟨j, hj, rfl⟩ := rgL b_3 (by decide) (B := 1) (by decide)
    have kj : (nI j).toNatClampNeg = j := nI_clamp (by omega)
    refine g_if_ne (pc := 6) (tgt := 16) C dX11_text_6 (by decide) (fun _ => ?_) (fun c => absurd c (by decide))
    refine g_al0n (pc := 16) C dX11_text_16 ?_
    refine s_getR (pc := 17) C fX11_21 h0 rfl dX11_text_17 ?_
    refine s_getIv (pc := 20) (v := nI c) C fX11_226 (w0 (b := 12) isW12) rfl (hR.txc.trans h8) dX11_text_20 ?_
    refine g_bipush (pc := 23) (v := 6) C dX11_text_23 (by decide) ?_
    refine g_icmp_lt (pc := 25) (tgt := 35) C dX11_text_25 (by decide) (fun c_25 => ?_) (fun c_25 => ?_)
    · have hc6 : c < 6 := (full_y h8 hc8 (by decide) c_25).2
      refine g_al0n (pc := 35) C dX11_text_35 ?_
      refine s_getR (pc := 36) C fX11_41 h0 rfl dX11_text_36 ?_
      refine s_VP (pc := 39) (st := []) C h131 rfl (c_readX (d := d - 1) (by omega) σ (n := n) h6 hn1 hby) (by omega) lX11_229 dX11_text_39 rfl (Nat.le_of_ble_eq_true rfl) rfl (fun v t_39 hw_39 => ?_)
      rcases hr2 : readT (σ 132) n with ⟨q', s'⟩ | q'
      · have hz : v = -1 ∧ CS σ n q' s' t_39 ∧ q' ≤ n ∧ GC n s' := by have z := hw_39; rw [hr2] at z; exact z
        obtain ⟨rfl, H_39, hq2, hg0⟩ := hz
        have hg : GC 100 s' := GC_mono hg0 hn1
        refine g_is2n (pc := 42) C dX11_text_42 ?_
        refine g_al0n (pc := 43) C dX11_text_43 ?_
        refine s_getR (pc := 44) C fX11_41 h0 rfl dX11_text_44 ?_
        refine g_iconst (pc := 47) (v := 0) C dX11_text_47 (by decide) ?_
        refine s_putI (pc := 48) C pX11_222 h131 rfl dX11_text_48 ?_
        refine g_il2n (pc := 51) C dX11_text_51 ?_
        refine g_if_lt (pc := 52) (tgt := 59) C dX11_text_52 (by decide) (fun _ => ?_) (fun c => absurd c (by decide))
        refine g_al0n (pc := 59) C dX11_text_59 ?_
        refine s_getR (pc := 60) C fX11_21 h0 rfl dX11_text_60 ?_
        refine s_getIv (pc := 63) (v := nI c) C fX11_226 (w0 (b := 12) isW12) rfl (by rw [up_ne _ _ _ (by decide), H_39.fr 12 (by decide)]; exact hR.txc.trans h8) dX11_text_63 ?_
        refine g_is3n (pc := 66) C dX11_text_66 ?_
        refine g_al0n (pc := 67) C dX11_text_67 ?_
        refine s_getR (pc := 68) C fX11_10 h0 rfl dX11_text_68 ?_
        refine g_il3n (pc := 71) C dX11_text_71 ?_
        refine g_al0n (pc := 72) C dX11_text_72 ?_
        refine s_getR (pc := 73) C fX11_41 h0 rfl dX11_text_73 ?_
        refine s_getR (pc := 76) C fX11_232 h131 rfl dX11_text_76 ?_
        refine g_al0n (pc := 79) C dX11_text_79 ?_
        refine s_getR (pc := 80) C fX11_41 h0 rfl dX11_text_80 ?_
        refine s_getIv (pc := 83) (v := nI s'.length) C fX11_235 h131 rfl (by rw [up_at, upd_ne _ _ (by decide)]; exact H_39.ln) dX11_text_83 ?_
        refine s_VQ (pc := 86) (st := []) C h1 rfl (c_tput (d := d - 1) (by omega) (up t_39 131 2 0) (c := c) (n := s'.length) hc6 hg.2.1) (by omega) lX11_238 dX11_text_86 rfl (Nat.le_of_ble_eq_true rfl) rfl (fun t_86 hw_86 => ?_)
        obtain ⟨p1, p2, p3, p4⟩ := hw_86
        refine g_al0n (pc := 89) C dX11_text_89 ?_
        refine s_getR (pc := 90) C fX11_21 h0 rfl dX11_text_90 ?_
        refine g_il3n (pc := 93) C dX11_text_93 ?_
        refine g_iconst (pc := 94) (v := 1) C dX11_text_94 (by decide) ?_
        refine g_iadd (pc := 95) C dX11_text_95 ?_
        refine s_putI (pc := 96) C pX11_226 (w0 (b := 12) isW12) rfl dX11_text_96 ?_
        refine g_al0n (pc := 99) C dX11_text_99 ?_
        refine s_getR (pc := 100) C fX11_21 h0 rfl dX11_text_100 ?_
        refine s_getR (pc := 103) C fX11_241 (w0 (b := 12) isW12) rfl dX11_text_103 ?_
        refine g_il1n (pc := 106) C dX11_text_106 ?_
        refine g_il3n (pc := 107) C dX11_text_107 ?_
        refine s_iast (pc := 108) (q := j) C (w36 (b := 12) isW12) rfl (by omega) (Nat.le_of_ble_eq_true rfl) dX11_text_108 ?_
        refine g_il3n (pc := 109) C dX11_text_109 ?_
        have e0 : readT (aT α) (aS α).toNatClampNeg = Sum.inl (q', s') := by rw [hS0, nI_clamp (by omega), ← hT]; exact hr2
        have f8 := (full_y h8 hc8 (by decide) c_25).1
        have f8c : ¬ nI c = 6 := fun z => f8 (h8.trans z)
        have eT : aT α = σ 132 := hT.symm
        have eS : (aS α).toNatClampNeg = n := by rw [hS0, nI_clamp (by omega)]
        have hsp : sp_text α (nI j) = (nI c, sN (wipA α) (textS (aN α) (nI j) s')) := by simp only [sp_text, b_3, c_25, kj, hr2, f8c, eT, eS, h8, eq_self, ne_eq, not_true_eq_false, not_false_eq_true, Classical.not_not, decide_true, decide_false, and_true, true_and, and_false, false_and, and_self, or_true, true_or, or_false, false_or, or_self, if_true, if_false, ite_true, ite_false, Bool.eq_false_iff, Bool.not_eq_eq_eq_not, Bool.true_eq_false, Bool.false_eq_true, reduceCtorEq]
        exact r_P C hr dX11_text_110 (by rw [hsp]; exact XPo_text hA hC (show j < 2 by omega) hcc hc6 hg H_39 p1 p2 p3 p4)
      · have hz : v = nI (stS (σ 132) n q') ∧ CF σ n q' t_39 ∧ q' ≤ n := by have z := hw_39; rw [hr2] at z; exact z
        obtain ⟨rfl, F_39, hq2⟩ := hz
        have hs1 := stS_le (t := σ 132) hq2
        refine g_is2n (pc := 42) C dX11_text_42 ?_
        refine g_al0n (pc := 43) C dX11_text_43 ?_
        refine s_getR (pc := 44) C fX11_41 h0 rfl dX11_text_44 ?_
        refine g_iconst (pc := 47) (v := 0) C dX11_text_47 (by decide) ?_
        refine s_putI (pc := 48) C pX11_222 h131 rfl dX11_text_48 ?_
        refine g_il2n (pc := 51) C dX11_text_51 ?_
        refine g_if_lt (pc := 52) (tgt := 59) C dX11_text_52 (by decide) (fun c_52 => absurd c_52 (nI_pos (by omega))) (fun c_52 => ?_)
        refine g_iconst (pc := 55) (v := (-1)) C dX11_text_55 (by decide) ?_
        refine g_il2n (pc := 56) C dX11_text_56 ?_
        refine g_isub (pc := 57) C dX11_text_57 ?_
        have e0 : readT (aT α) (aS α).toNatClampNeg = Sum.inr q' := by rw [hS0, nI_clamp (by omega), ← hT]; exact hr2
        have f8 := (full_y h8 hc8 (by decide) c_25).1
        have f8c : ¬ nI c = 6 := fun z => f8 (h8.trans z)
        have eT : aT α = σ 132 := hT.symm
        have eS : (aS α).toNatClampNeg = n := by rw [hS0, nI_clamp (by omega)]
        have hsp : sp_text α (nI j) = (-1 - nI (stS (σ 132) n q'), wipA α) := by simp only [sp_text, b_3, c_25, kj, hr2, f8c, eT, eS, h8, eq_self, ne_eq, not_true_eq_false, not_false_eq_true, Classical.not_not, decide_true, decide_false, and_true, true_and, and_false, false_and, and_self, or_true, true_or, or_false, false_or, or_self, if_true, if_false, ite_true, ite_false, Bool.eq_false_iff, Bool.not_eq_eq_eq_not, Bool.true_eq_false, Bool.false_eq_true, reduceCtorEq]
        exact r_P C hr dX11_text_58 (by rw [hsp]; exact ⟨rfl, RC_tape hA hC (fun k hk => by rw [up_ne _ _ _ (by omega)]; exact F_39.fr k (by simp; omega)) (by rw [up_at, upd_at]) (by rw [up_ne _ _ _ (by omega), F_39.fr 132 (by decide)]; exact hT), fun k hk => by rw [up_ne _ _ _ (by omega)]; exact F_39.fr k (by simp; omega)⟩)
    · refine g_al0n (pc := 28) C dX11_text_28 ?_
      refine g_ldc (pc := 29) C dX11_text_29 kX11_82 ?_
      refine s_VI (pc := 31) (st := []) C h0 rfl (c_found1 (d := d - 1) (by omega) σ) (by omega) lX11_58 dX11_text_31 rfl (Nat.le_of_ble_eq_true rfl) rfl ?_
      have f8 : aN α 8 = 6 := full_n h8 hc8 (by decide) c_25
      have hsp : sp_text α (nI j) = FF α := by simp only [sp_text, b_3, c_25, kj, f8, eq_self, ne_eq, not_true_eq_false, not_false_eq_true, Classical.not_not, decide_true, decide_false, and_true, true_and, and_false, false_and, and_self, or_true, true_or, or_false, false_or, or_self, if_true, if_false, ite_true, ite_false, Bool.eq_false_iff, Bool.not_eq_eq_eq_not, Bool.true_eq_false, Bool.false_eq_true, reduceCtorEq]
      exact r_P C hr dX11_text_34 (by rw [hsp]; exact XPo_fnd hA hC (i := 1) (by decide) _)
  · refine g_if_ne (pc := 6) (tgt := 16) C dX11_text_6 (by decide) (fun c => absurd c (by decide)) (fun _ => ?_)
    refine g_al0n (pc := 9) C dX11_text_9 ?_
    refine g_ldc (pc := 10) C dX11_text_10 kX11_57 ?_
    refine s_VI (pc := 12) (st := []) C h0 rfl (c_found0 (d := d - 1) (by omega) σ) (by omega) lX11_58 dX11_text_12 rfl (Nat.le_of_ble_eq_true rfl) rfl ?_
    have hsp : sp_text α u = FB α := by simp only [sp_text, b_3, eq_self, ne_eq, not_true_eq_false, not_false_eq_true, Classical.not_not, decide_true, decide_false, and_true, true_and, and_false, false_and, and_self, or_true, true_or, or_false, false_or, or_self, if_true, if_false, ite_true, ite_false, Bool.eq_false_iff, Bool.not_eq_eq_eq_not, Bool.true_eq_false, Bool.false_eq_true, reduceCtorEq]
    exact r_P C hr dX11_text_15 (by rw [hsp]; exact XPo_fnd hA hC (i := 0) (by decide) _)

