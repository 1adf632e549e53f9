/-! ===== the class: more calls ===== -/
theorem CB.iff {d : Nat} {M : MI} {as : List Value} {σ σ' : Sg} {P P' : Prop} (h : CB d M as σ P σ') (hi : P ↔ P') : CB d M as σ P' σ' := by
  unfold CB at *
  rw [← hi]
  exact h
theorem how_iff {h : Int32} : (¬ h < 0 ∧ (1 ≤ jrem h 10 ∧ jrem h 10 ≤ 5) ∧ (1 ≤ h / 10 ∧ h / 10 ≤ 30)) ↔ ((10 ≤ h ∧ h ≤ 309) ∧ (1 ≤ jrem h 10 ∧ jrem h 10 ≤ 5)) := by
  constructor
  · rintro ⟨h1, h2, h3⟩
    obtain ⟨j, hj, rfl⟩ := nI_of h1
    rw [show (10 : Int32) = nI 10 from rfl, pk_div hj (by decide) (by decide)] at h3
    have a := (nI_leI (a := 1) (b := j / 10) (by decide) (by omega)).mp h3.1
    have b := (nI_leI (a := j / 10) (b := 30) (by omega) (by decide)).mp h3.2
    exact ⟨⟨nI_le (a := 10) (by omega) (by omega), nI_le (b := 309) (by omega) (by decide)⟩, h2⟩
  · rintro ⟨⟨h1, h2⟩, h3⟩
    obtain ⟨j, hj, rfl⟩ := rgL (B := 309) ⟨h1, h2⟩ (by decide) (by decide)
    have a := (nI_leI (a := 10) (b := j) (by decide) (by omega)).mp h1
    refine ⟨nI_pos (by omega), h3, ?_⟩
    rw [show (10 : Int32) = nI 10 from rfl, pk_div (by omega) (by decide) (by decide)]
    exact ⟨nI_le (a := 1) (by omega) (by omega), nI_le (b := 30) (by omega) (by decide)⟩
theorem how_k {h : Int32} (q : (10 ≤ h ∧ h ≤ 309) ∧ (1 ≤ jrem h 10 ∧ jrem h 10 ≤ 5)) : ∃ k e : Nat, (1 ≤ k ∧ k ≤ 5 ∧ jrem h 10 = nI k) ∧ (1 ≤ e ∧ e ≤ 30 ∧ h / 10 = nI e) := by
  obtain ⟨⟨h1, h2⟩, h3⟩ := q
  obtain ⟨j, hj, rfl⟩ := rgL (B := 309) ⟨h1, h2⟩ (by decide) (by decide)
  have a := (nI_leI (a := 10) (b := j) (by decide) (by omega)).mp h1
  have er : jrem (nI j) 10 = nI (j % 10) := pk_rem (a := j) (d := 10) (by omega) (by decide) (by decide)
  have ed : nI j / 10 = nI (j / 10) := pk_div (a := j) (d := 10) (by omega) (by decide) (by decide)
  rw [er] at h3
  have b := (nI_leI (a := 1) (b := j % 10) (by decide) (by omega)).mp h3.1
  have c := (nI_leI (a := j % 10) (b := 5) (by omega) (by decide)).mp h3.2
  exact ⟨j % 10, j / 10, ⟨b, c, er⟩, by omega, by omega, ed⟩
theorem went_ab (ν : Nu) : ∃ a b : Nat, a ≤ 1 ∧ b ≤ 1 ∧ wentV ν = nI (a + 1000 * b) ∧ (minS ν).1 = nI (a + 10 * b) := by
  unfold wentV startV landV minS
  show ∃ a b : Nat, a ≤ 1 ∧ b ≤ 1 ∧ _ ∧ startC (landN ν) (landC ν) = _
  unfold startC landC
  cases landsS ν with
  | none =>
    cases startsS (landN ν) with
    | none => exact ⟨0, 0, by decide, by decide, rfl, rfl⟩
    | some q => exact ⟨1, 0, by decide, by decide, rfl, rfl⟩
  | some p =>
    cases startsS (landN ν) with
    | none => exact ⟨0, 1, by decide, by decide, rfl, rfl⟩
    | some q => exact ⟨1, 1, by decide, by decide, rfl, rfl⟩
theorem go_AB (ν : Nu) : ∀ n, n ≤ 300 → ∃ A B : Nat, A ≤ n ∧ B ≤ n ∧ goV ν n = nI (A + 1000 * B) ∧ launS ν n = nI A ∧ landS ν n = nI B := by
  intro n
  induction n with
  | zero => intro _; exact ⟨0, 0, by decide, by decide, rfl, rfl, rfl⟩
  | succ n ih =>
    intro hn
    obtain ⟨A, B, hA, hB, e1, e2, e3⟩ := ih (by omega)
    obtain ⟨a, b, ha, hb, f1, f2⟩ := went_ab (runS ν n)
    refine ⟨A + a, B + b, by omega, by omega, ?_, ?_, ?_⟩
    · show goV ν n + wentV (runS ν n) = _
      rw [e1, f1, nI_add]; congr 1; omega
    · show launS ν n + jrem (wentS ν n) 10 = _
      unfold wentS
      rw [e2, f2, show jrem (nI (a + 10 * b)) 10 = nI ((a + 10 * b) % 10) from pk_rem (d := 10) (by omega) (by decide) (by decide), nI_add]; congr 1; omega
    · show landS ν n + wentS ν n / 10 = _
      unfold wentS
      rw [e3, f2, show nI (a + 10 * b) / 10 = nI ((a + 10 * b) / 10) from pk_div (d := 10) (by omega) (by decide) (by decide), nI_add]; congr 1; omega
theorem go_laun (ν : Nu) {n : Nat} (hn : n ≤ 300) : jrem (goV ν n) 1000 = launS ν n := by
  obtain ⟨A, B, hA, hB, e1, e2, e3⟩ := go_AB ν n hn
  rw [e1, e2, show jrem (nI (A + 1000 * B)) 1000 = nI ((A + 1000 * B) % 1000) from pk_rem (d := 1000) (by omega) (by decide) (by decide)]; congr 1; omega
theorem go_land (ν : Nu) {n : Nat} (hn : n ≤ 300) : goV ν n / 1000 = landS ν n := by
  obtain ⟨A, B, hA, hB, e1, e2, e3⟩ := go_AB ν n hn
  rw [e1, e3, show nI (A + 1000 * B) / 1000 = nI ((A + 1000 * B) / 1000) from pk_div (d := 1000) (by omega) (by decide) (by decide)]; congr 1; omega
theorem try_fz {σ τ t : Sg} (h : ∀ q, ¬ (86 ≤ q ∧ q ≤ 86 + 36) → τ q = σ q) (hF : Fz 86 τ t) : ∀ k, (k < 86 ∨ 122 < k) → k ≠ 10 → k ≠ 11 → t k = σ k := fun k h1 h2 h3 => (hF k (by omega) h2 h3).trans (h k (by omega))
section XI
variable {σ τ : Sg} {α : Al}
theorem XPo_image (hA : IA α) (hC : RC σ α) (hW : RW τ 49 (aN α)) (hq : ∀ q, ¬ (49 ≤ q ∧ q ≤ 49 + 36) → τ q = σ q) : XPo σ (sp_image α) 1 (up τ 0 7 1) := by
  have e : ∀ k, k ≠ 0 → (k < 49 ∨ 85 < k) → up τ 0 7 1 k = σ k := fun k h1 h2 => by rw [up_ne _ _ _ h1]; exact hq k (by omega)
  obtain ⟨h1, h2, h3, h4, h5, h6⟩ := id hC
  have hkw := hC.kw (τ := up τ 0 7 1) hA (fun k a b => e _ (by omega) (by omega)) (fun k a b => e _ (by omega) (by omega))
  have hkk : RW (up τ 0 7 1) 49 (aN α) := hW.fr hA.i.n8.2 (fun k hk => up_ne _ _ _ (by omega)) (fun k a b => up_ne _ _ _ (by omega))
  refine ⟨rfl, ⟨hkw, fun _ => hkk, by rw [up_at, upd_at]; rfl, by rw [e 134 (by omega) (by omega)]; exact h4, by rw [e 131 (by omega) (by omega), e 132 (by omega) (by omega)]; exact h5, fun s hs => by rw [e 124 (by omega) (by omega), e 125 (by omega) (by omega), e (127 + s) (by omega) (by omega)]; exact h6 s hs⟩, fun k hk => e _ (by omega) (by omega)⟩
theorem XPo_tear (hA : IA α) (hC : RC σ α) {v : Int32} (hv : v = if aH α = 0 then 0 else 1) : XPo σ (sp_tear α) v (up σ 0 7 0) := by
  have e : ∀ k, k ≠ 0 → up σ 0 7 0 k = σ k := fun k h1 => up_ne _ _ _ h1
  obtain ⟨h1, h2, h3, h4, h5, h6⟩ := id hC
  have hkw := hC.kw (τ := up σ 0 7 0) hA (fun k a b => e _ (by omega)) (fun k a b => e _ (by omega))
  exact ⟨hv, ⟨hkw, fun q => absurd rfl q, by rw [up_at, upd_at]; rfl, by rw [e 134 (by omega)]; exact h4, by rw [e 131 (by omega), e 132 (by omega)]; exact h5, fun s hs => by rw [e 124 (by omega), e 125 (by omega), e (127 + s) (by omega)]; exact h6 s hs⟩, fun k hk => e _ (by omega)⟩
theorem XPo_wipe (hA : IA α) (hC : RC σ α) : XPo σ (sp_wipe α) (aS α) (up σ 131 2 0) := by
  have e : ∀ k, k ≠ 131 → up σ 131 2 0 k = σ k := fun k h1 => up_ne _ _ _ h1
  obtain ⟨h1, h2, h3, h4, h5, h6⟩ := id hC
  have hkw := hC.kw (τ := up σ 131 2 0) hA (fun k a b => e _ (by omega)) (fun k a b => e _ (by omega))
  have hkk := hC.kk (τ := up σ 131 2 0) hA (fun k a b => e _ (by omega)) (fun k a b => e _ (by omega))
  exact ⟨rfl, ⟨hkw, hkk, by rw [e 0 (by omega)]; exact h3, by rw [e 134 (by omega)]; exact h4, ⟨by rw [up_at, upd_at]; rfl, by rw [e 132 (by omega)]; exact h5.2⟩, fun s hs => by rw [e 124 (by omega), e 125 (by omega), e (127 + s) (by omega)]; exact h6 s hs⟩, fun k hk => e _ (by omega)⟩
end XI
theorem x_bound {d : Nat} (hd : 3 ≤ d) (σ : Sg) {α : Al} (hA : IA α) (hC : RC σ α) (k : Int32) : CP d mX11_bound [.ref 0, .int k] σ (XPo σ (sp_bound α k)) := by
  have hI := hA.i
  have hR := hC.w
  refine con_of (by decide) (catL rfl) (Nat.le_of_ble_eq_true rfl) ?_
  intro μ ω C hr
  have C : Cx μ ω "TowField" cX11_bound 2 d := C
  have hr : (mH μ).sig.returnType = some .int := hr
  show G μ ω (RQ μ ω (pP (XPo σ (sp_bound α k)))) 0 [some (.ref 0), some (.int k)] [] (mk σ) 0 0
  refine g_il1n (pc := 0) C dX11_bound_0 ?_
  refine s_SB (pc := 1) (st := []) C (c_X2_has (d := d - 1) (by omega) σ k) (by omega) lX11_175 dX11_bound_1 rfl (Nat.le_of_ble_eq_true rfl) rfl (fun b_1 => ?_) (fun b_1 => ?_)
  · refine g_if_ne (pc := 4) (tgt := 14) C dX11_bound_4 (by decide) (fun _ => ?_) (fun c => absurd c (by decide))
    refine g_il1n (pc := 14) C dX11_bound_14 ?_
    refine s_SI (pc := 15) (st := []) C (c_mostWind (d := d - 1) (by omega) σ k) (by omega) lX11_178 dX11_bound_15 rfl (Nat.le_of_ble_eq_true rfl) rfl ?_
    have hsp : sp_bound α k = (boundK k, α) := by simp only [sp_bound, b_1, eq_self, ne_eq, not_true_eq_false, not_false_eq_true, Classical.not_not, decide_true, decide_false, and_true, true_and, and_false, false_and, and_self, or_true, true_or, or_false, false_or, or_self, if_true, if_false, ite_true, ite_false, Bool.eq_false_iff, Bool.not_eq_eq_eq_not, Bool.true_eq_false, Bool.false_eq_true, reduceCtorEq]
    exact r_P C hr dX11_bound_18 (XPo_val hC hsp rfl)
  · refine g_if_ne (pc := 4) (tgt := 14) C dX11_bound_4 (by decide) (fun c => absurd c (by decide)) (fun _ => ?_)
    refine g_al0n (pc := 7) C dX11_bound_7 ?_
    refine g_ldc (pc := 8) C dX11_bound_8 kX11_57 ?_
    refine s_VI (pc := 10) (st := []) C h0 rfl (c_found0 (d := d - 1) (by omega) σ) (by omega) lX11_58 dX11_bound_10 rfl (Nat.le_of_ble_eq_true rfl) rfl ?_
    have hsp : sp_bound α k = FB α := by simp only [sp_bound, b_1, eq_self, ne_eq, not_true_eq_false, not_false_eq_true, Classical.not_not, decide_true, decide_false, and_true, true_and, and_false, false_and, and_self, or_true, true_or, or_false, false_or, or_self, if_true, if_false, ite_true, ite_false, Bool.eq_false_iff, Bool.not_eq_eq_eq_not, Bool.true_eq_false, Bool.false_eq_true, reduceCtorEq]
    exact r_P C hr dX11_bound_13 (by rw [hsp]; exact XPo_fnd hA hC (i := 0) (by decide) _)

theorem x_span {d : Nat} (hd : 3 ≤ d) (σ : Sg) {α : Al} (hA : IA α) (hC : RC σ α) (k h : Int32) : CP d mX11_span [.ref 0, .int k, .int h] σ (XPo σ (sp_span α k h)) := by
  have hI := hA.i
  have hR := hC.w
  refine con_of (by decide) (catL rfl) (Nat.le_of_ble_eq_true rfl) ?_
  intro μ ω C hr
  have C : Cx μ ω "TowField" cX11_span 3 d := C
  have hr : (mH μ).sig.returnType = some .int := hr
  show G μ ω (RQ μ ω (pP (XPo σ (sp_span α k h)))) 0 [some (.ref 0), some (.int k), some (.int h)] [] (mk σ) 0 0
  refine g_il1n (pc := 0) C dX11_span_0 ?_
  refine s_SB (pc := 1) (st := []) C (c_X2_has (d := d - 1) (by omega) σ k) (by omega) lX11_175 dX11_span_1 rfl (Nat.le_of_ble_eq_true rfl) rfl (fun b_1 => ?_) (fun b_1 => ?_)
  · refine g_if_eq (pc := 4) (tgt := 17) C dX11_span_4 (by decide) (fun c => absurd c (by decide)) (fun _ => ?_)
    refine g_il2n (pc := 7) C dX11_span_7 ?_
    refine g_iconst (pc := 8) (v := 1) C dX11_span_8 (by decide) ?_
    refine g_bipush (pc := 9) (v := 30) C dX11_span_9 (by decide) ?_
    refine s_SB (pc := 11) (st := []) C (c_X11_within (d := d - 1) (by omega) σ h 1 30) (by omega) lX11_53 dX11_span_11 rfl (Nat.le_of_ble_eq_true rfl) rfl (fun b_11 => ?_) (fun b_11 => ?_)
    · refine g_if_ne (pc := 14) (tgt := 24) C dX11_span_14 (by decide) (fun _ => ?_) (fun c => absurd c (by decide))
      refine g_il1n (pc := 24) C dX11_span_24 ?_
      refine g_il2n (pc := 25) C dX11_span_25 ?_
      refine s_SI (pc := 26) (st := []) C (c_minutesOnLane (d := d - 1) (by omega) σ k h) (by omega) lX11_181 dX11_span_26 rfl (Nat.le_of_ble_eq_true rfl) rfl ?_
      have hsp : sp_span α k h = (spanK k h, α) := by simp only [sp_span, b_1, b_11, eq_self, ne_eq, not_true_eq_false, not_false_eq_true, Classical.not_not, decide_true, decide_false, and_true, true_and, and_false, false_and, and_self, or_true, true_or, or_false, false_or, or_self, if_true, if_false, ite_true, ite_false, Bool.eq_false_iff, Bool.not_eq_eq_eq_not, Bool.true_eq_false, Bool.false_eq_true, reduceCtorEq]
      exact r_P C hr dX11_span_29 (XPo_val hC hsp rfl)
    · refine g_if_ne (pc := 14) (tgt := 24) C dX11_span_14 (by decide) (fun c => absurd c (by decide)) (fun _ => ?_)
      refine g_al0n (pc := 17) C dX11_span_17 ?_
      refine g_ldc (pc := 18) C dX11_span_18 kX11_57 ?_
      refine s_VI (pc := 20) (st := []) C h0 rfl (c_found0 (d := d - 1) (by omega) σ) (by omega) lX11_58 dX11_span_20 rfl (Nat.le_of_ble_eq_true rfl) rfl ?_
      have hsp : sp_span α k h = FB α := by simp only [sp_span, b_1, b_11, eq_self, ne_eq, not_true_eq_false, not_false_eq_true, Classical.not_not, decide_true, decide_false, and_true, true_and, and_false, false_and, and_self, or_true, true_or, or_false, false_or, or_self, if_true, if_false, ite_true, ite_false, Bool.eq_false_iff, Bool.not_eq_eq_eq_not, Bool.true_eq_false, Bool.false_eq_true, reduceCtorEq]
      exact r_P C hr dX11_span_23 (by rw [hsp]; exact XPo_fnd hA hC (i := 0) (by decide) _)
  · refine g_if_eq (pc := 4) (tgt := 17) C dX11_span_4 (by decide) (fun _ => ?_) (fun c => absurd c (by decide))
    refine g_al0n (pc := 17) C dX11_span_17 ?_
    refine g_ldc (pc := 18) C dX11_span_18 kX11_57 ?_
    refine s_VI (pc := 20) (st := []) C h0 rfl (c_found0 (d := d - 1) (by omega) σ) (by omega) lX11_58 dX11_span_20 rfl (Nat.le_of_ble_eq_true rfl) rfl ?_
    have hsp : sp_span α k h = FB α := by simp only [sp_span, b_1, eq_self, ne_eq, not_true_eq_false, not_false_eq_true, Classical.not_not, decide_true, decide_false, and_true, true_and, and_false, false_and, and_self, or_true, true_or, or_false, false_or, or_self, if_true, if_false, ite_true, ite_false, Bool.eq_false_iff, Bool.not_eq_eq_eq_not, Bool.true_eq_false, Bool.false_eq_true, reduceCtorEq]
    exact r_P C hr dX11_span_23 (by rw [hsp]; exact XPo_fnd hA hC (i := 0) (by decide) _)

theorem sp_rule0 (α : Al) (v : Int32) : sp_rule α (nI 0) v = if ¬ (1 ≤ v ∧ v ≤ 20) then FB α else becS α (26 + 0) v := by
  unfold sp_rule
  simp only [show (nI 0 = (0 : Int32)) = True from eq_true rfl, if_true, if_false, true_and]
  rfl
theorem sp_rule1 (α : Al) (v : Int32) : sp_rule α (nI 1) v = if ¬ (0 ≤ v ∧ v ≤ 900) then FB α else becS α (26 + 1) v := by
  unfold sp_rule
  simp only [show (nI 1 = (0 : Int32)) = False from eq_false (by decide), show (nI 1 = (1 : Int32)) = True from eq_true rfl, if_true, if_false, true_and]
  rfl
theorem sp_rule2 (α : Al) (v : Int32) : sp_rule α (nI 2) v = if ¬ (1 ≤ v ∧ v ≤ 60) then FB α else becS α (26 + 2) v := by
  unfold sp_rule
  simp only [show (nI 2 = (0 : Int32)) = False from eq_false (by decide), show (nI 2 = (1 : Int32)) = False from eq_false (by decide), show (nI 2 = (2 : Int32)) = True from eq_true rfl, if_true, if_false, true_and]
  rfl
theorem sp_rule3 (α : Al) (v : Int32) : sp_rule α (nI 3) v = if ¬ (0 ≤ v ∧ v ≤ 20) then FB α else becS α (26 + 3) v := by
  unfold sp_rule
  simp only [show (nI 3 = (0 : Int32)) = False from eq_false (by decide), show (nI 3 = (1 : Int32)) = False from eq_false (by decide), show (nI 3 = (2 : Int32)) = False from eq_false (by decide), show (nI 3 = (3 : Int32)) = True from eq_true rfl, if_true, if_false, true_and]
  rfl
theorem x_rule {d : Nat} (hd : 3 ≤ d) (σ : Sg) {α : Al} (hA : IA α) (hC : RC σ α) (w v : Int32) : CP d mX11_rule [.ref 0, .int w, .int v] σ (XPo σ (sp_rule α w v)) := by
  have hI := hA.i
  have hR := hC.w
  refine con_of (by decide) (catL rfl) (Nat.le_of_ble_eq_true rfl) ?_
  intro μ ω C hr
  have C : Cx μ ω "TowField" cX11_rule 4 d := C
  have hr : (mH μ).sig.returnType = some .int := hr
  show G μ ω (RQ μ ω (pP (XPo σ (sp_rule α w v)))) 0 [some (.ref 0), some (.int w), some (.int v), none] [] (mk σ) 0 0
  refine g_il1n (pc := 0) C dX11_rule_0 ?_
  refine g_iconst (pc := 1) (v := 0) C dX11_rule_1 (by decide) ?_
  refine g_iconst (pc := 2) (v := 3) C dX11_rule_2 (by decide) ?_
  refine s_SB (pc := 3) (st := []) C (c_X11_within (d := d - 1) (by omega) σ w 0 3) (by omega) lX11_53 dX11_rule_3 rfl (Nat.le_of_ble_eq_true rfl) rfl (fun b_3 => ?_) (fun b_3 => ?_)
  · obtain ⟨i, hi, rfl⟩ := rgL b_3 (by decide) (B := 3) (by decide)
    have ki : (nI i).toNatClampNeg = i := nI_clamp (by omega)
    refine g_if_ne (pc := 6) (tgt := 16) C dX11_rule_6 (by decide) (fun _ => ?_) (fun c => absurd c (by decide))
    rcases (show i = 0 ∨ i = 1 ∨ i = 2 ∨ i = 3 by omega) with rfl | rfl | rfl | rfl
    · refine g_il2n (pc := 16) C dX11_rule_16 ?_
      refine g_getsA (pc := 17) (j := 2) C rfl sX11_169 dX11_rule_17 ?_
      refine g_il1n (pc := 20) C dX11_rule_20 ?_
      refine g_ialdAv (pc := 21) (j := 2) (v := 1) C rfl (vp_in_nI (show 0 < 4 by decide) (by decide)) (by decide) dX11_rule_21 ?_
      refine g_getsA (pc := 22) (j := 3) C rfl sX11_172 dX11_rule_22 ?_
      refine g_il1n (pc := 25) C dX11_rule_25 ?_
      refine g_ialdAv (pc := 26) (j := 3) (v := 20) C rfl (vp_in_nI (show 0 < 4 by decide) (by decide)) (by decide) dX11_rule_26 ?_
      refine s_SB (pc := 27) (st := []) C (c_X11_within (d := d - 1) (by omega) σ v 1 20) (by omega) lX11_53 dX11_rule_27 rfl (Nat.le_of_ble_eq_true rfl) rfl (fun b_27 => ?_) (fun b_27 => ?_)
      · refine g_if_ne (pc := 30) (tgt := 40) C dX11_rule_30 (by decide) (fun _ => ?_) (fun c => absurd c (by decide))
        refine g_al0n (pc := 40) C dX11_rule_40 ?_
        refine s_getR (pc := 41) C fX11_21 h0 rfl dX11_rule_41 ?_
        refine s_getR (pc := 44) C fX11_141 (w0 (b := 12) isW12) rfl dX11_rule_44 ?_
        refine g_il1n (pc := 47) C dX11_rule_47 ?_
        refine s_ialdv (pc := 48) (q := 0) (v := aN α 26) C (w35 (b := 12) isW12) rfl (by omega) (Nat.le_of_ble_eq_true rfl) (hR.rul (i := 0) (by decide)) dX11_rule_48 ?_
        refine g_is3n (pc := 49) C dX11_rule_49 ?_
        refine g_al0n (pc := 50) C dX11_rule_50 ?_
        refine s_getR (pc := 51) C fX11_21 h0 rfl dX11_rule_51 ?_
        refine s_getR (pc := 54) C fX11_141 (w0 (b := 12) isW12) rfl dX11_rule_54 ?_
        refine g_il1n (pc := 57) C dX11_rule_57 ?_
        refine g_il2n (pc := 58) C dX11_rule_58 ?_
        refine s_iast (pc := 59) (q := 0) C (w35 (b := 12) isW12) rfl (by omega) (Nat.le_of_ble_eq_true rfl) dX11_rule_59 ?_
        refine g_il3n (pc := 60) C dX11_rule_60 ?_
        exact r_P C hr dX11_rule_61 (XPo_now hA hC (W_rule (i := 0) isW12 hI hR (by decide) _) (Fz.up (z := 12) (k := 35) (by omega) Fz.rf) ((sp_rule0 α v).trans (if_neg (fun q => q b_27))) rfl)
      · refine g_if_ne (pc := 30) (tgt := 40) C dX11_rule_30 (by decide) (fun c => absurd c (by decide)) (fun _ => ?_)
        refine g_al0n (pc := 33) C dX11_rule_33 ?_
        refine g_ldc (pc := 34) C dX11_rule_34 kX11_57 ?_
        refine s_VI (pc := 36) (st := []) C h0 rfl (c_found0 (d := d - 1) (by omega) σ) (by omega) lX11_58 dX11_rule_36 rfl (Nat.le_of_ble_eq_true rfl) rfl ?_
        exact r_P C hr dX11_rule_39 (by rw [sp_rule0, if_pos b_27]; exact XPo_fnd hA hC (i := 0) (by decide) _)
    · refine g_il2n (pc := 16) C dX11_rule_16 ?_
      refine g_getsA (pc := 17) (j := 2) C rfl sX11_169 dX11_rule_17 ?_
      refine g_il1n (pc := 20) C dX11_rule_20 ?_
      refine g_ialdAv (pc := 21) (j := 2) (v := 0) C rfl (vp_in_nI (show 1 < 4 by decide) (by decide)) (by decide) dX11_rule_21 ?_
      refine g_getsA (pc := 22) (j := 3) C rfl sX11_172 dX11_rule_22 ?_
      refine g_il1n (pc := 25) C dX11_rule_25 ?_
      refine g_ialdAv (pc := 26) (j := 3) (v := 900) C rfl (vp_in_nI (show 1 < 4 by decide) (by decide)) (by decide) dX11_rule_26 ?_
      refine s_SB (pc := 27) (st := []) C (c_X11_within (d := d - 1) (by omega) σ v 0 900) (by omega) lX11_53 dX11_rule_27 rfl (Nat.le_of_ble_eq_true rfl) rfl (fun b_27 => ?_) (fun b_27 => ?_)
      · refine g_if_ne (pc := 30) (tgt := 40) C dX11_rule_30 (by decide) (fun _ => ?_) (fun c => absurd c (by decide))
        refine g_al0n (pc := 40) C dX11_rule_40 ?_
        refine s_getR (pc := 41) C fX11_21 h0 rfl dX11_rule_41 ?_
        refine s_getR (pc := 44) C fX11_141 (w0 (b := 12) isW12) rfl dX11_rule_44 ?_
        refine g_il1n (pc := 47) C dX11_rule_47 ?_
        refine s_ialdv (pc := 48) (q := 1) (v := aN α 27) C (w35 (b := 12) isW12) rfl (by omega) (Nat.le_of_ble_eq_true rfl) (hR.rul (i := 1) (by decide)) dX11_rule_48 ?_
        refine g_is3n (pc := 49) C dX11_rule_49 ?_
        refine g_al0n (pc := 50) C dX11_rule_50 ?_
        refine s_getR (pc := 51) C fX11_21 h0 rfl dX11_rule_51 ?_
        refine s_getR (pc := 54) C fX11_141 (w0 (b := 12) isW12) rfl dX11_rule_54 ?_
        refine g_il1n (pc := 57) C dX11_rule_57 ?_
        refine g_il2n (pc := 58) C dX11_rule_58 ?_
        refine s_iast (pc := 59) (q := 1) C (w35 (b := 12) isW12) rfl (by omega) (Nat.le_of_ble_eq_true rfl) dX11_rule_59 ?_
        refine g_il3n (pc := 60) C dX11_rule_60 ?_
        exact r_P C hr dX11_rule_61 (XPo_now hA hC (W_rule (i := 1) isW12 hI hR (by decide) _) (Fz.up (z := 12) (k := 35) (by omega) Fz.rf) ((sp_rule1 α v).trans (if_neg (fun q => q b_27))) rfl)
      · refine g_if_ne (pc := 30) (tgt := 40) C dX11_rule_30 (by decide) (fun c => absurd c (by decide)) (fun _ => ?_)
        refine g_al0n (pc := 33) C dX11_rule_33 ?_
        refine g_ldc (pc := 34) C dX11_rule_34 kX11_57 ?_
        refine s_VI (pc := 36) (st := []) C h0 rfl (c_found0 (d := d - 1) (by omega) σ) (by omega) lX11_58 dX11_rule_36 rfl (Nat.le_of_ble_eq_true rfl) rfl ?_
        exact r_P C hr dX11_rule_39 (by rw [sp_rule1, if_pos b_27]; exact XPo_fnd hA hC (i := 0) (by decide) _)
    · refine g_il2n (pc := 16) C dX11_rule_16 ?_
      refine g_getsA (pc := 17) (j := 2) C rfl sX11_169 dX11_rule_17 ?_
      refine g_il1n (pc := 20) C dX11_rule_20 ?_
      refine g_ialdAv (pc := 21) (j := 2) (v := 1) C rfl (vp_in_nI (show 2 < 4 by decide) (by decide)) (by decide) dX11_rule_21 ?_
      refine g_getsA (pc := 22) (j := 3) C rfl sX11_172 dX11_rule_22 ?_
      refine g_il1n (pc := 25) C dX11_rule_25 ?_
      refine g_ialdAv (pc := 26) (j := 3) (v := 60) C rfl (vp_in_nI (show 2 < 4 by decide) (by decide)) (by decide) dX11_rule_26 ?_
      refine s_SB (pc := 27) (st := []) C (c_X11_within (d := d - 1) (by omega) σ v 1 60) (by omega) lX11_53 dX11_rule_27 rfl (Nat.le_of_ble_eq_true rfl) rfl (fun b_27 => ?_) (fun b_27 => ?_)
      · refine g_if_ne (pc := 30) (tgt := 40) C dX11_rule_30 (by decide) (fun _ => ?_) (fun c => absurd c (by decide))
        refine g_al0n (pc := 40) C dX11_rule_40 ?_
        refine s_getR (pc := 41) C fX11_21 h0 rfl dX11_rule_41 ?_
        refine s_getR (pc := 44) C fX11_141 (w0 (b := 12) isW12) rfl dX11_rule_44 ?_
        refine g_il1n (pc := 47) C dX11_rule_47 ?_
        refine s_ialdv (pc := 48) (q := 2) (v := aN α 28) C (w35 (b := 12) isW12) rfl (by omega) (Nat.le_of_ble_eq_true rfl) (hR.rul (i := 2) (by decide)) dX11_rule_48 ?_
        refine g_is3n (pc := 49) C dX11_rule_49 ?_
        refine g_al0n (pc := 50) C dX11_rule_50 ?_
        refine s_getR (pc := 51) C fX11_21 h0 rfl dX11_rule_51 ?_
        refine s_getR (pc := 54) C fX11_141 (w0 (b := 12) isW12) rfl dX11_rule_54 ?_
        refine g_il1n (pc := 57) C dX11_rule_57 ?_
        refine g_il2n (pc := 58) C dX11_rule_58 ?_
        refine s_iast (pc := 59) (q := 2) C (w35 (b := 12) isW12) rfl (by omega) (Nat.le_of_ble_eq_true rfl) dX11_rule_59 ?_
        refine g_il3n (pc := 60) C dX11_rule_60 ?_
        exact r_P C hr dX11_rule_61 (XPo_now hA hC (W_rule (i := 2) isW12 hI hR (by decide) _) (Fz.up (z := 12) (k := 35) (by omega) Fz.rf) ((sp_rule2 α v).trans (if_neg (fun q => q b_27))) rfl)
      · refine g_if_ne (pc := 30) (tgt := 40) C dX11_rule_30 (by decide) (fun c => absurd c (by decide)) (fun _ => ?_)
        refine g_al0n (pc := 33) C dX11_rule_33 ?_
        refine g_ldc (pc := 34) C dX11_rule_34 kX11_57 ?_
        refine s_VI (pc := 36) (st := []) C h0 rfl (c_found0 (d := d - 1) (by omega) σ) (by omega) lX11_58 dX11_rule_36 rfl (Nat.le_of_ble_eq_true rfl) rfl ?_
        exact r_P C hr dX11_rule_39 (by rw [sp_rule2, if_pos b_27]; exact XPo_fnd hA hC (i := 0) (by decide) _)
    · refine g_il2n (pc := 16) C dX11_rule_16 ?_
      refine g_getsA (pc := 17) (j := 2) C rfl sX11_169 dX11_rule_17 ?_
      refine g_il1n (pc := 20) C dX11_rule_20 ?_
      refine g_ialdAv (pc := 21) (j := 2) (v := 0) C rfl (vp_in_nI (show 3 < 4 by decide) (by decide)) (by decide) dX11_rule_21 ?_
      refine g_getsA (pc := 22) (j := 3) C rfl sX11_172 dX11_rule_22 ?_
      refine g_il1n (pc := 25) C dX11_rule_25 ?_
      refine g_ialdAv (pc := 26) (j := 3) (v := 20) C rfl (vp_in_nI (show 3 < 4 by decide) (by decide)) (by decide) dX11_rule_26 ?_
      refine s_SB (pc := 27) (st := []) C (c_X11_within (d := d - 1) (by omega) σ v 0 20) (by omega) lX11_53 dX11_rule_27 rfl (Nat.le_of_ble_eq_true rfl) rfl (fun b_27 => ?_) (fun b_27 => ?_)
      · refine g_if_ne (pc := 30) (tgt := 40) C dX11_rule_30 (by decide) (fun _ => ?_) (fun c => absurd c (by decide))
        refine g_al0n (pc := 40) C dX11_rule_40 ?_
        refine s_getR (pc := 41) C fX11_21 h0 rfl dX11_rule_41 ?_
        refine s_getR (pc := 44) C fX11_141 (w0 (b := 12) isW12) rfl dX11_rule_44 ?_
        refine g_il1n (pc := 47) C dX11_rule_47 ?_
        refine s_ialdv (pc := 48) (q := 3) (v := aN α 29) C (w35 (b := 12) isW12) rfl (by omega) (Nat.le_of_ble_eq_true rfl) (hR.rul (i := 3) (by decide)) dX11_rule_48 ?_
        refine g_is3n (pc := 49) C dX11_rule_49 ?_
        refine g_al0n (pc := 50) C dX11_rule_50 ?_
        refine s_getR (pc := 51) C fX11_21 h0 rfl dX11_rule_51 ?_
        refine s_getR (pc := 54) C fX11_141 (w0 (b := 12) isW12) rfl dX11_rule_54 ?_
        refine g_il1n (pc := 57) C dX11_rule_57 ?_
        refine g_il2n (pc := 58) C dX11_rule_58 ?_
        refine s_iast (pc := 59) (q := 3) C (w35 (b := 12) isW12) rfl (by omega) (Nat.le_of_ble_eq_true rfl) dX11_rule_59 ?_
        refine g_il3n (pc := 60) C dX11_rule_60 ?_
        exact r_P C hr dX11_rule_61 (XPo_now hA hC (W_rule (i := 3) isW12 hI hR (by decide) _) (Fz.up (z := 12) (k := 35) (by omega) Fz.rf) ((sp_rule3 α v).trans (if_neg (fun q => q b_27))) rfl)
      · refine g_if_ne (pc := 30) (tgt := 40) C dX11_rule_30 (by decide) (fun c => absurd c (by decide)) (fun _ => ?_)
        refine g_al0n (pc := 33) C dX11_rule_33 ?_
        refine g_ldc (pc := 34) C dX11_rule_34 kX11_57 ?_
        refine s_VI (pc := 36) (st := []) C h0 rfl (c_found0 (d := d - 1) (by omega) σ) (by omega) lX11_58 dX11_rule_36 rfl (Nat.le_of_ble_eq_true rfl) rfl ?_
        exact r_P C hr dX11_rule_39 (by rw [sp_rule3, if_pos b_27]; exact XPo_fnd hA hC (i := 0) (by decide) _)
  · refine g_if_ne (pc := 6) (tgt := 16) C dX11_rule_6 (by decide) (fun c => absurd c (by decide)) (fun _ => ?_)
    refine g_al0n (pc := 9) C dX11_rule_9 ?_
    refine g_ldc (pc := 10) C dX11_rule_10 kX11_57 ?_
    refine s_VI (pc := 12) (st := []) C h0 rfl (c_found0 (d := d - 1) (by omega) σ) (by omega) lX11_58 dX11_rule_12 rfl (Nat.le_of_ble_eq_true rfl) rfl ?_
    have hsp : sp_rule α w v = FB α := by
      unfold sp_rule
      refine if_pos (fun q => b_3 ?_)
      split at q
      · rename_i e; rw [e]; decide
      · split at q
        · rename_i e; rw [e]; decide
        · split at q
          · rename_i e; rw [e]; decide
          · rw [q.1]; decide
    exact r_P C hr dX11_rule_15 (by rw [hsp]; exact XPo_fnd hA hC (i := 0) (by decide) _)

theorem c_along {d : Nat} (hd : 3 ≤ d) (σ : Sg) {α : Al} (hA : IA α) (hC : RC σ α) (w p : Int32) : CB d mX11_mayBeAlong [.ref 0, .int w, .int p] σ (w = -1 ∨ ((0 ≤ w ∧ w ≤ aN α 4 - 1) ∧ ¬ w = p)) σ := by
  have hI := hA.i
  have hR := hC.w
  refine con_of (by decide) (catL rfl) (Nat.le_of_ble_eq_true rfl) ?_
  intro μ ω C hr
  have C : Cx μ ω "TowField" cX11_mayBeAlong 3 d := C
  have hr : (mH μ).sig.returnType = some .boolean := hr
  show G μ ω (RQ μ ω (pB (w = -1 ∨ ((0 ≤ w ∧ w ≤ aN α 4 - 1) ∧ ¬ w = p)) σ)) 0 [some (.ref 0), some (.int w), some (.int p)] [] (mk σ) 0 0
  refine g_il1n (pc := 0) C dX11_mayBeAlong_0 ?_
  refine g_iconst (pc := 1) (v := (-1)) C dX11_mayBeAlong_1 (by decide) ?_
  refine g_icmp_eq (pc := 2) (tgt := 24) C dX11_mayBeAlong_2 (by decide) (fun c_2 => ?_) (fun c_2 => ?_)
  · refine g_iconst (pc := 24) (v := 1) C dX11_mayBeAlong_24 (by decide) ?_
    refine g_goto (pc := 25) (tgt := 29) C dX11_mayBeAlong_25 (by decide) ?_
    exact r_B1 C hr dX11_mayBeAlong_29 (Or.inl c_2) rfl
  · refine g_al0n (pc := 5) C dX11_mayBeAlong_5 ?_
    refine s_getR (pc := 6) C fX11_21 h0 rfl dX11_mayBeAlong_6 ?_
    refine s_getR (pc := 9) C fX11_62 (w0 (b := 12) isW12) rfl dX11_mayBeAlong_9 ?_
    refine g_il1n (pc := 12) C dX11_mayBeAlong_12 ?_
    refine s_VB (pc := 13) (st := []) C (w6 (b := 12) isW12) rfl (by have := c_hasX4 (d := d - 1) (by omega) σ isW12 w; rw [hR.p.1] at this; exact this) (by omega) lX11_115 dX11_mayBeAlong_13 rfl (Nat.le_of_ble_eq_true rfl) rfl (fun b_13 => ?_) (fun b_13 => ?_)
    · refine g_if_eq (pc := 16) (tgt := 28) C dX11_mayBeAlong_16 (by decide) (fun c => absurd c (by decide)) (fun _ => ?_)
      refine g_il1n (pc := 19) C dX11_mayBeAlong_19 ?_
      refine g_il2n (pc := 20) C dX11_mayBeAlong_20 ?_
      refine g_icmp_eq (pc := 21) (tgt := 28) C dX11_mayBeAlong_21 (by decide) (fun c_21 => ?_) (fun c_21 => ?_)
      · refine g_iconst (pc := 28) (v := 0) C dX11_mayBeAlong_28 (by decide) ?_
        exact r_B0 C hr dX11_mayBeAlong_29 (fun q => q.elim c_2 (fun y => y.2 c_21)) rfl
      · refine g_iconst (pc := 24) (v := 1) C dX11_mayBeAlong_24 (by decide) ?_
        refine g_goto (pc := 25) (tgt := 29) C dX11_mayBeAlong_25 (by decide) ?_
        exact r_B1 C hr dX11_mayBeAlong_29 (Or.inr ⟨b_13, c_21⟩) rfl
    · refine g_if_eq (pc := 16) (tgt := 28) C dX11_mayBeAlong_16 (by decide) (fun _ => ?_) (fun c => absurd c (by decide))
      refine g_iconst (pc := 28) (v := 0) C dX11_mayBeAlong_28 (by decide) ?_
      exact r_B0 C hr dX11_mayBeAlong_29 (fun q => q.elim c_2 (fun y => b_13 y.1)) rfl

theorem c_isHow {d : Nat} (hd : 2 ≤ d) (σ : Sg) (h : Int32) : CB d mX11_isHow [.int h] σ (¬ h < 0 ∧ (1 ≤ jrem h 10 ∧ jrem h 10 ≤ 5) ∧ (1 ≤ h / 10 ∧ h / 10 ≤ 30)) σ := by
  refine con_of (by decide) (catL rfl) (Nat.le_of_ble_eq_true rfl) ?_
  intro μ ω C hr
  have C : Cx μ ω "TowField" cX11_isHow 1 d := C
  have hr : (mH μ).sig.returnType = some .boolean := hr
  show G μ ω (RQ μ ω (pB (¬ h < 0 ∧ (1 ≤ jrem h 10 ∧ jrem h 10 ≤ 5) ∧ (1 ≤ h / 10 ∧ h / 10 ≤ 30)) σ)) 0 [some (.int h)] [] (mk σ) 0 0
  refine g_il0n (pc := 0) C dX11_isHow_0 ?_
  refine g_if_lt (pc := 1) (tgt := 33) C dX11_isHow_1 (by decide) (fun c_1 => ?_) (fun c_1 => ?_)
  · refine g_iconst (pc := 33) (v := 0) C dX11_isHow_33 (by decide) ?_
    exact r_B0 C hr dX11_isHow_34 (fun q => q.1 c_1) rfl
  · refine g_il0n (pc := 4) C dX11_isHow_4 ?_
    refine g_bipush (pc := 5) (v := 10) C dX11_isHow_5 (by decide) ?_
    refine g_irem (pc := 7) C dX11_isHow_7 (by decide) ?_
    refine g_iconst (pc := 8) (v := 1) C dX11_isHow_8 (by decide) ?_
    refine g_iconst (pc := 9) (v := 5) C dX11_isHow_9 (by decide) ?_
    refine s_SB (pc := 10) (st := []) C (c_X11_within (d := d - 1) (by omega) σ (jrem h 10) 1 5) (by omega) lX11_53 dX11_isHow_10 rfl (Nat.le_of_ble_eq_true rfl) rfl (fun b_10 => ?_) (fun b_10 => ?_)
    · refine g_if_eq (pc := 13) (tgt := 33) C dX11_isHow_13 (by decide) (fun c => absurd c (by decide)) (fun _ => ?_)
      refine g_il0n (pc := 16) C dX11_isHow_16 ?_
      refine g_bipush (pc := 17) (v := 10) C dX11_isHow_17 (by decide) ?_
      refine g_idiv (pc := 19) C dX11_isHow_19 (by decide) ?_
      refine g_iconst (pc := 20) (v := 1) C dX11_isHow_20 (by decide) ?_
      refine g_bipush (pc := 21) (v := 30) C dX11_isHow_21 (by decide) ?_
      refine s_SB (pc := 23) (st := []) C (c_X11_within (d := d - 1) (by omega) σ (h / 10) 1 30) (by omega) lX11_53 dX11_isHow_23 rfl (Nat.le_of_ble_eq_true rfl) rfl (fun b_23 => ?_) (fun b_23 => ?_)
      · refine g_if_eq (pc := 26) (tgt := 33) C dX11_isHow_26 (by decide) (fun c => absurd c (by decide)) (fun _ => ?_)
        refine g_iconst (pc := 29) (v := 1) C dX11_isHow_29 (by decide) ?_
        refine g_goto (pc := 30) (tgt := 34) C dX11_isHow_30 (by decide) ?_
        exact r_B1 C hr dX11_isHow_34 ⟨c_1, b_10, b_23⟩ rfl
      · refine g_if_eq (pc := 26) (tgt := 33) C dX11_isHow_26 (by decide) (fun _ => ?_) (fun c => absurd c (by decide))
        refine g_iconst (pc := 33) (v := 0) C dX11_isHow_33 (by decide) ?_
        exact r_B0 C hr dX11_isHow_34 (fun q => b_23 q.2.2) rfl
    · refine g_if_eq (pc := 13) (tgt := 33) C dX11_isHow_13 (by decide) (fun _ => ?_) (fun c => absurd c (by decide))
      refine g_iconst (pc := 33) (v := 0) C dX11_isHow_33 (by decide) ?_
      exact r_B0 C hr dX11_isHow_34 (fun q => b_10 q.2.1) rfl

theorem x_ask {d : Nat} (hd : 5 ≤ d) (σ : Sg) {α : Al} (hA : IA α) (hC : RC σ α) (p w g h m : Int32) : CP d mX11_ask [.ref 0, .int p, .int w, .int g, .int h, .int m] σ (XPo σ (sp_ask α p w g h m)) := by
  have hI := hA.i
  have hR := hC.w
  refine con_of (by decide) (catL rfl) (Nat.le_of_ble_eq_true rfl) ?_
  intro μ ω C hr
  have C : Cx μ ω "TowField" cX11_ask 6 d := C
  have hr : (mH μ).sig.returnType = some .int := hr
  show G μ ω (RQ μ ω (pP (XPo σ (sp_ask α p w g h m)))) 0 [some (.ref 0), some (.int p), some (.int w), some (.int g), some (.int h), some (.int m)] [] (mk σ) 0 0
  refine g_al0n (pc := 0) C dX11_ask_0 ?_
  refine s_getR (pc := 1) C fX11_21 h0 rfl dX11_ask_1 ?_
  refine s_getR (pc := 4) C fX11_62 (w0 (b := 12) isW12) rfl dX11_ask_4 ?_
  refine g_il1n (pc := 7) C dX11_ask_7 ?_
  refine s_VB (pc := 8) (st := []) C (w6 (b := 12) isW12) rfl (by have := c_hasX4 (d := d - 1) (by omega) σ isW12 p; rw [hR.p.1] at this; exact this) (by omega) lX11_115 dX11_ask_8 rfl (Nat.le_of_ble_eq_true rfl) rfl (fun b_8 => ?_) (fun b_8 => ?_)
  · have hn4 := hI.n4.2
    obtain ⟨j, hj, rfl⟩ := (is_iff hI.n4.1 (by omega)).mp b_8
    have kj : (nI j).toNatClampNeg = j := nI_clamp (by omega)
    refine g_if_eq (pc := 11) (tgt := 37) C dX11_ask_11 (by decide) (fun c => absurd c (by decide)) (fun _ => ?_)
    refine g_al0n (pc := 14) C dX11_ask_14 ?_
    refine g_il2n (pc := 15) C dX11_ask_15 ?_
    refine g_il1n (pc := 16) C dX11_ask_16 ?_
    refine s_VB (pc := 17) (st := []) C h0 rfl (c_along (d := d - 1) (by omega) σ hA hC w (nI j)) (by omega) lX11_184 dX11_ask_17 rfl (Nat.le_of_ble_eq_true rfl) rfl (fun b_17 => ?_) (fun b_17 => ?_)
    · refine g_if_eq (pc := 20) (tgt := 37) C dX11_ask_20 (by decide) (fun c => absurd c (by decide)) (fun _ => ?_)
      refine g_al0n (pc := 23) C dX11_ask_23 ?_
      refine s_getR (pc := 24) C fX11_21 h0 rfl dX11_ask_24 ?_
      refine s_getR (pc := 27) C fX11_72 (w0 (b := 12) isW12) rfl dX11_ask_27 ?_
      refine g_il3n (pc := 30) C dX11_ask_30 ?_
      refine s_VB (pc := 31) (st := []) C (w1 (b := 12) isW12) rfl (by have := c_hasX1 (d := d - 1) (by omega) σ isW12 g; rw [hR.g.1] at this; exact this) (by omega) lX11_108 dX11_ask_31 rfl (Nat.le_of_ble_eq_true rfl) rfl (fun b_31 => ?_) (fun b_31 => ?_)
      · have hn3 := hI.n3.2
        obtain ⟨i, hi, rfl⟩ := (is_iff hI.n3.1 (by omega)).mp b_31
        have ki : (nI i).toNatClampNeg = i := nI_clamp (by omega)
        refine g_if_ne (pc := 34) (tgt := 44) C dX11_ask_34 (by decide) (fun _ => ?_) (fun c => absurd c (by decide))
        refine g_il4 (pc := 44) C dX11_ask_44 ?_
        refine s_SB (pc := 46) (st := []) C ((c_isHow (d := d - 1) (by omega) σ h).iff how_iff) (by omega) lX11_187 dX11_ask_46 rfl (Nat.le_of_ble_eq_true rfl) rfl (fun b_46 => ?_) (fun b_46 => ?_)
        · refine g_if_eq (pc := 49) (tgt := 63) C dX11_ask_49 (by decide) (fun c => absurd c (by decide)) (fun _ => ?_)
          refine g_il5 (pc := 52) C dX11_ask_52 ?_
          refine g_iconst (pc := 54) (v := 1) C dX11_ask_54 (by decide) ?_
          refine g_bipush (pc := 55) (v := 60) C dX11_ask_55 (by decide) ?_
          refine s_SB (pc := 57) (st := []) C (c_X11_within (d := d - 1) (by omega) σ m 1 60) (by omega) lX11_53 dX11_ask_57 rfl (Nat.le_of_ble_eq_true rfl) rfl (fun b_57 => ?_) (fun b_57 => ?_)
          · refine g_if_ne (pc := 60) (tgt := 70) C dX11_ask_60 (by decide) (fun _ => ?_) (fun c => absurd c (by decide))
            refine g_al0n (pc := 70) C dX11_ask_70 ?_
            refine s_getR (pc := 71) C fX11_21 h0 rfl dX11_ask_71 ?_
            refine s_getR (pc := 74) C fX11_190 (w0 (b := 12) isW12) rfl dX11_ask_74 ?_
            refine s_getIv (pc := 77) (v := nI (cnt (aN α) 7)) C fX11_194 (w22 (b := 12) isW12) rfl (hR.n7 hI) dX11_ask_77 ?_
            refine g_bipush (pc := 80) (v := 20) C dX11_ask_80 (by decide) ?_
            refine g_icmp_lt (pc := 82) (tgt := 92) C dX11_ask_82 (by decide) (fun c_82 => ?_) (fun c_82 => ?_)
            · obtain ⟨kk, ee, hk1, he1⟩ := how_k b_46
              refine g_al0n (pc := 92) C dX11_ask_92 ?_
              refine s_getR (pc := 93) C fX11_21 h0 rfl dX11_ask_93 ?_
              refine s_getR (pc := 96) C fX11_190 (w0 (b := 12) isW12) rfl dX11_ask_96 ?_
              refine g_il1n (pc := 99) C dX11_ask_99 ?_
              refine g_il2n (pc := 100) C dX11_ask_100 ?_
              refine g_il3n (pc := 101) C dX11_ask_101 ?_
              refine g_il4 (pc := 102) C dX11_ask_102 ?_
              refine g_il5 (pc := 104) C dX11_ask_104 ?_
              refine s_VP (pc := 106) (st := []) C (w22 (b := 12) isW12) rfl (c_addA (d := d - 1) (by omega) σ isW12 (n := cnt (aN α) 7) (hR.n7 hI) (full_y hI.n7.1 hI.n7.2 (N := 20) (by decide) c_82).2 (k := kk) hk1.2.1 (nI j) w (nI i) h m hk1.2.2) (by omega) lX11_197 dX11_ask_106 rfl (Nat.le_of_ble_eq_true rfl) rfl (fun v τ hv => ?_)
              obtain ⟨hv, ht⟩ := hv
              have hfu := full_y hI.n7.1 hI.n7.2 (N := 20) (by decide) c_82
              have hfx : ¬ aN α 7 = 20 := hfu.1
              have hfl := hfu.2
              have hsp : sp_ask α (nI j) w (nI i) h m = (aN α 7, sN α (askN (aN α) (cnt (aN α) 7) (nI j) w (nI i) (jrem h 10) (h / 10) m)) := by simp only [sp_ask, b_8, b_17, b_31, b_46, b_57, c_82, kj, ki, hfx, eq_self, ne_eq, not_true_eq_false, not_false_eq_true, Classical.not_not, decide_true, decide_false, and_true, true_and, and_false, false_and, and_self, or_true, true_or, or_false, false_or, or_self, if_true, if_false, ite_true, ite_false, Bool.eq_false_iff, Bool.not_eq_eq_eq_not, Bool.true_eq_false, Bool.false_eq_true, reduceCtorEq]; unfold askN; simp (disch := omega) only [upd_ne]
              exact r_P C hr dX11_ask_109 (XPo_now hA hC (by rw [ht, hk1.2.2]; exact W_ask isW12 hI hR hI.n7.1 hfl hk1.1 hk1.2.1 (nI j) w (nI i) (h / 10) m) (by rw [ht]; repeat first | exact Fz.rf | refine Fz.up (z := 12) (by omega) ?_) hsp (hv.trans hI.n7.1.symm))
            · refine g_al0n (pc := 85) C dX11_ask_85 ?_
              refine g_ldc (pc := 86) C dX11_ask_86 kX11_82 ?_
              refine s_VI (pc := 88) (st := []) C h0 rfl (c_found1 (d := d - 1) (by omega) σ) (by omega) lX11_58 dX11_ask_88 rfl (Nat.le_of_ble_eq_true rfl) rfl ?_
              have hfx : aN α 7 = 20 := full_n hI.n7.1 hI.n7.2 (N := 20) (by decide) c_82
              have hsp : sp_ask α (nI j) w (nI i) h m = FF α := by simp only [sp_ask, b_8, b_17, b_31, b_46, b_57, c_82, kj, ki, hfx, eq_self, ne_eq, not_true_eq_false, not_false_eq_true, Classical.not_not, decide_true, decide_false, and_true, true_and, and_false, false_and, and_self, or_true, true_or, or_false, false_or, or_self, if_true, if_false, ite_true, ite_false, Bool.eq_false_iff, Bool.not_eq_eq_eq_not, Bool.true_eq_false, Bool.false_eq_true, reduceCtorEq]
              exact r_P C hr dX11_ask_91 (by rw [hsp]; exact XPo_fnd hA hC (i := 1) (by decide) _)
          · refine g_if_ne (pc := 60) (tgt := 70) C dX11_ask_60 (by decide) (fun c => absurd c (by decide)) (fun _ => ?_)
            refine g_al0n (pc := 63) C dX11_ask_63 ?_
            refine g_ldc (pc := 64) C dX11_ask_64 kX11_57 ?_
            refine s_VI (pc := 66) (st := []) C h0 rfl (c_found0 (d := d - 1) (by omega) σ) (by omega) lX11_58 dX11_ask_66 rfl (Nat.le_of_ble_eq_true rfl) rfl ?_
            have hsp : sp_ask α (nI j) w (nI i) h m = FB α := by simp only [sp_ask, b_8, b_17, b_31, b_46, b_57, kj, ki, eq_self, ne_eq, not_true_eq_false, not_false_eq_true, Classical.not_not, decide_true, decide_false, and_true, true_and, and_false, false_and, and_self, or_true, true_or, or_false, false_or, or_self, if_true, if_false, ite_true, ite_false, Bool.eq_false_iff, Bool.not_eq_eq_eq_not, Bool.true_eq_false, Bool.false_eq_true, reduceCtorEq]
            exact r_P C hr dX11_ask_69 (by rw [hsp]; exact XPo_fnd hA hC (i := 0) (by decide) _)
        · refine g_if_eq (pc := 49) (tgt := 63) C dX11_ask_49 (by decide) (fun _ => ?_) (fun c => absurd c (by decide))
          refine g_al0n (pc := 63) C dX11_ask_63 ?_
          refine g_ldc (pc := 64) C dX11_ask_64 kX11_57 ?_
          refine s_VI (pc := 66) (st := []) C h0 rfl (c_found0 (d := d - 1) (by omega) σ) (by omega) lX11_58 dX11_ask_66 rfl (Nat.le_of_ble_eq_true rfl) rfl ?_
          have hb46 : ¬ ((10 ≤ h ∧ h ≤ 309) ∧ (1 ≤ jrem h 10 ∧ jrem h 10 ≤ 5) ∧ (1 ≤ m ∧ m ≤ 60)) := fun y => b_46 ⟨y.1, y.2.1⟩
          have hsp : sp_ask α (nI j) w (nI i) h m = FB α := by simp only [sp_ask, b_8, b_17, b_31, b_46, kj, ki, hb46, eq_self, ne_eq, not_true_eq_false, not_false_eq_true, Classical.not_not, decide_true, decide_false, and_true, true_and, and_false, false_and, and_self, or_true, true_or, or_false, false_or, or_self, if_true, if_false, ite_true, ite_false, Bool.eq_false_iff, Bool.not_eq_eq_eq_not, Bool.true_eq_false, Bool.false_eq_true, reduceCtorEq]
          exact r_P C hr dX11_ask_69 (by rw [hsp]; exact XPo_fnd hA hC (i := 0) (by decide) _)
      · refine g_if_ne (pc := 34) (tgt := 44) C dX11_ask_34 (by decide) (fun c => absurd c (by decide)) (fun _ => ?_)
        refine g_al0n (pc := 37) C dX11_ask_37 ?_
        refine g_ldc (pc := 38) C dX11_ask_38 kX11_57 ?_
        refine s_VI (pc := 40) (st := []) C h0 rfl (c_found0 (d := d - 1) (by omega) σ) (by omega) lX11_58 dX11_ask_40 rfl (Nat.le_of_ble_eq_true rfl) rfl ?_
        have hsp : sp_ask α (nI j) w g h m = FB α := by simp only [sp_ask, b_8, b_17, b_31, kj, eq_self, ne_eq, not_true_eq_false, not_false_eq_true, Classical.not_not, decide_true, decide_false, and_true, true_and, and_false, false_and, and_self, or_true, true_or, or_false, false_or, or_self, if_true, if_false, ite_true, ite_false, Bool.eq_false_iff, Bool.not_eq_eq_eq_not, Bool.true_eq_false, Bool.false_eq_true, reduceCtorEq]
        exact r_P C hr dX11_ask_43 (by rw [hsp]; exact XPo_fnd hA hC (i := 0) (by decide) _)
    · refine g_if_eq (pc := 20) (tgt := 37) C dX11_ask_20 (by decide) (fun _ => ?_) (fun c => absurd c (by decide))
      refine g_al0n (pc := 37) C dX11_ask_37 ?_
      refine g_ldc (pc := 38) C dX11_ask_38 kX11_57 ?_
      refine s_VI (pc := 40) (st := []) C h0 rfl (c_found0 (d := d - 1) (by omega) σ) (by omega) lX11_58 dX11_ask_40 rfl (Nat.le_of_ble_eq_true rfl) rfl ?_
      have hsp : sp_ask α (nI j) w g h m = FB α := by simp only [sp_ask, b_8, b_17, kj, eq_self, ne_eq, not_true_eq_false, not_false_eq_true, Classical.not_not, decide_true, decide_false, and_true, true_and, and_false, false_and, and_self, or_true, true_or, or_false, false_or, or_self, if_true, if_false, ite_true, ite_false, Bool.eq_false_iff, Bool.not_eq_eq_eq_not, Bool.true_eq_false, Bool.false_eq_true, reduceCtorEq]
      exact r_P C hr dX11_ask_43 (by rw [hsp]; exact XPo_fnd hA hC (i := 0) (by decide) _)
  · refine g_if_eq (pc := 11) (tgt := 37) C dX11_ask_11 (by decide) (fun _ => ?_) (fun c => absurd c (by decide))
    refine g_al0n (pc := 37) C dX11_ask_37 ?_
    refine g_ldc (pc := 38) C dX11_ask_38 kX11_57 ?_
    refine s_VI (pc := 40) (st := []) C h0 rfl (c_found0 (d := d - 1) (by omega) σ) (by omega) lX11_58 dX11_ask_40 rfl (Nat.le_of_ble_eq_true rfl) rfl ?_
    have hsp : sp_ask α p w g h m = FB α := by simp only [sp_ask, b_8, eq_self, ne_eq, not_true_eq_false, not_false_eq_true, Classical.not_not, decide_true, decide_false, and_true, true_and, and_false, false_and, and_self, or_true, true_or, or_false, false_or, or_self, if_true, if_false, ite_true, ite_false, Bool.eq_false_iff, Bool.not_eq_eq_eq_not, Bool.true_eq_false, Bool.false_eq_true, reduceCtorEq]
    exact r_P C hr dX11_ask_43 (by rw [hsp]; exact XPo_fnd hA hC (i := 0) (by decide) _)

theorem x_as {d : Nat} (hd : 4 ≤ d) (σ : Sg) {α : Al} (hA : IA α) (hC : RC σ α) (a x : Int32) : CP d mX11_as [.ref 0, .int a, .int x] σ (XPo σ (sp_as α a x)) := by
  have hI := hA.i
  have hR := hC.w
  refine con_of (by decide) (catL rfl) (Nat.le_of_ble_eq_true rfl) ?_
  intro μ ω C hr
  have C : Cx μ ω "TowField" cX11_as 3 d := C
  have hr : (mH μ).sig.returnType = some .int := hr
  show G μ ω (RQ μ ω (pP (XPo σ (sp_as α a x)))) 0 [some (.ref 0), some (.int a), some (.int x)] [] (mk σ) 0 0
  refine g_al0n (pc := 0) C dX11_as_0 ?_
  refine s_getR (pc := 1) C fX11_21 h0 rfl dX11_as_1 ?_
  refine s_getR (pc := 4) C fX11_190 (w0 (b := 12) isW12) rfl dX11_as_4 ?_
  refine g_il1n (pc := 7) C dX11_as_7 ?_
  refine s_VB (pc := 8) (st := []) C (w22 (b := 12) isW12) rfl (by have := c_hasX0 (d := d - 1) (by omega) σ isW12 a; rw [hR.a.1] at this; exact this) (by omega) lX11_200 dX11_as_8 rfl (Nat.le_of_ble_eq_true rfl) rfl (fun b_8 => ?_) (fun b_8 => ?_)
  · have hn7 := hI.n7.2
    obtain ⟨j, hj, rfl⟩ := (is_iff hI.n7.1 (by omega)).mp b_8
    have kj : (nI j).toNatClampNeg = j := nI_clamp (by omega)
    refine g_if_eq (pc := 11) (tgt := 21) C dX11_as_11 (by decide) (fun c => absurd c (by decide)) (fun _ => ?_)
    refine g_il2n (pc := 14) C dX11_as_14 ?_
    refine s_SB (pc := 15) (st := []) C (c_X2_has (d := d - 1) (by omega) σ x) (by omega) lX11_175 dX11_as_15 rfl (Nat.le_of_ble_eq_true rfl) rfl (fun b_15 => ?_) (fun b_15 => ?_)
    · obtain ⟨i, hi, rfl⟩ := rg b_15 (B := 5) (by decide)
      have ki : (nI i).toNatClampNeg = i := nI_clamp (by omega)
      refine g_if_ne (pc := 18) (tgt := 28) C dX11_as_18 (by decide) (fun _ => ?_) (fun c => absurd c (by decide))
      refine g_al0n (pc := 28) C dX11_as_28 ?_
      refine s_getR (pc := 29) C fX11_21 h0 rfl dX11_as_29 ?_
      refine s_getR (pc := 32) C fX11_190 (w0 (b := 12) isW12) rfl dX11_as_32 ?_
      refine s_getR (pc := 35) C fX11_202 (w22 (b := 12) isW12) rfl dX11_as_35 ?_
      refine g_il1n (pc := 38) C dX11_as_38 ?_
      refine s_ialdv (pc := 39) (q := j) (v := aN α (146 + 10 * j + 3)) C (w26 (b := 12) isW12) rfl (by omega) (Nat.le_of_ble_eq_true rfl) (hR.a3 (by omega)) dX11_as_39 ?_
      refine g_il2n (pc := 40) C dX11_as_40 ?_
      refine s_SB (pc := 41) (st := []) C (by obtain ⟨k, k1, k2, ek⟩ := (hI.2.2.2.2.2.1 j hj).2.2.2.1; have := c_isOrUnder (d := d - 1) (by omega) σ (k := k) k2 (nI i); rw [← ek] at this; exact this) (by omega) lX11_205 dX11_as_41 rfl (Nat.le_of_ble_eq_true rfl) rfl (fun b_41 => ?_) (fun b_41 => ?_)
      · refine g_if_ne (pc := 44) (tgt := 54) C dX11_as_44 (by decide) (fun _ => ?_) (fun c => absurd c (by decide))
        refine g_il1n (pc := 54) C dX11_as_54 ?_
        have b41 : undK (aN α (146 + 10 * j + 3)) (nI i) = true := b_41
        have hsp : sp_as α (nI j) (nI i) = (nI j, α) := by simp only [sp_as, b_8, b_15, b_41, kj, ki, b41, eq_self, ne_eq, not_true_eq_false, not_false_eq_true, Classical.not_not, decide_true, decide_false, and_true, true_and, and_false, false_and, and_self, or_true, true_or, or_false, false_or, or_self, if_true, if_false, ite_true, ite_false, Bool.eq_false_iff, Bool.not_eq_eq_eq_not, Bool.true_eq_false, Bool.false_eq_true, reduceCtorEq]
        exact r_P C hr dX11_as_55 (XPo_val hC hsp rfl)
      · refine g_if_ne (pc := 44) (tgt := 54) C dX11_as_44 (by decide) (fun c => absurd c (by decide)) (fun _ => ?_)
        refine g_al0n (pc := 47) C dX11_as_47 ?_
        refine g_ldc (pc := 48) C dX11_as_48 kX11_208 ?_
        refine s_VI (pc := 50) (st := []) C h0 rfl (c_found2 (d := d - 1) (by omega) σ) (by omega) lX11_58 dX11_as_50 rfl (Nat.le_of_ble_eq_true rfl) rfl ?_
        have b41 : ¬ undK (aN α (146 + 10 * j + 3)) (nI i) = true := b_41
        have hsp : sp_as α (nI j) (nI i) = FK α := by simp only [sp_as, b_8, b_15, b_41, kj, ki, b41, eq_self, ne_eq, not_true_eq_false, not_false_eq_true, Classical.not_not, decide_true, decide_false, and_true, true_and, and_false, false_and, and_self, or_true, true_or, or_false, false_or, or_self, if_true, if_false, ite_true, ite_false, Bool.eq_false_iff, Bool.not_eq_eq_eq_not, Bool.true_eq_false, Bool.false_eq_true, reduceCtorEq]
        exact r_P C hr dX11_as_53 (by rw [hsp]; exact XPo_fnd hA hC (i := 2) (by decide) _)
    · refine g_if_ne (pc := 18) (tgt := 28) C dX11_as_18 (by decide) (fun c => absurd c (by decide)) (fun _ => ?_)
      refine g_al0n (pc := 21) C dX11_as_21 ?_
      refine g_ldc (pc := 22) C dX11_as_22 kX11_57 ?_
      refine s_VI (pc := 24) (st := []) C h0 rfl (c_found0 (d := d - 1) (by omega) σ) (by omega) lX11_58 dX11_as_24 rfl (Nat.le_of_ble_eq_true rfl) rfl ?_
      have hsp : sp_as α (nI j) x = FB α := by simp only [sp_as, b_8, b_15, kj, eq_self, ne_eq, not_true_eq_false, not_false_eq_true, Classical.not_not, decide_true, decide_false, and_true, true_and, and_false, false_and, and_self, or_true, true_or, or_false, false_or, or_self, if_true, if_false, ite_true, ite_false, Bool.eq_false_iff, Bool.not_eq_eq_eq_not, Bool.true_eq_false, Bool.false_eq_true, reduceCtorEq]
      exact r_P C hr dX11_as_27 (by rw [hsp]; exact XPo_fnd hA hC (i := 0) (by decide) _)
  · refine g_if_eq (pc := 11) (tgt := 21) C dX11_as_11 (by decide) (fun _ => ?_) (fun c => absurd c (by decide))
    refine g_al0n (pc := 21) C dX11_as_21 ?_
    refine g_ldc (pc := 22) C dX11_as_22 kX11_57 ?_
    refine s_VI (pc := 24) (st := []) C h0 rfl (c_found0 (d := d - 1) (by omega) σ) (by omega) lX11_58 dX11_as_24 rfl (Nat.le_of_ble_eq_true rfl) rfl ?_
    have hsp : sp_as α a x = FB α := by simp only [sp_as, b_8, eq_self, ne_eq, not_true_eq_false, not_false_eq_true, Classical.not_not, decide_true, decide_false, and_true, true_and, and_false, false_and, and_self, or_true, true_or, or_false, false_or, or_self, if_true, if_false, ite_true, ite_false, Bool.eq_false_iff, Bool.not_eq_eq_eq_not, Bool.true_eq_false, Bool.false_eq_true, reduceCtorEq]
    exact r_P C hr dX11_as_27 (by rw [hsp]; exact XPo_fnd hA hC (i := 0) (by decide) _)

theorem x_back {d : Nat} (hd : 3 ≤ d) (σ : Sg) {α : Al} (hA : IA α) (hC : RC σ α) (a : Int32) : CP d mX11_back [.ref 0, .int a] σ (XPo σ (sp_back α a)) := by
  have hI := hA.i
  have hR := hC.w
  refine con_of (by decide) (catL rfl) (Nat.le_of_ble_eq_true rfl) ?_
  intro μ ω C hr
  have C : Cx μ ω "TowField" cX11_back 2 d := C
  have hr : (mH μ).sig.returnType = some .int := hr
  show G μ ω (RQ μ ω (pP (XPo σ (sp_back α a)))) 0 [some (.ref 0), some (.int a)] [] (mk σ) 0 0
  refine g_al0n (pc := 0) C dX11_back_0 ?_
  refine s_getR (pc := 1) C fX11_21 h0 rfl dX11_back_1 ?_
  refine s_getR (pc := 4) C fX11_190 (w0 (b := 12) isW12) rfl dX11_back_4 ?_
  refine g_il1n (pc := 7) C dX11_back_7 ?_
  refine s_VB (pc := 8) (st := []) C (w22 (b := 12) isW12) rfl (by have := c_hasX0 (d := d - 1) (by omega) σ isW12 a; rw [hR.a.1] at this; exact this) (by omega) lX11_200 dX11_back_8 rfl (Nat.le_of_ble_eq_true rfl) rfl (fun b_8 => ?_) (fun b_8 => ?_)
  · have hn7 := hI.n7.2
    obtain ⟨j, hj, rfl⟩ := (is_iff hI.n7.1 (by omega)).mp b_8
    have kj : (nI j).toNatClampNeg = j := nI_clamp (by omega)
    refine g_if_ne (pc := 11) (tgt := 21) C dX11_back_11 (by decide) (fun _ => ?_) (fun c => absurd c (by decide))
    refine g_al0n (pc := 21) C dX11_back_21 ?_
    refine s_getR (pc := 22) C fX11_21 h0 rfl dX11_back_22 ?_
    refine s_getR (pc := 25) C fX11_190 (w0 (b := 12) isW12) rfl dX11_back_25 ?_
    refine s_getR (pc := 28) C fX11_209 (w22 (b := 12) isW12) rfl dX11_back_28 ?_
    refine g_il1n (pc := 31) C dX11_back_31 ?_
    refine s_ialdv (pc := 32) (q := j) (v := aN α (146 + 10 * j + 6)) C (w31 (b := 12) isW12) rfl (by omega) (Nat.le_of_ble_eq_true rfl) (hR.a8 (by omega)) dX11_back_32 ?_
    refine g_if_eq (pc := 33) (tgt := 43) C dX11_back_33 (by decide) (fun c_33 => ?_) (fun c_33 => ?_)
    · refine g_al0n (pc := 43) C dX11_back_43 ?_
      refine s_getR (pc := 44) C fX11_21 h0 rfl dX11_back_44 ?_
      refine s_getR (pc := 47) C fX11_190 (w0 (b := 12) isW12) rfl dX11_back_47 ?_
      refine s_getR (pc := 50) C fX11_209 (w22 (b := 12) isW12) rfl dX11_back_50 ?_
      refine g_il1n (pc := 53) C dX11_back_53 ?_
      refine g_iconst (pc := 54) (v := 3) C dX11_back_54 (by decide) ?_
      refine s_iast (pc := 55) (q := j) C (w31 (b := 12) isW12) rfl (by omega) (Nat.le_of_ble_eq_true rfl) dX11_back_55 ?_
      refine g_iconst (pc := 56) (v := 1) C dX11_back_56 (by decide) ?_
      have hsp : sp_back α (nI j) = (1, sN α (upd (aN α) (146 + 10 * j + 6) 3)) := by simp only [sp_back, b_8, eq_true c_33, kj, eq_self, ne_eq, not_true_eq_false, not_false_eq_true, Classical.not_not, decide_true, decide_false, and_true, true_and, and_false, false_and, and_self, or_true, true_or, or_false, false_or, or_self, if_true, if_false, ite_true, ite_false, Bool.eq_false_iff, Bool.not_eq_eq_eq_not, Bool.true_eq_false, Bool.false_eq_true, reduceCtorEq]
      exact r_P C hr dX11_back_57 (XPo_now hA hC (W_back isW12 hI hR hj c_33) (Fz.up (z := 12) (k := 31) (by omega) Fz.rf) hsp rfl)
    · refine g_al0n (pc := 36) C dX11_back_36 ?_
      refine g_ldc (pc := 37) C dX11_back_37 kX11_137 ?_
      refine s_VI (pc := 39) (st := []) C h0 rfl (c_found4 (d := d - 1) (by omega) σ) (by omega) lX11_58 dX11_back_39 rfl (Nat.le_of_ble_eq_true rfl) rfl ?_
      have hsp : sp_back α (nI j) = FS α := by simp only [sp_back, b_8, c_33, kj, eq_self, ne_eq, not_true_eq_false, not_false_eq_true, Classical.not_not, decide_true, decide_false, and_true, true_and, and_false, false_and, and_self, or_true, true_or, or_false, false_or, or_self, if_true, if_false, ite_true, ite_false, Bool.eq_false_iff, Bool.not_eq_eq_eq_not, Bool.true_eq_false, Bool.false_eq_true, reduceCtorEq]
      exact r_P C hr dX11_back_42 (by rw [hsp]; exact XPo_fnd hA hC (i := 4) (by decide) _)
  · refine g_if_ne (pc := 11) (tgt := 21) C dX11_back_11 (by decide) (fun c => absurd c (by decide)) (fun _ => ?_)
    refine g_al0n (pc := 14) C dX11_back_14 ?_
    refine g_ldc (pc := 15) C dX11_back_15 kX11_57 ?_
    refine s_VI (pc := 17) (st := []) C h0 rfl (c_found0 (d := d - 1) (by omega) σ) (by omega) lX11_58 dX11_back_17 rfl (Nat.le_of_ble_eq_true rfl) rfl ?_
    have hsp : sp_back α a = FB α := by simp only [sp_back, b_8, eq_self, ne_eq, not_true_eq_false, not_false_eq_true, Classical.not_not, decide_true, decide_false, and_true, true_and, and_false, false_and, and_self, or_true, true_or, or_false, false_or, or_self, if_true, if_false, ite_true, ite_false, Bool.eq_false_iff, Bool.not_eq_eq_eq_not, Bool.true_eq_false, Bool.false_eq_true, reduceCtorEq]
    exact r_P C hr dX11_back_20 (by rw [hsp]; exact XPo_fnd hA hC (i := 0) (by decide) _)

theorem x_why {d : Nat} (hd : 6 ≤ d) (σ : Sg) {α : Al} (hA : IA α) (hC : RC σ α) (a : Int32) : CP d mX11_why [.ref 0, .int a] σ (XPo σ (sp_why α a)) := by
  have hI := hA.i
  have hR := hC.w
  refine con_of (by decide) (catL rfl) (Nat.le_of_ble_eq_true rfl) ?_
  intro μ ω C hr
  have C : Cx μ ω "TowField" cX11_why 2 d := C
  have hr : (mH μ).sig.returnType = some .int := hr
  show G μ ω (RQ μ ω (pP (XPo σ (sp_why α a)))) 0 [some (.ref 0), some (.int a)] [] (mk σ) 0 0
  refine g_al0n (pc := 0) C dX11_why_0 ?_
  refine s_getR (pc := 1) C fX11_21 h0 rfl dX11_why_1 ?_
  refine s_getR (pc := 4) C fX11_190 (w0 (b := 12) isW12) rfl dX11_why_4 ?_
  refine g_il1n (pc := 7) C dX11_why_7 ?_
  refine s_VB (pc := 8) (st := []) C (w22 (b := 12) isW12) rfl (by have := c_hasX0 (d := d - 1) (by omega) σ isW12 a; rw [hR.a.1] at this; exact this) (by omega) lX11_200 dX11_why_8 rfl (Nat.le_of_ble_eq_true rfl) rfl (fun b_8 => ?_) (fun b_8 => ?_)
  · have hn7 := hI.n7.2
    obtain ⟨j, hj, rfl⟩ := (is_iff hI.n7.1 (by omega)).mp b_8
    have kj : (nI j).toNatClampNeg = j := nI_clamp (by omega)
    refine g_if_ne (pc := 11) (tgt := 21) C dX11_why_11 (by decide) (fun _ => ?_) (fun c => absurd c (by decide))
    refine g_al0n (pc := 21) C dX11_why_21 ?_
    refine s_getR (pc := 22) C fX11_21 h0 rfl dX11_why_22 ?_
    refine s_getR (pc := 25) C fX11_190 (w0 (b := 12) isW12) rfl dX11_why_25 ?_
    refine s_getR (pc := 28) C fX11_209 (w22 (b := 12) isW12) rfl dX11_why_28 ?_
    refine g_il1n (pc := 31) C dX11_why_31 ?_
    refine s_ialdv (pc := 32) (q := j) (v := aN α (146 + 10 * j + 6)) C (w31 (b := 12) isW12) rfl (by omega) (Nat.le_of_ble_eq_true rfl) (hR.a8 (by omega)) dX11_why_32 ?_
    refine g_if_eq (pc := 33) (tgt := 43) C dX11_why_33 (by decide) (fun c_33 => ?_) (fun c_33 => ?_)
    · refine g_al0n (pc := 43) C dX11_why_43 ?_
      refine s_getR (pc := 44) C fX11_21 h0 rfl dX11_why_44 ?_
      refine g_il1n (pc := 47) C dX11_why_47 ?_
      refine g_al0n (pc := 48) C dX11_why_48 ?_
      refine s_getR (pc := 49) C fX11_21 h0 rfl dX11_why_49 ?_
      refine s_VP (pc := 52) (st := [(.int (nI j)), (.ref 12)]) C (w0 (b := 12) isW12) rfl (c_barred (d := d - 1) (by omega) σ isW12 hI hR) (by omega) lX11_210 dX11_why_52 rfl (Nat.le_of_ble_eq_true rfl) rfl (fun y τ1 hw_52 => ?_)
      obtain ⟨hB, hE1⟩ := hw_52
      have hR1 := hR.tx hI isW12 hE1
      refine s_VI (pc := 55) (st := []) C (w0 (b := 12) isW12) rfl (c_whyNot (d := d - 1) (by omega) τ1 isW12 hI hR1 (a := j) hj hA.x (hB j hj c_33)) (by omega) lX11_213 dX11_why_55 rfl (Nat.le_of_ble_eq_true rfl) rfl ?_
      have hsp : sp_why α (nI j) = (whyA (aN α) j, α) := by simp only [sp_why, b_8, eq_true c_33, kj, eq_self, ne_eq, not_true_eq_false, not_false_eq_true, Classical.not_not, decide_true, decide_false, and_true, true_and, and_false, false_and, and_self, or_true, true_or, or_false, false_or, or_self, if_true, if_false, ite_true, ite_false, Bool.eq_false_iff, Bool.not_eq_eq_eq_not, Bool.true_eq_false, Bool.false_eq_true, reduceCtorEq]
      exact r_P C hr dX11_why_58 (XPo_tx hA hC hE1 hsp rfl)
    · refine g_al0n (pc := 36) C dX11_why_36 ?_
      refine g_ldc (pc := 37) C dX11_why_37 kX11_137 ?_
      refine s_VI (pc := 39) (st := []) C h0 rfl (c_found4 (d := d - 1) (by omega) σ) (by omega) lX11_58 dX11_why_39 rfl (Nat.le_of_ble_eq_true rfl) rfl ?_
      have hsp : sp_why α (nI j) = FS α := by simp only [sp_why, b_8, c_33, kj, eq_self, ne_eq, not_true_eq_false, not_false_eq_true, Classical.not_not, decide_true, decide_false, and_true, true_and, and_false, false_and, and_self, or_true, true_or, or_false, false_or, or_self, if_true, if_false, ite_true, ite_false, Bool.eq_false_iff, Bool.not_eq_eq_eq_not, Bool.true_eq_false, Bool.false_eq_true, reduceCtorEq]
      exact r_P C hr dX11_why_42 (by rw [hsp]; exact XPo_fnd hA hC (i := 4) (by decide) _)
  · refine g_if_ne (pc := 11) (tgt := 21) C dX11_why_11 (by decide) (fun c => absurd c (by decide)) (fun _ => ?_)
    refine g_al0n (pc := 14) C dX11_why_14 ?_
    refine g_ldc (pc := 15) C dX11_why_15 kX11_57 ?_
    refine s_VI (pc := 17) (st := []) C h0 rfl (c_found0 (d := d - 1) (by omega) σ) (by omega) lX11_58 dX11_why_17 rfl (Nat.le_of_ble_eq_true rfl) rfl ?_
    have hsp : sp_why α a = FB α := by simp only [sp_why, b_8, eq_self, ne_eq, not_true_eq_false, not_false_eq_true, Classical.not_not, decide_true, decide_false, and_true, true_and, and_false, false_and, and_self, or_true, true_or, or_false, false_or, or_self, if_true, if_false, ite_true, ite_false, Bool.eq_false_iff, Bool.not_eq_eq_eq_not, Bool.true_eq_false, Bool.false_eq_true, reduceCtorEq]
    exact r_P C hr dX11_why_20 (by rw [hsp]; exact XPo_fnd hA hC (i := 0) (by decide) _)

theorem x_next {d : Nat} (hd : 7 ≤ d) (σ : Sg) {α : Al} (hA : IA α) (hC : RC σ α) : CP d mX11_next [.ref 0] σ (XPo σ (sp_next α)) := by
  have hI := hA.i
  have hR := hC.w
  refine con_of (by decide) (catL rfl) (Nat.le_of_ble_eq_true rfl) ?_
  intro μ ω C hr
  have C : Cx μ ω "TowField" cX11_next 1 d := C
  have hr : (mH μ).sig.returnType = some .int := hr
  show G μ ω (RQ μ ω (pP (XPo σ (sp_next α)))) 0 [some (.ref 0)] [] (mk σ) 0 0
  refine g_al0n (pc := 0) C dX11_next_0 ?_
  refine s_getR (pc := 1) C fX11_21 h0 rfl dX11_next_1 ?_
  refine g_al0n (pc := 4) C dX11_next_4 ?_
  refine s_getR (pc := 5) C fX11_21 h0 rfl dX11_next_5 ?_
  refine s_VP (pc := 8) (st := [(.ref 12)]) C (w0 (b := 12) isW12) rfl (c_barred (d := d - 1) (by omega) σ isW12 hI hR) (by omega) lX11_210 dX11_next_8 rfl (Nat.le_of_ble_eq_true rfl) rfl (fun y τ1 hw_8 => ?_)
  obtain ⟨hB, hE1⟩ := hw_8
  have hR1 := hR.tx hI isW12 hE1
  refine s_VI (pc := 11) (st := []) C (w0 (b := 12) isW12) rfl (c_first (d := d - 1) (by omega) τ1 isW12 hI hR1 hA.x hB) (by omega) lX11_219 dX11_next_11 rfl (Nat.le_of_ble_eq_true rfl) rfl ?_
  have hsp : sp_next α = (nextS (aN α), α) := by simp only [sp_next, eq_self, ne_eq, not_true_eq_false, not_false_eq_true, Classical.not_not, decide_true, decide_false, and_true, true_and, and_false, false_and, and_self, or_true, true_or, or_false, false_or, or_self, if_true, if_false, ite_true, ite_false, Bool.eq_false_iff, Bool.not_eq_eq_eq_not, Bool.true_eq_false, Bool.false_eq_true, reduceCtorEq]
  exact r_P C hr dX11_next_14 (XPo_tx hA hC hE1 hsp rfl)

theorem x_clear {d : Nat} (hd : 4 ≤ d) (σ : Sg) {α : Al} (hA : IA α) (hC : RC σ α) (l n : Int32) : CP d mX11_clear [.ref 0, .int l, .int n] σ (XPo σ (sp_clear α l n)) := by
  have hI := hA.i
  have hR := hC.w
  refine con_of (by decide) (catL rfl) (Nat.le_of_ble_eq_true rfl) ?_
  intro μ ω C hr
  have C : Cx μ ω "TowField" cX11_clear 3 d := C
  have hr : (mH μ).sig.returnType = some .int := hr
  show G μ ω (RQ μ ω (pP (XPo σ (sp_clear α l n)))) 0 [some (.ref 0), some (.int l), some (.int n)] [] (mk σ) 0 0
  refine g_il1n (pc := 0) C dX11_clear_0 ?_
  refine s_SB (pc := 1) (st := []) C (c_X3_has (d := d - 1) (by omega) σ l) (by omega) lX11_150 dX11_clear_1 rfl (Nat.le_of_ble_eq_true rfl) rfl (fun b_1 => ?_) (fun b_1 => ?_)
  · obtain ⟨i, hi, rfl⟩ := rg b_1 (B := 5) (by decide)
    have ki : (nI i).toNatClampNeg = i := nI_clamp (by omega)
    refine g_if_eq (pc := 4) (tgt := 17) C dX11_clear_4 (by decide) (fun c => absurd c (by decide)) (fun _ => ?_)
    refine g_il2n (pc := 7) C dX11_clear_7 ?_
    refine g_iconst (pc := 8) (v := 1) C dX11_clear_8 (by decide) ?_
    refine g_bipush (pc := 9) (v := 60) C dX11_clear_9 (by decide) ?_
    refine s_SB (pc := 11) (st := []) C (c_X11_within (d := d - 1) (by omega) σ n 1 60) (by omega) lX11_53 dX11_clear_11 rfl (Nat.le_of_ble_eq_true rfl) rfl (fun b_11 => ?_) (fun b_11 => ?_)
    · obtain ⟨k, hk, rfl⟩ := rgL b_11 (by decide) (B := 60) (by decide)
      have kk : (nI k).toNatClampNeg = k := nI_clamp (by omega)
      refine g_if_ne (pc := 14) (tgt := 24) C dX11_clear_14 (by decide) (fun _ => ?_) (fun c => absurd c (by decide))
      refine g_al0n (pc := 24) C dX11_clear_24 ?_
      refine s_getR (pc := 25) C fX11_21 h0 rfl dX11_clear_25 ?_
      refine s_getR (pc := 28) C fX11_153 (w0 (b := 12) isW12) rfl dX11_clear_28 ?_
      refine g_il1n (pc := 31) C dX11_clear_31 ?_
      refine g_al0n (pc := 32) C dX11_clear_32 ?_
      refine s_getR (pc := 33) C fX11_21 h0 rfl dX11_clear_33 ?_
      refine s_getIv (pc := 36) (v := aN α 0) C fX11_138 (w0 (b := 12) isW12) rfl hR.min dX11_clear_36 ?_
      refine g_il2n (pc := 39) C dX11_clear_39 ?_
      refine s_VB (pc := 40) (st := []) C (w16 (b := 12) isW12) rfl (by have := c_clr (d := d - 1) (by omega) σ isW12 hI hR (x := nI i) (y := nI k) ⟨i, by omega, rfl⟩ ⟨k, (nI_leI (a := 1) (by decide) (by omega)).mp b_11.1, by omega, rfl⟩; rw [ki] at this; exact this) (by omega) lX11_216 dX11_clear_40 rfl (Nat.le_of_ble_eq_true rfl) rfl (fun b_40 => ?_) (fun b_40 => ?_)
      · refine g_if_eq (pc := 43) (tgt := 50) C dX11_clear_43 (by decide) (fun c => absurd c (by decide)) (fun _ => ?_)
        refine g_iconst (pc := 46) (v := 1) C dX11_clear_46 (by decide) ?_
        refine g_goto (pc := 47) (tgt := 51) C dX11_clear_47 (by decide) ?_
        have hsp : sp_clear α (nI i) (nI k) = (if clearL (aN α) i = true then 1 else 0, α) := by simp only [sp_clear, b_1, b_11, b_40, ki, kk, eq_self, ne_eq, not_true_eq_false, not_false_eq_true, Classical.not_not, decide_true, decide_false, and_true, true_and, and_false, false_and, and_self, or_true, true_or, or_false, false_or, or_self, if_true, if_false, ite_true, ite_false, Bool.eq_false_iff, Bool.not_eq_eq_eq_not, Bool.true_eq_false, Bool.false_eq_true, reduceCtorEq]
        exact r_P C hr dX11_clear_51 (XPo_val hC hsp (if_pos b_40).symm)
      · refine g_if_eq (pc := 43) (tgt := 50) C dX11_clear_43 (by decide) (fun _ => ?_) (fun c => absurd c (by decide))
        refine g_iconst (pc := 50) (v := 0) C dX11_clear_50 (by decide) ?_
        have hsp : sp_clear α (nI i) (nI k) = (if clearL (aN α) i = true then 1 else 0, α) := by simp only [sp_clear, b_1, b_11, b_40, ki, kk, eq_self, ne_eq, not_true_eq_false, not_false_eq_true, Classical.not_not, decide_true, decide_false, and_true, true_and, and_false, false_and, and_self, or_true, true_or, or_false, false_or, or_self, if_true, if_false, ite_true, ite_false, Bool.eq_false_iff, Bool.not_eq_eq_eq_not, Bool.true_eq_false, Bool.false_eq_true, reduceCtorEq]
        exact r_P C hr dX11_clear_51 (XPo_val hC hsp (if_neg b_40).symm)
    · refine g_if_ne (pc := 14) (tgt := 24) C dX11_clear_14 (by decide) (fun c => absurd c (by decide)) (fun _ => ?_)
      refine g_al0n (pc := 17) C dX11_clear_17 ?_
      refine g_ldc (pc := 18) C dX11_clear_18 kX11_57 ?_
      refine s_VI (pc := 20) (st := []) C h0 rfl (c_found0 (d := d - 1) (by omega) σ) (by omega) lX11_58 dX11_clear_20 rfl (Nat.le_of_ble_eq_true rfl) rfl ?_
      have hsp : sp_clear α (nI i) n = FB α := by simp only [sp_clear, b_1, b_11, ki, eq_self, ne_eq, not_true_eq_false, not_false_eq_true, Classical.not_not, decide_true, decide_false, and_true, true_and, and_false, false_and, and_self, or_true, true_or, or_false, false_or, or_self, if_true, if_false, ite_true, ite_false, Bool.eq_false_iff, Bool.not_eq_eq_eq_not, Bool.true_eq_false, Bool.false_eq_true, reduceCtorEq]
      exact r_P C hr dX11_clear_23 (by rw [hsp]; exact XPo_fnd hA hC (i := 0) (by decide) _)
  · refine g_if_eq (pc := 4) (tgt := 17) C dX11_clear_4 (by decide) (fun _ => ?_) (fun c => absurd c (by decide))
    refine g_al0n (pc := 17) C dX11_clear_17 ?_
    refine g_ldc (pc := 18) C dX11_clear_18 kX11_57 ?_
    refine s_VI (pc := 20) (st := []) C h0 rfl (c_found0 (d := d - 1) (by omega) σ) (by omega) lX11_58 dX11_clear_20 rfl (Nat.le_of_ble_eq_true rfl) rfl ?_
    have hsp : sp_clear α l n = FB α := by simp only [sp_clear, b_1, eq_self, ne_eq, not_true_eq_false, not_false_eq_true, Classical.not_not, decide_true, decide_false, and_true, true_and, and_false, false_and, and_self, or_true, true_or, or_false, false_or, or_self, if_true, if_false, ite_true, ite_false, Bool.eq_false_iff, Bool.not_eq_eq_eq_not, Bool.true_eq_false, Bool.false_eq_true, reduceCtorEq]
    exact r_P C hr dX11_clear_23 (by rw [hsp]; exact XPo_fnd hA hC (i := 0) (by decide) _)

theorem x_force {d : Nat} (hd : 3 ≤ d) (σ : Sg) {α : Al} (hA : IA α) (hC : RC σ α) (u : Int32) : CP d mX11_force [.ref 0, .int u] σ (XPo σ (sp_force α u)) := by
  have hI := hA.i
  have hR := hC.w
  refine con_of (by decide) (catL rfl) (Nat.le_of_ble_eq_true rfl) ?_
  intro μ ω C hr
  have C : Cx μ ω "TowField" cX11_force 2 d := C
  have hr : (mH μ).sig.returnType = some .int := hr
  show G μ ω (RQ μ ω (pP (XPo σ (sp_force α u)))) 0 [some (.ref 0), some (.int u)] [] (mk σ) 0 0
  refine g_il1n (pc := 0) C dX11_force_0 ?_
  refine g_iconst (pc := 1) (v := 0) C dX11_force_1 (by decide) ?_
  refine g_iconst (pc := 2) (v := 1) C dX11_force_2 (by decide) ?_
  refine s_SB (pc := 3) (st := []) C (c_X11_within (d := d - 1) (by omega) σ u 0 1) (by omega) lX11_53 dX11_force_3 rfl (Nat.le_of_ble_eq_true rfl) rfl (fun b_3 => ?_) (fun b_3 => ?_)
  · obtain ⟨j, hj, rfl⟩ := rgL b_3 (by decide) (B := 1) (by decide)
    have kj : (nI j).toNatClampNeg = j := nI_clamp (by omega)
    refine g_if_ne (pc := 6) (tgt := 16) C dX11_force_6 (by decide) (fun _ => ?_) (fun c => absurd c (by decide))
    have hn8 := hI.n8.2
    cases ho : textU (aN α) (nI j) with
    | none =>
      refine g_al0n (pc := 16) C dX11_force_16 ?_
      refine s_getR (pc := 17) C fX11_21 h0 rfl dX11_force_17 ?_
      refine s_getR (pc := 20) C fX11_241 (w0 (b := 12) isW12) rfl dX11_force_20 ?_
      refine g_il1n (pc := 23) C dX11_force_23 ?_
      refine s_ialdv (pc := 24) (q := j) (v := (-1)) C (w36 (b := 12) isW12) rfl (by omega) (Nat.le_of_ble_eq_true rfl) (by rw [show σ 48 j = σ (12 + 36) j from rfl, hR.frc (by omega), ho]; rfl) dX11_force_24 ?_
      refine g_if_geL (pc := 25) (tgt := 35) C dX11_force_25 (by decide) (fun c => absurd c (by decide)) (fun _ => ?_)
      refine g_al0n (pc := 28) C dX11_force_28 ?_
      refine g_ldc (pc := 29) C dX11_force_29 kX11_244 ?_
      refine s_VI (pc := 31) (st := []) C h0 rfl (c_found3 (d := d - 1) (by omega) σ) (by omega) lX11_58 dX11_force_31 rfl (Nat.le_of_ble_eq_true rfl) rfl ?_
      have hsp : sp_force α (nI j) = FN α := by simp only [sp_force, b_3, kj, ho, eq_self, ne_eq, not_true_eq_false, not_false_eq_true, Classical.not_not, decide_true, decide_false, and_true, true_and, and_false, false_and, and_self, or_true, true_or, or_false, false_or, or_self, if_true, if_false, ite_true, ite_false, Bool.eq_false_iff, Bool.not_eq_eq_eq_not, Bool.true_eq_false, Bool.false_eq_true, reduceCtorEq]
      exact r_P C hr dX11_force_34 (by rw [hsp]; exact XPo_fnd hA hC (i := 3) (by decide) _)
    | some t =>
      have hT := textU_lt ho
      refine g_al0n (pc := 16) C dX11_force_16 ?_
      refine s_getR (pc := 17) C fX11_21 h0 rfl dX11_force_17 ?_
      refine s_getR (pc := 20) C fX11_241 (w0 (b := 12) isW12) rfl dX11_force_20 ?_
      refine g_il1n (pc := 23) C dX11_force_23 ?_
      refine s_ialdv (pc := 24) (q := j) (v := nI t) C (w36 (b := 12) isW12) rfl (by omega) (Nat.le_of_ble_eq_true rfl) (by rw [show σ 48 j = σ (12 + 36) j from rfl, hR.frc (by omega), ho]; rfl) dX11_force_24 ?_
      refine g_if_geL (pc := 25) (tgt := 35) C dX11_force_25 (by decide) (fun c_25 => ?_) (fun c_25 => absurd c_25 (nI_pos (by omega)))
      refine g_al0n (pc := 35) C dX11_force_35 ?_
      refine s_getR (pc := 36) C fX11_21 h0 rfl dX11_force_36 ?_
      refine s_getR (pc := 39) C fX11_241 (w0 (b := 12) isW12) rfl dX11_force_39 ?_
      refine g_il1n (pc := 42) C dX11_force_42 ?_
      refine s_ialdv (pc := 43) (q := j) (v := nI t) C (w36 (b := 12) isW12) rfl (by omega) (Nat.le_of_ble_eq_true rfl) (by rw [show σ 48 j = σ (12 + 36) j from rfl, hR.frc (by omega), ho]; rfl) dX11_force_43 ?_
      have hsp : sp_force α (nI j) = (nI t, α) := by simp only [sp_force, b_3, kj, ho, eq_self, ne_eq, not_true_eq_false, not_false_eq_true, Classical.not_not, decide_true, decide_false, and_true, true_and, and_false, false_and, and_self, or_true, true_or, or_false, false_or, or_self, if_true, if_false, ite_true, ite_false, Bool.eq_false_iff, Bool.not_eq_eq_eq_not, Bool.true_eq_false, Bool.false_eq_true, reduceCtorEq]
      exact r_P C hr dX11_force_44 (XPo_val hC hsp rfl)
  · refine g_if_ne (pc := 6) (tgt := 16) C dX11_force_6 (by decide) (fun c => absurd c (by decide)) (fun _ => ?_)
    refine g_al0n (pc := 9) C dX11_force_9 ?_
    refine g_ldc (pc := 10) C dX11_force_10 kX11_57 ?_
    refine s_VI (pc := 12) (st := []) C h0 rfl (c_found0 (d := d - 1) (by omega) σ) (by omega) lX11_58 dX11_force_12 rfl (Nat.le_of_ble_eq_true rfl) rfl ?_
    have hsp : sp_force α u = FB α := by simp only [sp_force, b_3, eq_self, ne_eq, not_true_eq_false, not_false_eq_true, Classical.not_not, decide_true, decide_false, and_true, true_and, and_false, false_and, and_self, or_true, true_or, or_false, false_or, or_self, if_true, if_false, ite_true, ite_false, Bool.eq_false_iff, Bool.not_eq_eq_eq_not, Bool.true_eq_false, Bool.false_eq_true, reduceCtorEq]
    exact r_P C hr dX11_force_15 (by rw [hsp]; exact XPo_fnd hA hC (i := 0) (by decide) _)

theorem x_says {d : Nat} (hd : 4 ≤ d) (σ : Sg) {α : Al} (hA : IA α) (hC : RC σ α) (t h m k : Int32) : CP d mX11_says [.ref 0, .int t, .int h, .int m, .int k] σ (XPo σ (sp_says α t h m k)) := by
  have hI := hA.i
  have hR := hC.w
  refine con_of (by decide) (catL rfl) (Nat.le_of_ble_eq_true rfl) ?_
  intro μ ω C hr
  have C : Cx μ ω "TowField" cX11_says 5 d := C
  have hr : (mH μ).sig.returnType = some .int := hr
  show G μ ω (RQ μ ω (pP (XPo σ (sp_says α t h m k)))) 0 [some (.ref 0), some (.int t), some (.int h), some (.int m), some (.int k)] [] (mk σ) 0 0
  refine g_il1n (pc := 0) C dX11_says_0 ?_
  refine g_iconst (pc := 1) (v := 0) C dX11_says_1 (by decide) ?_
  refine g_al0n (pc := 2) C dX11_says_2 ?_
  refine s_getR (pc := 3) C fX11_21 h0 rfl dX11_says_3 ?_
  refine s_getIv (pc := 6) (v := aN α 8) C fX11_226 (w0 (b := 12) isW12) rfl hR.txc dX11_says_6 ?_
  refine g_iconst (pc := 9) (v := 1) C dX11_says_9 (by decide) ?_
  refine g_isub (pc := 10) C dX11_says_10 ?_
  refine s_SB (pc := 11) (st := []) C (c_X11_within (d := d - 1) (by omega) σ t 0 ((aN α 8) - 1)) (by omega) lX11_53 dX11_says_11 rfl (Nat.le_of_ble_eq_true rfl) rfl (fun b_11 => ?_) (fun b_11 => ?_)
  · have hn8 := hI.n8.2
    obtain ⟨j, hj, rfl⟩ := (is_iff hI.n8.1 (by omega)).mp b_11
    have kj : (nI j).toNatClampNeg = j := nI_clamp (by omega)
    refine g_if_ne (pc := 14) (tgt := 24) C dX11_says_14 (by decide) (fun _ => ?_) (fun c => absurd c (by decide))
    refine g_al0n (pc := 24) C dX11_says_24 ?_
    refine s_getR (pc := 25) C fX11_10 h0 rfl dX11_says_25 ?_
    refine g_il1n (pc := 28) C dX11_says_28 ?_
    refine g_il2n (pc := 29) C dX11_says_29 ?_
    refine g_il3n (pc := 30) C dX11_says_30 ?_
    refine g_il4 (pc := 31) C dX11_says_31 ?_
    refine g_al0n (pc := 33) C dX11_says_33 ?_
    refine s_getR (pc := 34) C fX11_21 h0 rfl dX11_says_34 ?_
    refine s_getIv (pc := 37) (v := aN α 1) C fX11_163 (w0 (b := 12) isW12) rfl hR.wnd dX11_says_37 ?_
    refine s_VP (pc := 40) (st := []) C h1 rfl (c_value (d := d - 1) (by omega) σ (t := j) (by omega) (hR.t j hj) h m k (aN α 1)) (by omega) lX11_245 dX11_says_40 rfl (Nat.le_of_ble_eq_true rfl) rfl (fun v τ hw => ?_)
    obtain ⟨hv, hE⟩ := hw
    have hsp : sp_says α (nI j) h m k = (worth (aN α) j h m k, α) := by simp only [sp_says, b_11, kj, eq_self, ne_eq, not_true_eq_false, not_false_eq_true, Classical.not_not, decide_true, decide_false, and_true, true_and, and_false, false_and, and_self, or_true, true_or, or_false, false_or, or_self, if_true, if_false, ite_true, ite_false, Bool.eq_false_iff, Bool.not_eq_eq_eq_not, Bool.true_eq_false, Bool.false_eq_true, reduceCtorEq]
    exact r_P C hr dX11_says_43 (XPo_tx hA hC hE hsp hv)
  · refine g_if_ne (pc := 14) (tgt := 24) C dX11_says_14 (by decide) (fun c => absurd c (by decide)) (fun _ => ?_)
    refine g_al0n (pc := 17) C dX11_says_17 ?_
    refine g_ldc (pc := 18) C dX11_says_18 kX11_57 ?_
    refine s_VI (pc := 20) (st := []) C h0 rfl (c_found0 (d := d - 1) (by omega) σ) (by omega) lX11_58 dX11_says_20 rfl (Nat.le_of_ble_eq_true rfl) rfl ?_
    have hsp : sp_says α t h m k = FB α := by simp only [sp_says, b_11, eq_self, ne_eq, not_true_eq_false, not_false_eq_true, Classical.not_not, decide_true, decide_false, and_true, true_and, and_false, false_and, and_self, or_true, true_or, or_false, false_or, or_self, if_true, if_false, ite_true, ite_false, Bool.eq_false_iff, Bool.not_eq_eq_eq_not, Bool.true_eq_false, Bool.false_eq_true, reduceCtorEq]
    exact r_P C hr dX11_says_23 (by rw [hsp]; exact XPo_fnd hA hC (i := 0) (by decide) _)

theorem x_run {d : Nat} (hd : 8 ≤ d) (σ : Sg) {α : Al} (hA : IA α) (hC : RC σ α) (n : Int32) : CP d mX11_run [.ref 0, .int n] σ (XPo σ (sp_run α n)) := by
  have hI := hA.i
  have hR := hC.w
  obtain ⟨m0, hm9, hm0⟩ := hA.m
  refine con_of (by decide) (catL rfl) (Nat.le_of_ble_eq_true rfl) ?_
  intro μ ω C hr
  have C : Cx μ ω "TowField" cX11_run 2 d := C
  have hr : (mH μ).sig.returnType = some .int := hr
  show G μ ω (RQ μ ω (pP (XPo σ (sp_run α n)))) 0 [some (.ref 0), some (.int n)] [] (mk σ) 0 0
  refine g_il1n (pc := 0) C dX11_run_0 ?_
  refine g_iconst (pc := 1) (v := 1) C dX11_run_1 (by decide) ?_
  refine g_bipush (pc := 2) (v := 100) C dX11_run_2 (by decide) ?_
  refine s_SB (pc := 4) (st := []) C (c_X11_within (d := d - 1) (by omega) σ n 1 100) (by omega) lX11_53 dX11_run_4 rfl (Nat.le_of_ble_eq_true rfl) rfl (fun b_4 => ?_) (fun b_4 => ?_)
  · obtain ⟨j, hj, rfl⟩ := rgL b_4 (by decide) (B := 100) (by decide)
    have kj : (nI j).toNatClampNeg = j := nI_clamp (by omega)
    refine g_if_ne (pc := 7) (tgt := 17) C dX11_run_7 (by decide) (fun _ => ?_) (fun c => absurd c (by decide))
    refine g_al0n (pc := 17) C dX11_run_17 ?_
    refine s_getR (pc := 18) C fX11_21 h0 rfl dX11_run_18 ?_
    refine s_getIv (pc := 21) (v := aN α 0) C fX11_138 (w0 (b := 12) isW12) rfl hR.min dX11_run_21 ?_
    refine g_il1n (pc := 24) C dX11_run_24 ?_
    refine g_iadd (pc := 25) C dX11_run_25 ?_
    refine g_sipush (pc := 26) (v := 900) C dX11_run_26 (by decide) ?_
    refine g_icmp_leL (pc := 29) (tgt := 39) C dX11_run_29 (by decide) (fun c_29 => ?_) (fun c_29 => ?_)
    · refine g_al0n (pc := 39) C dX11_run_39 ?_
      refine s_getR (pc := 40) C fX11_21 h0 rfl dX11_run_40 ?_
      refine g_il1n (pc := 43) C dX11_run_43 ?_
      refine s_VP (pc := 44) (st := []) C (w0 (b := 12) isW12) rfl (c_go (d := d - 1) (by omega) σ isW12 hI hR hA.x (m := m0) (n := j) hm0 (by omega)) (by omega) lX11_248 dX11_run_44 rfl (Nat.le_of_ble_eq_true rfl) rfl (fun v τ hw => ?_)
      obtain ⟨hv, hR2, hF2⟩ := hw
      refine g_pop (pc := 47) C dX11_run_47 rfl ?_
      refine g_al0n (pc := 48) C dX11_run_48 ?_
      refine s_getR (pc := 49) C fX11_21 h0 rfl dX11_run_49 ?_
      refine s_getIv (pc := 52) (v := runS (aN α) j 0) C fX11_138 (w0 (b := 12) isW12) rfl hR2.min dX11_run_52 ?_
      have hsp : sp_run α (nI j) = (runS (aN α) j 0, sN α (runS (aN α) j)) := by simp only [sp_run, b_4, c_29, kj, eq_self, ne_eq, not_true_eq_false, not_false_eq_true, Classical.not_not, decide_true, decide_false, and_true, true_and, and_false, false_and, and_self, or_true, true_or, or_false, false_or, or_self, if_true, if_false, ite_true, ite_false, Bool.eq_false_iff, Bool.not_eq_eq_eq_not, Bool.true_eq_false, Bool.false_eq_true, reduceCtorEq]
      exact r_P C hr dX11_run_55 (XPo_now hA hC hR2 hF2 hsp rfl)
    · refine g_al0n (pc := 32) C dX11_run_32 ?_
      refine g_ldc (pc := 33) C dX11_run_33 kX11_82 ?_
      refine s_VI (pc := 35) (st := []) C h0 rfl (c_found1 (d := d - 1) (by omega) σ) (by omega) lX11_58 dX11_run_35 rfl (Nat.le_of_ble_eq_true rfl) rfl ?_
      have hsp : sp_run α (nI j) = FF α := by simp only [sp_run, b_4, c_29, kj, eq_self, ne_eq, not_true_eq_false, not_false_eq_true, Classical.not_not, decide_true, decide_false, and_true, true_and, and_false, false_and, and_self, or_true, true_or, or_false, false_or, or_self, if_true, if_false, ite_true, ite_false, Bool.eq_false_iff, Bool.not_eq_eq_eq_not, Bool.true_eq_false, Bool.false_eq_true, reduceCtorEq]
      exact r_P C hr dX11_run_38 (by rw [hsp]; exact XPo_fnd hA hC (i := 1) (by decide) _)
  · refine g_if_ne (pc := 7) (tgt := 17) C dX11_run_7 (by decide) (fun c => absurd c (by decide)) (fun _ => ?_)
    refine g_al0n (pc := 10) C dX11_run_10 ?_
    refine g_ldc (pc := 11) C dX11_run_11 kX11_57 ?_
    refine s_VI (pc := 13) (st := []) C h0 rfl (c_found0 (d := d - 1) (by omega) σ) (by omega) lX11_58 dX11_run_13 rfl (Nat.le_of_ble_eq_true rfl) rfl ?_
    have hsp : sp_run α n = FB α := by simp only [sp_run, b_4, eq_self, ne_eq, not_true_eq_false, not_false_eq_true, Classical.not_not, decide_true, decide_false, and_true, true_and, and_false, false_and, and_self, or_true, true_or, or_false, false_or, or_self, if_true, if_false, ite_true, ite_false, Bool.eq_false_iff, Bool.not_eq_eq_eq_not, Bool.true_eq_false, Bool.false_eq_true, reduceCtorEq]
    exact r_P C hr dX11_run_16 (by rw [hsp]; exact XPo_fnd hA hC (i := 0) (by decide) _)

theorem x_ahead {d : Nat} (hd : 8 ≤ d) (σ : Sg) {α : Al} (hA : IA α) (hC : RC σ α) (n w : Int32) : CP d mX11_ahead [.ref 0, .int n, .int w] σ (XPo σ (sp_ahead α n w)) := by
  have hI := hA.i
  have hR := hC.w
  obtain ⟨m0, hm9, hm0⟩ := hA.m
  refine con_of (by decide) (catL rfl) (Nat.le_of_ble_eq_true rfl) ?_
  intro μ ω C hr
  have C : Cx μ ω "TowField" cX11_ahead 4 d := C
  have hr : (mH μ).sig.returnType = some .int := hr
  show G μ ω (RQ μ ω (pP (XPo σ (sp_ahead α n w)))) 0 [some (.ref 0), some (.int n), some (.int w), none] [] (mk σ) 0 0
  refine g_il1n (pc := 0) C dX11_ahead_0 ?_
  refine g_iconst (pc := 1) (v := 0) C dX11_ahead_1 (by decide) ?_
  refine g_sipush (pc := 2) (v := 200) C dX11_ahead_2 (by decide) ?_
  refine s_SB (pc := 5) (st := []) C (c_X11_within (d := d - 1) (by omega) σ n 0 200) (by omega) lX11_53 dX11_ahead_5 rfl (Nat.le_of_ble_eq_true rfl) rfl (fun b_5 => ?_) (fun b_5 => ?_)
  · obtain ⟨j, hj, rfl⟩ := rgL b_5 (by decide) (B := 200) (by decide)
    have kj : (nI j).toNatClampNeg = j := nI_clamp (by omega)
    refine g_if_eq (pc := 8) (tgt := 20) C dX11_ahead_8 (by decide) (fun c => absurd c (by decide)) (fun _ => ?_)
    refine g_il2n (pc := 11) C dX11_ahead_11 ?_
    refine g_iconst (pc := 12) (v := 0) C dX11_ahead_12 (by decide) ?_
    refine g_iconst (pc := 13) (v := 3) C dX11_ahead_13 (by decide) ?_
    refine s_SB (pc := 14) (st := []) C (c_X11_within (d := d - 1) (by omega) σ w 0 3) (by omega) lX11_53 dX11_ahead_14 rfl (Nat.le_of_ble_eq_true rfl) rfl (fun b_14 => ?_) (fun b_14 => ?_)
    · obtain ⟨i, hi, rfl⟩ := rgL b_14 (by decide) (B := 3) (by decide)
      have ki : (nI i).toNatClampNeg = i := nI_clamp (by omega)
      refine g_if_ne (pc := 17) (tgt := 27) C dX11_ahead_17 (by decide) (fun _ => ?_) (fun c => absurd c (by decide))
      refine g_al0n (pc := 27) C dX11_ahead_27 ?_
      refine s_getR (pc := 28) C fX11_28 h0 rfl dX11_ahead_28 ?_
      refine g_al0n (pc := 31) C dX11_ahead_31 ?_
      refine s_getR (pc := 32) C fX11_21 h0 rfl dX11_ahead_32 ?_
      refine s_VQ (pc := 35) (st := []) C (w0 (b := 86) isW86) rfl (c_become (d := d - 1) (by omega) σ isW12 isW86 (by omega) hI hR) (by omega) lX11_251 dX11_ahead_35 rfl (Nat.le_of_ble_eq_true rfl) rfl (fun τ1 hw1 => ?_)
      obtain ⟨hR1, hq1⟩ := hw1
      refine g_al0n (pc := 38) C dX11_ahead_38 ?_
      refine s_getR (pc := 39) C fX11_28 h0 rfl dX11_ahead_39 ?_
      refine g_il1n (pc := 42) C dX11_ahead_42 ?_
      refine s_VP (pc := 43) (st := []) C (w0 (b := 86) isW86) rfl (c_go (d := d - 1) (by omega) τ1 isW86 hI hR1 hA.x (m := m0) (n := j) hm0 (by omega)) (by omega) lX11_248 dX11_ahead_43 rfl (Nat.le_of_ble_eq_true rfl) rfl (fun v τ2 hw2 => ?_)
      obtain ⟨hv, hR2, hF2⟩ := hw2
      refine g_is3n (pc := 46) C dX11_ahead_46 ?_
      rcases (show i = 0 ∨ i = 1 ∨ i = 2 ∨ i = 3 by omega) with rfl | rfl | rfl | rfl
      · refine g_il2n (pc := 47) C dX11_ahead_47 ?_
        refine g_tabIn (pc := 48) (tgt := 76) (off := 28) C dX11_ahead_48 (by decide) (by decide) (by decide) (by decide) ?_
        refine g_il3n (pc := 76) C dX11_ahead_76 ?_
        refine g_sipush (pc := 77) (v := 1000) C dX11_ahead_77 (by decide) ?_
        refine g_irem (pc := 80) C dX11_ahead_80 (by decide) ?_
        have hsp : sp_ahead α (nI j) (nI 0) = (launS (aN α) j, α) := by simp only [sp_ahead, b_5, b_14, kj, show (nI 0 = (0 : Int32)) = True from eq_true rfl, eq_self, ne_eq, not_true_eq_false, not_false_eq_true, Classical.not_not, decide_true, decide_false, and_true, true_and, and_false, false_and, and_self, or_true, true_or, or_false, false_or, or_self, if_true, if_false, ite_true, ite_false, Bool.eq_false_iff, Bool.not_eq_eq_eq_not, Bool.true_eq_false, Bool.false_eq_true, reduceCtorEq]
        exact r_P C hr dX11_ahead_81 (XPo_try hA hC (try_fz hq1 hF2) hsp (by rw [hv]; exact go_laun _ (by omega)))
      · refine g_il2n (pc := 47) C dX11_ahead_47 ?_
        refine g_tabIn (pc := 48) (tgt := 82) (off := 34) C dX11_ahead_48 (by decide) (by decide) (by decide) (by decide) ?_
        refine g_il3n (pc := 82) C dX11_ahead_82 ?_
        refine g_sipush (pc := 83) (v := 1000) C dX11_ahead_83 (by decide) ?_
        refine g_idiv (pc := 86) C dX11_ahead_86 (by decide) ?_
        have hsp : sp_ahead α (nI j) (nI 1) = (landS (aN α) j, α) := by simp only [sp_ahead, b_5, b_14, kj, show (nI 1 = (0 : Int32)) = False from eq_false (by decide), show (nI 1 = (1 : Int32)) = True from eq_true rfl, eq_self, ne_eq, not_true_eq_false, not_false_eq_true, Classical.not_not, decide_true, decide_false, and_true, true_and, and_false, false_and, and_self, or_true, true_or, or_false, false_or, or_self, if_true, if_false, ite_true, ite_false, Bool.eq_false_iff, Bool.not_eq_eq_eq_not, Bool.true_eq_false, Bool.false_eq_true, reduceCtorEq]
        exact r_P C hr dX11_ahead_87 (XPo_try hA hC (try_fz hq1 hF2) hsp (by rw [hv]; exact go_land _ (by omega)))
      · refine g_il2n (pc := 47) C dX11_ahead_47 ?_
        refine g_tabIn (pc := 48) (tgt := 88) (off := 40) C dX11_ahead_48 (by decide) (by decide) (by decide) (by decide) ?_
        refine g_al0n (pc := 88) C dX11_ahead_88 ?_
        refine s_getR (pc := 89) C fX11_28 h0 rfl dX11_ahead_89 ?_
        refine s_getR (pc := 92) C fX11_190 (w0 (b := 86) isW86) rfl dX11_ahead_92 ?_
        refine g_iconst (pc := 95) (v := 1) C dX11_ahead_95 (by decide) ?_
        refine s_VI (pc := 96) (st := []) C (w22 (b := 86) isW86) rfl (c_thatAre (d := d - 1) (by omega) τ2 isW86 (INV_run hI hm0 j (by omega)).1 hR2 1) (by omega) lX11_255 dX11_ahead_96 rfl (Nat.le_of_ble_eq_true rfl) rfl ?_
        have hsp : sp_ahead α (nI j) (nI 2) = (setS (runS (aN α) j) 1, α) := by simp only [sp_ahead, b_5, b_14, kj, show (nI 2 = (0 : Int32)) = False from eq_false (by decide), show (nI 2 = (1 : Int32)) = False from eq_false (by decide), show (nI 2 = (2 : Int32)) = True from eq_true rfl, eq_self, ne_eq, not_true_eq_false, not_false_eq_true, Classical.not_not, decide_true, decide_false, and_true, true_and, and_false, false_and, and_self, or_true, true_or, or_false, false_or, or_self, if_true, if_false, ite_true, ite_false, Bool.eq_false_iff, Bool.not_eq_eq_eq_not, Bool.true_eq_false, Bool.false_eq_true, reduceCtorEq]
        exact r_P C hr dX11_ahead_99 (XPo_try hA hC (try_fz hq1 hF2) hsp rfl)
      · refine g_il2n (pc := 47) C dX11_ahead_47 ?_
        refine g_tabOut (pc := 48) (tgt := 100) C dX11_ahead_48 (by decide) (by decide) ?_
        refine g_al0n (pc := 100) C dX11_ahead_100 ?_
        refine s_getR (pc := 101) C fX11_28 h0 rfl dX11_ahead_101 ?_
        refine s_getR (pc := 104) C fX11_190 (w0 (b := 86) isW86) rfl dX11_ahead_104 ?_
        refine g_iconst (pc := 107) (v := 0) C dX11_ahead_107 (by decide) ?_
        refine s_VI (pc := 108) (st := []) C (w22 (b := 86) isW86) rfl (c_thatAre (d := d - 1) (by omega) τ2 isW86 (INV_run hI hm0 j (by omega)).1 hR2 0) (by omega) lX11_255 dX11_ahead_108 rfl (Nat.le_of_ble_eq_true rfl) rfl ?_
        have hsp : sp_ahead α (nI j) (nI 3) = (setS (runS (aN α) j) 0, α) := by simp only [sp_ahead, b_5, b_14, kj, show (nI 3 = (0 : Int32)) = False from eq_false (by decide), show (nI 3 = (1 : Int32)) = False from eq_false (by decide), show (nI 3 = (2 : Int32)) = False from eq_false (by decide), eq_self, ne_eq, not_true_eq_false, not_false_eq_true, Classical.not_not, decide_true, decide_false, and_true, true_and, and_false, false_and, and_self, or_true, true_or, or_false, false_or, or_self, if_true, if_false, ite_true, ite_false, Bool.eq_false_iff, Bool.not_eq_eq_eq_not, Bool.true_eq_false, Bool.false_eq_true, reduceCtorEq]
        exact r_P C hr dX11_ahead_111 (XPo_try hA hC (try_fz hq1 hF2) hsp rfl)
    · refine g_if_ne (pc := 17) (tgt := 27) C dX11_ahead_17 (by decide) (fun c => absurd c (by decide)) (fun _ => ?_)
      refine g_al0n (pc := 20) C dX11_ahead_20 ?_
      refine g_ldc (pc := 21) C dX11_ahead_21 kX11_57 ?_
      refine s_VI (pc := 23) (st := []) C h0 rfl (c_found0 (d := d - 1) (by omega) σ) (by omega) lX11_58 dX11_ahead_23 rfl (Nat.le_of_ble_eq_true rfl) rfl ?_
      have hsp : sp_ahead α (nI j) w = FB α := by simp only [sp_ahead, b_5, b_14, kj, eq_self, ne_eq, not_true_eq_false, not_false_eq_true, Classical.not_not, decide_true, decide_false, and_true, true_and, and_false, false_and, and_self, or_true, true_or, or_false, false_or, or_self, if_true, if_false, ite_true, ite_false, Bool.eq_false_iff, Bool.not_eq_eq_eq_not, Bool.true_eq_false, Bool.false_eq_true, reduceCtorEq]
      exact r_P C hr dX11_ahead_26 (by rw [hsp]; exact XPo_fnd hA hC (i := 0) (by decide) _)
  · refine g_if_eq (pc := 8) (tgt := 20) C dX11_ahead_8 (by decide) (fun _ => ?_) (fun c => absurd c (by decide))
    refine g_al0n (pc := 20) C dX11_ahead_20 ?_
    refine g_ldc (pc := 21) C dX11_ahead_21 kX11_57 ?_
    refine s_VI (pc := 23) (st := []) C h0 rfl (c_found0 (d := d - 1) (by omega) σ) (by omega) lX11_58 dX11_ahead_23 rfl (Nat.le_of_ble_eq_true rfl) rfl ?_
    have hsp : sp_ahead α n w = FB α := by simp only [sp_ahead, b_5, eq_self, ne_eq, not_true_eq_false, not_false_eq_true, Classical.not_not, decide_true, decide_false, and_true, true_and, and_false, false_and, and_self, or_true, true_or, or_false, false_or, or_self, if_true, if_false, ite_true, ite_false, Bool.eq_false_iff, Bool.not_eq_eq_eq_not, Bool.true_eq_false, Bool.false_eq_true, reduceCtorEq]
    exact r_P C hr dX11_ahead_26 (by rw [hsp]; exact XPo_fnd hA hC (i := 0) (by decide) _)

theorem late_k {y x : Int32} {m : Nat} (hy : y = nI m) (hm : m ≤ 900) (h : y ≤ x ∧ x ≤ y + 200) : ∃ k, m ≤ k ∧ k ≤ m + 200 ∧ x = nI k := by
  subst hy
  have e : nI m + 200 = nI (m + 200) := nI_add m 200
  rw [e] at h
  obtain ⟨k, hk, rfl⟩ := rgL h (nI_pos' (by omega)) (by omega)
  exact ⟨k, (nI_leI (by omega) (by omega)).mp h.1, hk, rfl⟩
theorem late_n {y : Int32} {m k : Nat} (hy : y = nI m) (h1 : m ≤ k) : nI k - y + 1 = nI (k - m + 1) := by
  rw [hy, pk_sub h1]; exact nI_1 _
theorem x_late {d : Nat} (hd : 8 ≤ d) (σ : Sg) {α : Al} (hA : IA α) (hC : RC σ α) (x : Int32) : CP d mX11_late [.ref 0, .int x] σ (XPo σ (sp_late α x)) := by
  have hI := hA.i
  have hR := hC.w
  obtain ⟨m0, hm9, hm0⟩ := hA.m
  refine con_of (by decide) (catL rfl) (Nat.le_of_ble_eq_true rfl) ?_
  intro μ ω C hr
  have C : Cx μ ω "TowField" cX11_late 2 d := C
  have hr : (mH μ).sig.returnType = some .int := hr
  show G μ ω (RQ μ ω (pP (XPo σ (sp_late α x)))) 0 [some (.ref 0), some (.int x)] [] (mk σ) 0 0
  refine g_il1n (pc := 0) C dX11_late_0 ?_
  refine g_al0n (pc := 1) C dX11_late_1 ?_
  refine s_getR (pc := 2) C fX11_21 h0 rfl dX11_late_2 ?_
  refine s_getIv (pc := 5) (v := aN α 0) C fX11_138 (w0 (b := 12) isW12) rfl hR.min dX11_late_5 ?_
  refine g_al0n (pc := 8) C dX11_late_8 ?_
  refine s_getR (pc := 9) C fX11_21 h0 rfl dX11_late_9 ?_
  refine s_getIv (pc := 12) (v := aN α 0) C fX11_138 (w0 (b := 12) isW12) rfl hR.min dX11_late_12 ?_
  refine g_sipush (pc := 15) (v := 200) C dX11_late_15 (by decide) ?_
  refine g_iadd (pc := 18) C dX11_late_18 ?_
  refine s_SB (pc := 19) (st := []) C (c_X11_within (d := d - 1) (by omega) σ x (aN α 0) ((aN α 0) + 200)) (by omega) lX11_53 dX11_late_19 rfl (Nat.le_of_ble_eq_true rfl) rfl (fun b_19 => ?_) (fun b_19 => ?_)
  · obtain ⟨k, hk1, hk2, rfl⟩ := late_k hm0 (by omega) b_19
    have kk : (nI k).toNatClampNeg = k := nI_clamp (by omega)
    refine g_if_ne (pc := 22) (tgt := 32) C dX11_late_22 (by decide) (fun _ => ?_) (fun c => absurd c (by decide))
    refine g_al0n (pc := 32) C dX11_late_32 ?_
    refine s_getR (pc := 33) C fX11_28 h0 rfl dX11_late_33 ?_
    refine g_al0n (pc := 36) C dX11_late_36 ?_
    refine s_getR (pc := 37) C fX11_21 h0 rfl dX11_late_37 ?_
    refine s_VQ (pc := 40) (st := []) C (w0 (b := 86) isW86) rfl (c_become (d := d - 1) (by omega) σ isW12 isW86 (by omega) hI hR) (by omega) lX11_251 dX11_late_40 rfl (Nat.le_of_ble_eq_true rfl) rfl (fun τ1 hw1 => ?_)
    obtain ⟨hR1, hq1⟩ := hw1
    refine g_al0n (pc := 43) C dX11_late_43 ?_
    refine s_getR (pc := 44) C fX11_28 h0 rfl dX11_late_44 ?_
    refine g_il1n (pc := 47) C dX11_late_47 ?_
    refine g_al0n (pc := 48) C dX11_late_48 ?_
    refine s_getR (pc := 49) C fX11_21 h0 rfl dX11_late_49 ?_
    refine s_getIv (pc := 52) (v := aN α 0) C fX11_138 (w0 (b := 12) isW12) rfl (by rw [hq1 12 (by omega)]; exact hR.min) dX11_late_52 ?_
    refine g_isub (pc := 55) C dX11_late_55 ?_
    refine g_iconst (pc := 56) (v := 1) C dX11_late_56 (by decide) ?_
    refine g_iadd (pc := 57) C dX11_late_57 ?_
    rw [late_n hm0 hk1]
    refine s_VP (pc := 58) (st := []) C (w0 (b := 86) isW86) rfl (c_go (d := d - 1) (by omega) τ1 isW86 hI hR1 hA.x (m := m0) (n := k - m0 + 1) hm0 (by omega)) (by omega) lX11_248 dX11_late_58 rfl (Nat.le_of_ble_eq_true rfl) rfl (fun v τ2 hw2 => ?_)
    obtain ⟨hv, hR2, hF2⟩ := hw2
    refine g_pop (pc := 61) C dX11_late_61 rfl ?_
    refine g_al0n (pc := 62) C dX11_late_62 ?_
    refine s_getR (pc := 63) C fX11_28 h0 rfl dX11_late_63 ?_
    refine s_getR (pc := 66) C fX11_190 (w0 (b := 86) isW86) rfl dX11_late_66 ?_
    refine g_iconst (pc := 69) (v := 0) C dX11_late_69 (by decide) ?_
    refine s_VI (pc := 70) (st := []) C (w22 (b := 86) isW86) rfl (c_thatAre (d := d - 1) (by omega) τ2 isW86 (INV_run hI hm0 (k - m0 + 1) (by omega)).1 hR2 0) (by omega) lX11_255 dX11_late_70 rfl (Nat.le_of_ble_eq_true rfl) rfl ?_
    have hkl : (nI k - aN α 0 + 1).toNatClampNeg = k - m0 + 1 := by rw [late_n hm0 hk1, nI_clamp (by omega)]
    have hsp : sp_late α (nI k) = (setS (runS (aN α) (k - m0 + 1)) 0, α) := by simp only [sp_late, b_19, kk, eq_self, ne_eq, not_true_eq_false, not_false_eq_true, Classical.not_not, decide_true, decide_false, and_true, true_and, and_false, false_and, and_self, or_true, true_or, or_false, false_or, or_self, if_true, if_false, ite_true, ite_false, Bool.eq_false_iff, Bool.not_eq_eq_eq_not, Bool.true_eq_false, Bool.false_eq_true, reduceCtorEq]; rw [hkl]
    exact r_P C hr dX11_late_73 (XPo_try hA hC (try_fz hq1 hF2) hsp rfl)
  · refine g_if_ne (pc := 22) (tgt := 32) C dX11_late_22 (by decide) (fun c => absurd c (by decide)) (fun _ => ?_)
    refine g_al0n (pc := 25) C dX11_late_25 ?_
    refine g_ldc (pc := 26) C dX11_late_26 kX11_57 ?_
    refine s_VI (pc := 28) (st := []) C h0 rfl (c_found0 (d := d - 1) (by omega) σ) (by omega) lX11_58 dX11_late_28 rfl (Nat.le_of_ble_eq_true rfl) rfl ?_
    have hsp : sp_late α x = FB α := by simp only [sp_late, b_19, eq_self, ne_eq, not_true_eq_false, not_false_eq_true, Classical.not_not, decide_true, decide_false, and_true, true_and, and_false, false_and, and_self, or_true, true_or, or_false, false_or, or_self, if_true, if_false, ite_true, ite_false, Bool.eq_false_iff, Bool.not_eq_eq_eq_not, Bool.true_eq_false, Bool.false_eq_true, reduceCtorEq]
    exact r_P C hr dX11_late_31 (by rw [hsp]; exact XPo_fnd hA hC (i := 0) (by decide) _)

theorem x_pay {d : Nat} (hd : 3 ≤ d) (σ : Sg) {α : Al} (hA : IA α) (hC : RC σ α) (p c : Int32) : CP d mX11_pay [.ref 0, .int p, .int c] σ (XPo σ (sp_pay α p c)) := by
  have hI := hA.i
  have hR := hC.w
  refine con_of (by decide) (catL rfl) (Nat.le_of_ble_eq_true rfl) ?_
  intro μ ω C hr
  have C : Cx μ ω "TowField" cX11_pay 3 d := C
  have hr : (mH μ).sig.returnType = some .int := hr
  show G μ ω (RQ μ ω (pP (XPo σ (sp_pay α p c)))) 0 [some (.ref 0), some (.int p), some (.int c)] [] (mk σ) 0 0
  refine g_al0n (pc := 0) C dX11_pay_0 ?_
  refine s_getR (pc := 1) C fX11_21 h0 rfl dX11_pay_1 ?_
  refine s_getR (pc := 4) C fX11_62 (w0 (b := 12) isW12) rfl dX11_pay_4 ?_
  refine g_il1n (pc := 7) C dX11_pay_7 ?_
  refine s_VB (pc := 8) (st := []) C (w6 (b := 12) isW12) rfl (by have := c_hasX4 (d := d - 1) (by omega) σ isW12 p; rw [hR.p.1] at this; exact this) (by omega) lX11_115 dX11_pay_8 rfl (Nat.le_of_ble_eq_true rfl) rfl (fun b_8 => ?_) (fun b_8 => ?_)
  · have hn4 := hI.n4.2
    obtain ⟨j, hj, rfl⟩ := (is_iff hI.n4.1 (by omega)).mp b_8
    have kj : (nI j).toNatClampNeg = j := nI_clamp (by omega)
    refine g_if_eq (pc := 11) (tgt := 25) C dX11_pay_11 (by decide) (fun c => absurd c (by decide)) (fun _ => ?_)
    refine g_il2n (pc := 14) C dX11_pay_14 ?_
    refine g_iconst (pc := 15) (v := 1) C dX11_pay_15 (by decide) ?_
    refine g_ldcw (pc := 16) C dX11_pay_16 kX11_278 ?_
    refine s_SB (pc := 19) (st := []) C (c_X11_within (d := d - 1) (by omega) σ c 1 99999) (by omega) lX11_53 dX11_pay_19 rfl (Nat.le_of_ble_eq_true rfl) rfl (fun b_19 => ?_) (fun b_19 => ?_)
    · refine g_if_ne (pc := 22) (tgt := 32) C dX11_pay_22 (by decide) (fun _ => ?_) (fun c => absurd c (by decide))
      refine g_al0n (pc := 32) C dX11_pay_32 ?_
      refine s_getR (pc := 33) C fX11_21 h0 rfl dX11_pay_33 ?_
      refine s_getR (pc := 36) C fX11_62 (w0 (b := 12) isW12) rfl dX11_pay_36 ?_
      refine s_getR (pc := 39) C fX11_279 (w6 (b := 12) isW12) rfl dX11_pay_39 ?_
      refine g_il1n (pc := 42) C dX11_pay_42 ?_
      refine s_ialdv (pc := 43) (q := j) (v := aN α (90 + 4 * j + 3)) C (w10 (b := 12) isW12) rfl (by omega) (Nat.le_of_ble_eq_true rfl) (hR.p3 (by omega)) dX11_pay_43 ?_
      refine g_il2n (pc := 44) C dX11_pay_44 ?_
      refine g_icmp_geL (pc := 45) (tgt := 55) C dX11_pay_45 (by decide) (fun c_45 => ?_) (fun c_45 => ?_)
      · refine g_al0n (pc := 55) C dX11_pay_55 ?_
        refine s_getR (pc := 56) C fX11_21 h0 rfl dX11_pay_56 ?_
        refine s_getR (pc := 59) C fX11_62 (w0 (b := 12) isW12) rfl dX11_pay_59 ?_
        refine s_getR (pc := 62) C fX11_279 (w6 (b := 12) isW12) rfl dX11_pay_62 ?_
        refine g_il1n (pc := 65) C dX11_pay_65 ?_
        refine g_dup2 (pc := 66) C dX11_pay_66 rfl rfl ?_
        refine s_ialdv (pc := 67) (q := j) (v := aN α (90 + 4 * j + 3)) C (w10 (b := 12) isW12) rfl (by omega) (Nat.le_of_ble_eq_true rfl) (hR.p3 (by omega)) dX11_pay_67 ?_
        refine g_il2n (pc := 68) C dX11_pay_68 ?_
        refine g_isub (pc := 69) C dX11_pay_69 ?_
        refine s_iast (pc := 70) (q := j) C (w10 (b := 12) isW12) rfl (by omega) (Nat.le_of_ble_eq_true rfl) dX11_pay_70 ?_
        refine g_al0n (pc := 71) C dX11_pay_71 ?_
        refine s_getR (pc := 72) C fX11_21 h0 rfl dX11_pay_72 ?_
        refine s_getR (pc := 75) C fX11_62 (w0 (b := 12) isW12) rfl dX11_pay_75 ?_
        refine s_getR (pc := 78) C fX11_279 (w6 (b := 12) isW12) rfl dX11_pay_78 ?_
        refine g_il1n (pc := 81) C dX11_pay_81 ?_
        refine s_ialdv (pc := 82) (q := j) (v := aN α (90 + 4 * j + 3) - c) C (w10 (b := 12) isW12) rfl (by omega) (Nat.le_of_ble_eq_true rfl) (by rw [up_at, upd_at]) dX11_pay_82 ?_
        have hsp : sp_pay α (nI j) c = (aN α (90 + 4 * j + 3) - c, sN α (upd (aN α) (90 + 4 * j + 3) (aN α (90 + 4 * j + 3) - c))) := by simp only [sp_pay, b_8, b_19, c_45, kj, eq_self, ne_eq, not_true_eq_false, not_false_eq_true, Classical.not_not, decide_true, decide_false, and_true, true_and, and_false, false_and, and_self, or_true, true_or, or_false, false_or, or_self, if_true, if_false, ite_true, ite_false, Bool.eq_false_iff, Bool.not_eq_eq_eq_not, Bool.true_eq_false, Bool.false_eq_true, reduceCtorEq]
        exact r_P C hr dX11_pay_83 (XPo_now hA hC (W_bill isW12 hI hR hj _) (Fz.up (z := 12) (k := 10) (by omega) Fz.rf) hsp rfl)
      · refine g_al0n (pc := 48) C dX11_pay_48 ?_
        refine g_ldc (pc := 49) C dX11_pay_49 kX11_137 ?_
        refine s_VI (pc := 51) (st := []) C h0 rfl (c_found4 (d := d - 1) (by omega) σ) (by omega) lX11_58 dX11_pay_51 rfl (Nat.le_of_ble_eq_true rfl) rfl ?_
        have hsp : sp_pay α (nI j) c = FS α := by simp only [sp_pay, b_8, b_19, c_45, kj, eq_self, ne_eq, not_true_eq_false, not_false_eq_true, Classical.not_not, decide_true, decide_false, and_true, true_and, and_false, false_and, and_self, or_true, true_or, or_false, false_or, or_self, if_true, if_false, ite_true, ite_false, Bool.eq_false_iff, Bool.not_eq_eq_eq_not, Bool.true_eq_false, Bool.false_eq_true, reduceCtorEq]
        exact r_P C hr dX11_pay_54 (by rw [hsp]; exact XPo_fnd hA hC (i := 4) (by decide) _)
    · refine g_if_ne (pc := 22) (tgt := 32) C dX11_pay_22 (by decide) (fun c => absurd c (by decide)) (fun _ => ?_)
      refine g_al0n (pc := 25) C dX11_pay_25 ?_
      refine g_ldc (pc := 26) C dX11_pay_26 kX11_57 ?_
      refine s_VI (pc := 28) (st := []) C h0 rfl (c_found0 (d := d - 1) (by omega) σ) (by omega) lX11_58 dX11_pay_28 rfl (Nat.le_of_ble_eq_true rfl) rfl ?_
      have hsp : sp_pay α (nI j) c = FB α := by simp only [sp_pay, b_8, b_19, kj, eq_self, ne_eq, not_true_eq_false, not_false_eq_true, Classical.not_not, decide_true, decide_false, and_true, true_and, and_false, false_and, and_self, or_true, true_or, or_false, false_or, or_self, if_true, if_false, ite_true, ite_false, Bool.eq_false_iff, Bool.not_eq_eq_eq_not, Bool.true_eq_false, Bool.false_eq_true, reduceCtorEq]
      exact r_P C hr dX11_pay_31 (by rw [hsp]; exact XPo_fnd hA hC (i := 0) (by decide) _)
  · refine g_if_eq (pc := 11) (tgt := 25) C dX11_pay_11 (by decide) (fun _ => ?_) (fun c => absurd c (by decide))
    refine g_al0n (pc := 25) C dX11_pay_25 ?_
    refine g_ldc (pc := 26) C dX11_pay_26 kX11_57 ?_
    refine s_VI (pc := 28) (st := []) C h0 rfl (c_found0 (d := d - 1) (by omega) σ) (by omega) lX11_58 dX11_pay_28 rfl (Nat.le_of_ble_eq_true rfl) rfl ?_
    have hsp : sp_pay α p c = FB α := by simp only [sp_pay, b_8, eq_self, ne_eq, not_true_eq_false, not_false_eq_true, Classical.not_not, decide_true, decide_false, and_true, true_and, and_false, false_and, and_self, or_true, true_or, or_false, false_or, or_self, if_true, if_false, ite_true, ite_false, Bool.eq_false_iff, Bool.not_eq_eq_eq_not, Bool.true_eq_false, Bool.false_eq_true, reduceCtorEq]
    exact r_P C hr dX11_pay_31 (by rw [hsp]; exact XPo_fnd hA hC (i := 0) (by decide) _)

theorem x_image {d : Nat} (hd : 3 ≤ d) (σ : Sg) {α : Al} (hA : IA α) (hC : RC σ α) : CP d mX11_image [.ref 0] σ (XPo σ (sp_image α)) := by
  have hI := hA.i
  have hR := hC.w
  refine con_of (by decide) (catL rfl) (Nat.le_of_ble_eq_true rfl) ?_
  intro μ ω C hr
  have C : Cx μ ω "TowField" cX11_image 1 d := C
  have hr : (mH μ).sig.returnType = some .int := hr
  show G μ ω (RQ μ ω (pP (XPo σ (sp_image α)))) 0 [some (.ref 0)] [] (mk σ) 0 0
  refine g_al0n (pc := 0) C dX11_image_0 ?_
  refine s_getR (pc := 1) C fX11_25 h0 rfl dX11_image_1 ?_
  refine g_al0n (pc := 4) C dX11_image_4 ?_
  refine s_getR (pc := 5) C fX11_21 h0 rfl dX11_image_5 ?_
  refine s_VQ (pc := 8) (st := []) C (w0 (b := 49) isW49) rfl (c_become (d := d - 1) (by omega) σ isW12 isW49 (by omega) hI hR) (by omega) lX11_251 dX11_image_8 rfl (Nat.le_of_ble_eq_true rfl) rfl (fun τ1 hw1 => ?_)
  obtain ⟨hR1, hq1⟩ := hw1
  refine g_al0n (pc := 11) C dX11_image_11 ?_
  refine g_iconst (pc := 12) (v := 1) C dX11_image_12 (by decide) ?_
  refine s_putZ (pc := 13) C (by decide) pX11_49 h0 rfl dX11_image_13 ?_
  refine g_iconst (pc := 16) (v := 1) C dX11_image_16 (by decide) ?_
  exact r_P C hr dX11_image_17 (XPo_image hA hC hR1 hq1)

theorem x_undo {d : Nat} (hd : 3 ≤ d) (σ : Sg) {α : Al} (hA : IA α) (hC : RC σ α) : CP d mX11_undo [.ref 0] σ (XPo σ (sp_undo α)) := by
  have hI := hA.i
  have hR := hC.w
  refine con_of (by decide) (catL rfl) (Nat.le_of_ble_eq_true rfl) ?_
  intro μ ω C hr
  have C : Cx μ ω "TowField" cX11_undo 1 d := C
  have hr : (mH μ).sig.returnType = some .int := hr
  show G μ ω (RQ μ ω (pP (XPo σ (sp_undo α)))) 0 [some (.ref 0)] [] (mk σ) 0 0
  refine g_al0n (pc := 0) C dX11_undo_0 ?_
  refine s_getIv (pc := 1) (v := aH α) C fX11_49 h0 rfl hC.2.2.1 dX11_undo_1 ?_
  refine g_if_ne (pc := 4) (tgt := 14) C dX11_undo_4 (by decide) (fun c_4 => ?_) (fun c_4 => ?_)
  · refine g_al0n (pc := 14) C dX11_undo_14 ?_
    refine s_getR (pc := 15) C fX11_21 h0 rfl dX11_undo_15 ?_
    refine g_al0n (pc := 18) C dX11_undo_18 ?_
    refine s_getR (pc := 19) C fX11_25 h0 rfl dX11_undo_19 ?_
    refine s_VQ (pc := 22) (st := []) C (w0 (b := 12) isW12) rfl (c_become (d := d - 1) (by omega) σ isW49 isW12 (by omega) (hA.2.1 c_4).1.1 (hC.2.1 c_4)) (by omega) lX11_251 dX11_undo_22 rfl (Nat.le_of_ble_eq_true rfl) rfl (fun τ1 hw1 => ?_)
    obtain ⟨hR1, hq1⟩ := hw1
    refine g_al0n (pc := 25) C dX11_undo_25 ?_
    refine s_getR (pc := 26) C fX11_21 h0 rfl dX11_undo_26 ?_
    refine s_getIv (pc := 29) (v := aK α 0) C fX11_138 (w0 (b := 12) isW12) rfl hR1.min dX11_undo_29 ?_
    have hsp : sp_undo α = (aK α 0, sN α (aK α)) := by simp only [sp_undo, c_4, eq_self, ne_eq, not_true_eq_false, not_false_eq_true, Classical.not_not, decide_true, decide_false, and_true, true_and, and_false, false_and, and_self, or_true, true_or, or_false, false_or, or_self, if_true, if_false, ite_true, ite_false, Bool.eq_false_iff, Bool.not_eq_eq_eq_not, Bool.true_eq_false, Bool.false_eq_true, reduceCtorEq]
    exact r_P C hr dX11_undo_32 (XPo_now hA hC hR1 (fun k h1 _ _ => hq1 k (by omega)) hsp rfl)
  · refine g_al0n (pc := 7) C dX11_undo_7 ?_
    refine g_ldc (pc := 8) C dX11_undo_8 kX11_244 ?_
    refine s_VI (pc := 10) (st := []) C h0 rfl (c_found3 (d := d - 1) (by omega) σ) (by omega) lX11_58 dX11_undo_10 rfl (Nat.le_of_ble_eq_true rfl) rfl ?_
    have hsp : sp_undo α = FN α := by simp only [sp_undo, eq_true c_4, eq_self, ne_eq, not_true_eq_false, not_false_eq_true, Classical.not_not, decide_true, decide_false, and_true, true_and, and_false, false_and, and_self, or_true, true_or, or_false, false_or, or_self, if_true, if_false, ite_true, ite_false, Bool.eq_false_iff, Bool.not_eq_eq_eq_not, Bool.true_eq_false, Bool.false_eq_true, reduceCtorEq]
    exact r_P C hr dX11_undo_13 (by rw [hsp]; exact XPo_fnd hA hC (i := 3) (by decide) _)

theorem x_tear {d : Nat} (hd : 3 ≤ d) (σ : Sg) {α : Al} (hA : IA α) (hC : RC σ α) : CP d mX11_tear [.ref 0] σ (XPo σ (sp_tear α)) := by
  have hI := hA.i
  have hR := hC.w
  refine con_of (by decide) (catL rfl) (Nat.le_of_ble_eq_true rfl) ?_
  intro μ ω C hr
  have C : Cx μ ω "TowField" cX11_tear 2 d := C
  have hr : (mH μ).sig.returnType = some .int := hr
  show G μ ω (RQ μ ω (pP (XPo σ (sp_tear α)))) 0 [some (.ref 0), none] [] (mk σ) 0 0
  refine g_al0n (pc := 0) C dX11_tear_0 ?_
  refine s_getIv (pc := 1) (v := aH α) C fX11_49 h0 rfl hC.2.2.1 dX11_tear_1 ?_
  refine g_if_eq (pc := 4) (tgt := 11) C dX11_tear_4 (by decide) (fun c_4 => ?_) (fun c_4 => ?_)
  · refine g_iconst (pc := 11) (v := 0) C dX11_tear_11 (by decide) ?_
    refine g_is1n (pc := 12) C dX11_tear_12 ?_
    refine g_al0n (pc := 13) C dX11_tear_13 ?_
    refine g_iconst (pc := 14) (v := 0) C dX11_tear_14 (by decide) ?_
    refine s_putZ (pc := 15) C (by decide) pX11_49 h0 rfl dX11_tear_15 ?_
    refine g_il1n (pc := 18) C dX11_tear_18 ?_
    exact r_P C hr dX11_tear_19 (XPo_tear hA hC (if_pos c_4).symm)
  · refine g_iconst (pc := 7) (v := 1) C dX11_tear_7 (by decide) ?_
    refine g_goto (pc := 8) (tgt := 12) C dX11_tear_8 (by decide) ?_
    refine g_is1n (pc := 12) C dX11_tear_12 ?_
    refine g_al0n (pc := 13) C dX11_tear_13 ?_
    refine g_iconst (pc := 14) (v := 0) C dX11_tear_14 (by decide) ?_
    refine s_putZ (pc := 15) C (by decide) pX11_49 h0 rfl dX11_tear_15 ?_
    refine g_il1n (pc := 18) C dX11_tear_18 ?_
    exact r_P C hr dX11_tear_19 (XPo_tear hA hC (if_neg c_4).symm)

theorem x_wipe {d : Nat} (hd : 3 ≤ d) (σ : Sg) {α : Al} (hA : IA α) (hC : RC σ α) : CP d mX11_wipe [.ref 0] σ (XPo σ (sp_wipe α)) := by
  have hI := hA.i
  have hR := hC.w
  refine con_of (by decide) (catL rfl) (Nat.le_of_ble_eq_true rfl) ?_
  intro μ ω C hr
  have C : Cx μ ω "TowField" cX11_wipe 2 d := C
  have hr : (mH μ).sig.returnType = some .int := hr
  show G μ ω (RQ μ ω (pP (XPo σ (sp_wipe α)))) 0 [some (.ref 0), none] [] (mk σ) 0 0
  refine g_al0n (pc := 0) C dX11_wipe_0 ?_
  refine s_getR (pc := 1) C fX11_41 h0 rfl dX11_wipe_1 ?_
  refine s_getIv (pc := 4) (v := aS α) C fX11_222 h131 rfl hC.2.2.2.2.1.1 dX11_wipe_4 ?_
  refine g_is1n (pc := 7) C dX11_wipe_7 ?_
  refine g_al0n (pc := 8) C dX11_wipe_8 ?_
  refine s_getR (pc := 9) C fX11_41 h0 rfl dX11_wipe_9 ?_
  refine g_iconst (pc := 12) (v := 0) C dX11_wipe_12 (by decide) ?_
  refine s_putI (pc := 13) C pX11_222 h131 rfl dX11_wipe_13 ?_
  refine g_il1n (pc := 16) C dX11_wipe_16 ?_
  exact r_P C hr dX11_wipe_17 (XPo_wipe hA hC)

