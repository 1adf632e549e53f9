/-! ===== leaves ===== -/
theorem catL {as : List Value} (h : as.all (fun v => v.category == 1) = true) : ∀ v ∈ as, v.category = 1 := fun v hv => by simpa using List.all_eq_true.mp h v hv
theorem ixl (n : Nat) : (OfNat.ofNat n : Int32) = nI n := rfl
theorem nI_inc1 (a : Nat) : nI a + Int32.ofInt 1 = nI (a + 1) := nI_1 a
theorem nI_inc2 (a : Nat) : nI a + Int32.ofInt 2 = nI (a + 2) := nI_add a 2
theorem nI_inc6 (a : Nat) : nI a + Int32.ofInt 6 = nI (a + 6) := nI_add a 6
theorem nI_dec (a : Nat) : nI (a + 1) + Int32.ofInt (-1) = nI a := pk_m1 a
theorem isW12 : isW 12 := Or.inl rfl
theorem isW49 : isW 49 := Or.inr (Or.inl rfl)
theorem isW86 : isW 86 := Or.inr (Or.inr rfl)
theorem le_of_nlt32 {a b : Int32} (h : ¬ a < b) : b ≤ a := Int32.not_lt.mp h
theorem lt_of_nle32 {a b : Int32} (h : ¬ a ≤ b) : b < a := Int32.not_le.mp h
theorem nle_of_lt32 {a b : Int32} (h : a < b) : ¬ b ≤ a := Int32.not_le.mpr h
theorem c_X11_within {d : Nat} (hd : 1 ≤ d) (σ : Sg) (v a b : Int32) : CB d mX11_within [.int v, .int a, .int b] σ (a ≤ v ∧ v ≤ b) σ := by
  refine con_of (by decide) (catL rfl) (Nat.le_of_ble_eq_true rfl) ?_
  intro μ ω C hr
  have C : Cx μ ω "TowField" cX11_within 3 d := C
  have hr : (mH μ).sig.returnType = some .boolean := hr
  show G μ ω (RQ μ ω (pB (a ≤ v ∧ v ≤ b) σ)) 0 [some (.int v), some (.int a), some (.int b)] [] (mk σ) 0 0
  refine g_il0n (pc := 0) C dX11_within_0 ?_
  refine g_il1n (pc := 1) C dX11_within_1 ?_
  refine g_icmp_lt (pc := 2) (tgt := 14) C dX11_within_2 (by decide) (fun c_2 => ?_) (fun c_2 => ?_)
  · refine g_iconst (pc := 14) (v := 0) C dX11_within_14 (by decide) ?_
    exact r_B0 C hr dX11_within_15 (fun q => by first | exact absurd q.1 (nle_of_lt32 (by assumption)) | exact absurd q.2 (nle_of_lt32 (by assumption))) rfl
  · refine g_il0n (pc := 5) C dX11_within_5 ?_
    refine g_il2n (pc := 6) C dX11_within_6 ?_
    refine g_icmp_gt (pc := 7) (tgt := 14) C dX11_within_7 (by decide) (fun c_7 => ?_) (fun c_7 => ?_)
    · refine g_iconst (pc := 14) (v := 0) C dX11_within_14 (by decide) ?_
      exact r_B0 C hr dX11_within_15 (fun q => by first | exact absurd q.1 (nle_of_lt32 (by assumption)) | exact absurd q.2 (nle_of_lt32 (by assumption))) rfl
    · refine g_iconst (pc := 10) (v := 1) C dX11_within_10 (by decide) ?_
      refine g_goto (pc := 11) (tgt := 15) C dX11_within_11 (by decide) ?_
      exact r_B1 C hr dX11_within_15 ⟨by first | exact le_of_nlt32 (by assumption) | assumption, by first | exact le_of_nlt32 (by assumption) | assumption⟩ rfl

theorem c_X12_within {d : Nat} (hd : 1 ≤ d) (σ : Sg) (v a b : Int32) : CB d mX12_within [.int v, .int a, .int b] σ (a ≤ v ∧ v ≤ b) σ := by
  refine con_of (by decide) (catL rfl) (Nat.le_of_ble_eq_true rfl) ?_
  intro μ ω C hr
  have C : Cx μ ω "TowFieldModel" cX12_within 3 d := C
  have hr : (mH μ).sig.returnType = some .boolean := hr
  show G μ ω (RQ μ ω (pB (a ≤ v ∧ v ≤ b) σ)) 0 [some (.int v), some (.int a), some (.int b)] [] (mk σ) 0 0
  refine g_il0n (pc := 0) C dX12_within_0 ?_
  refine g_il1n (pc := 1) C dX12_within_1 ?_
  refine g_icmp_lt (pc := 2) (tgt := 14) C dX12_within_2 (by decide) (fun c_2 => ?_) (fun c_2 => ?_)
  · refine g_iconst (pc := 14) (v := 0) C dX12_within_14 (by decide) ?_
    exact r_B0 C hr dX12_within_15 (fun q => by first | exact absurd q.1 (nle_of_lt32 (by assumption)) | exact absurd q.2 (nle_of_lt32 (by assumption))) rfl
  · refine g_il0n (pc := 5) C dX12_within_5 ?_
    refine g_il2n (pc := 6) C dX12_within_6 ?_
    refine g_icmp_gt (pc := 7) (tgt := 14) C dX12_within_7 (by decide) (fun c_7 => ?_) (fun c_7 => ?_)
    · refine g_iconst (pc := 14) (v := 0) C dX12_within_14 (by decide) ?_
      exact r_B0 C hr dX12_within_15 (fun q => by first | exact absurd q.1 (nle_of_lt32 (by assumption)) | exact absurd q.2 (nle_of_lt32 (by assumption))) rfl
    · refine g_iconst (pc := 10) (v := 1) C dX12_within_10 (by decide) ?_
      refine g_goto (pc := 11) (tgt := 15) C dX12_within_11 (by decide) ?_
      exact r_B1 C hr dX12_within_15 ⟨by first | exact le_of_nlt32 (by assumption) | assumption, by first | exact le_of_nlt32 (by assumption) | assumption⟩ rfl

