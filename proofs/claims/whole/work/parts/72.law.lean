/-! ===== the law's loop ===== -/
def LI (σ : Sg) : Prop := RC σ (mv σ) ∧ IA (mv σ) ∧ MT σ
theorem mv_same {σ τ : Sg} (h : ∀ k, 135 ≤ k → τ k = σ k) : mv τ = mv σ := by
  unfold mv
  rw [h 136 (by decide), h 137 (by decide), h 135 (by decide), h 139 (by decide), h 140 (by decide), h 144 (by decide), h 145 (by decide), h 146 (by decide)]
theorem RC_lo {σ τ : Sg} {α : Al} (hA : IA α) (hC : RC σ α) (h : ∀ k, k < 135 → τ k = σ k) : RC τ α := by
  obtain ⟨h1, h2, h3, h4, h5, h6⟩ := id hC
  exact ⟨hC.kw hA (fun k a b => h k (by omega)) (fun k a b => h k (by omega)), hC.kk hA (fun k a b => h k (by omega)) (fun k a b => h k (by omega)), by rw [h 0 (by decide)]; exact h3, by rw [h 134 (by decide)]; exact h4, by rw [h 131 (by decide), h 132 (by decide)]; exact h5, fun s hs => by rw [h 124 (by decide), h 125 (by decide), h (127 + s) (by omega)]; exact h6 s hs⟩
theorem LI_step {σ τ υ : Sg} {v w : Int32} {s1 s2 : Int32 × Al} (h : LI σ) (hx : XPo σ s1 v τ) (hm : MPo τ s2 w υ) (he : s2 = s1) (hI : IA s1.2) : v = w ∧ LI υ := by
  subst he
  obtain ⟨m1, m2, m3, m4⟩ := hm
  obtain ⟨x1, x2, x3⟩ := hx
  refine ⟨x1.trans m1.symm, ?_, ?_, m4 (fun j hj => by rw [x3 138 (by decide)]; exact h.2.2 j hj)⟩
  · rw [m2]; exact RC_lo hI x2 m3
  · rw [m2]; exact hI
theorem q_call {μ : Mx} {ω : Om} {Q : State → Prop} {own : String} {cc : ByteArray} {nL d d' pc n k b idx : Nat} {lv : List (Option Value)} {st stk : List Value} {σ : Sg} {M : MI} {as : List Value} {Φ : Int32 → Sg → Prop} (C : Cx μ ω own cc nL d) {q : Nat × List (Option Nat)} (hS : SH[b]? = some (.inr (.inr q))) (hci : ∃ T N, vwCl[q.1]? = some (M.1.cls, T, N)) (hM : CP d' M (.ref b :: as) σ Φ) (hdd : d' + 1 ≤ d) (hml : MLv own idx M as.length) (hd : decode cc pc = .ok (.invokevirtual idx, 3)) (hstk : stk = as.reverse ++ .ref b :: st) (hst : (st.map fun v => v.category).sum ≤ 8) (hc : n ≤ (mR μ).cells ∧ k ≤ (mR μ).slots) (hlv : lv.length = nL)
    (kk : ∀ v τ, Φ v τ → G μ ω Q (pc + 3) lv (.int v :: st) (mk τ) n k) : G μ ω Q pc lv stk (mk σ) n k := by
  obtain ⟨T, N, hv⟩ := hci
  refine g_callV C hM (mk_at σ hS) hv hdd hml hd hstk hst (fun r h' hp => ?_) hc hlv
  obtain ⟨v, τ, h1, h2, hΦ⟩ := hp
  rw [h1, h2]
  exact kk v τ hΦ
theorem vw_X : ∃ T N, vwCl[10]? = some ("TowField", T, N) := ⟨TX11, 8, rfl⟩
theorem vw_M : ∃ T N, vwCl[11]? = some ("TowFieldModel", T, N) := ⟨TX12, 24, rfl⟩
section QC
variable {μ : Mx} {ω : Om} {Q : State → Prop} {own : String} {cc : ByteArray} {nL d d' pc n k idx : Nat} {lv : List (Option Value)} {st stk : List Value} {σ : Sg} {M : MI} {as : List Value} {Φ : Int32 → Sg → Prop}
theorem q_callX (C : Cx μ ω own cc nL d) (hcls : M.1.cls = "TowField") (hM : CP d' M (.ref 0 :: as) σ Φ) (hdd : d' + 1 ≤ d) (hml : MLv own idx M as.length) (hd : decode cc pc = .ok (.invokevirtual idx, 3)) (hstk : stk = as.reverse ++ .ref 0 :: st) (hst : (st.map fun v => v.category).sum ≤ 8) (hc : n ≤ (mR μ).cells) (hk : k ≤ (mR μ).slots) (hlv : lv.length = nL)
    (kk : ∀ v τ, Φ v τ → G μ ω Q (pc + 3) lv (.int v :: st) (mk τ) n k) : G μ ω Q pc lv stk (mk σ) n k :=
  q_call C h0 (by rw [hcls]; exact vw_X) hM hdd hml hd hstk hst ⟨hc, hk⟩ hlv kk
theorem q_callM (C : Cx μ ω own cc nL d) (hcls : M.1.cls = "TowFieldModel") (hM : CP d' M (.ref 135 :: as) σ Φ) (hdd : d' + 1 ≤ d) (hml : MLv own idx M as.length) (hd : decode cc pc = .ok (.invokevirtual idx, 3)) (hstk : stk = as.reverse ++ .ref 135 :: st) (hst : (st.map fun v => v.category).sum ≤ 8) (hc : n ≤ (mR μ).cells) (hk : k ≤ (mR μ).slots) (hlv : lv.length = nL)
    (kk : ∀ v τ, Φ v τ → G μ ω Q (pc + 3) lv (.int v :: st) (mk τ) n k) : G μ ω Q pc lv stk (mk σ) n k :=
  q_call C h135 (by rw [hcls]; exact vw_M) hM hdd hml hd hstk hst ⟨hc, hk⟩ hlv kk
end QC
theorem law_c {L i : Nat} (hL : L ≤ 384) (hi : i ≤ 390) : nI L - 6 < nI i ↔ L < i + 6 := by
  rcases Nat.lt_or_ge L 6 with h | h
  · refine ⟨fun _ => by omega, fun _ => ?_⟩
    have h0 : ¬ nI i < 0 := nI_pos (by omega)
    have h1 : nI L - 6 < 0 := by rcases (show L = 0 ∨ L = 1 ∨ L = 2 ∨ L = 3 ∨ L = 4 ∨ L = 5 by omega) with rfl | rfl | rfl | rfl | rfl | rfl <;> decide
    exact Int32.lt_of_lt_of_le h1 (Int32.not_lt.mp h0)
  · rw [show nI L - 6 = nI (L - 6) from nI_sub h]
    rw [nI_ltI (by omega) (by omega)]
    omega
theorem vp_i {L i k : Nat} (hL : L ≤ 384) (h : i + k < L) : vp_in (nI i + nI k) L := by
  rw [nI_add]
  rintro (z | z)
  · exact absurd z (nI_pos (by omega))
  · rw [nI_clamp (by omega)] at z; omega
theorem sw_0_42 (x : Int32) : x = 0 ∨ x = 1 ∨ x = 2 ∨ x = 3 ∨ x = 4 ∨ x = 5 ∨ x = 6 ∨ x = 7 ∨ x = 8 ∨ x = 9 ∨ x = 10 ∨ x = 11 ∨ x = 12 ∨ x = 13 ∨ x = 14 ∨ x = 15 ∨ x = 16 ∨ x = 17 ∨ x = 18 ∨ x = 19 ∨ x = 20 ∨ x = 21 ∨ x = 22 ∨ x = 23 ∨ x = 24 ∨ x = 25 ∨ x = 26 ∨ x = 27 ∨ x = 28 ∨ x = 29 ∨ x = 30 ∨ x = 31 ∨ x = 32 ∨ x = 33 ∨ x = 34 ∨ x = 35 ∨ x = 36 ∨ x = 37 ∨ x = 38 ∨ x = 39 ∨ x = 40 ∨ x = 41 ∨ x = 42 ∨ (x.toInt < 0 ∨ 42 < x.toInt) := by
  by_cases h : x.toInt < 0 ∨ 42 < x.toInt
  · exact Or.inr (Or.inr (Or.inr (Or.inr (Or.inr (Or.inr (Or.inr (Or.inr (Or.inr (Or.inr (Or.inr (Or.inr (Or.inr (Or.inr (Or.inr (Or.inr (Or.inr (Or.inr (Or.inr (Or.inr (Or.inr (Or.inr (Or.inr (Or.inr (Or.inr (Or.inr (Or.inr (Or.inr (Or.inr (Or.inr (Or.inr (Or.inr (Or.inr (Or.inr (Or.inr (Or.inr (Or.inr (Or.inr (Or.inr (Or.inr (Or.inr (Or.inr (Or.inr (h)))))))))))))))))))))))))))))))))))))))))))
  · have h2 : x.toInt = 0 ∨ x.toInt = 1 ∨ x.toInt = 2 ∨ x.toInt = 3 ∨ x.toInt = 4 ∨ x.toInt = 5 ∨ x.toInt = 6 ∨ x.toInt = 7 ∨ x.toInt = 8 ∨ x.toInt = 9 ∨ x.toInt = 10 ∨ x.toInt = 11 ∨ x.toInt = 12 ∨ x.toInt = 13 ∨ x.toInt = 14 ∨ x.toInt = 15 ∨ x.toInt = 16 ∨ x.toInt = 17 ∨ x.toInt = 18 ∨ x.toInt = 19 ∨ x.toInt = 20 ∨ x.toInt = 21 ∨ x.toInt = 22 ∨ x.toInt = 23 ∨ x.toInt = 24 ∨ x.toInt = 25 ∨ x.toInt = 26 ∨ x.toInt = 27 ∨ x.toInt = 28 ∨ x.toInt = 29 ∨ x.toInt = 30 ∨ x.toInt = 31 ∨ x.toInt = 32 ∨ x.toInt = 33 ∨ x.toInt = 34 ∨ x.toInt = 35 ∨ x.toInt = 36 ∨ x.toInt = 37 ∨ x.toInt = 38 ∨ x.toInt = 39 ∨ x.toInt = 40 ∨ x.toInt = 41 ∨ x.toInt = 42 := by omega
    rcases h2 with h2 | h2 | h2 | h2 | h2 | h2 | h2 | h2 | h2 | h2 | h2 | h2 | h2 | h2 | h2 | h2 | h2 | h2 | h2 | h2 | h2 | h2 | h2 | h2 | h2 | h2 | h2 | h2 | h2 | h2 | h2 | h2 | h2 | h2 | h2 | h2 | h2 | h2 | h2 | h2 | h2 | h2 | h2
    · exact Or.inl (Int32.toInt_inj.mp (h2.trans (by decide)))
    · exact Or.inr (Or.inl (Int32.toInt_inj.mp (h2.trans (by decide))))
    · exact Or.inr (Or.inr (Or.inl (Int32.toInt_inj.mp (h2.trans (by decide)))))
    · exact Or.inr (Or.inr (Or.inr (Or.inl (Int32.toInt_inj.mp (h2.trans (by decide))))))
    · exact Or.inr (Or.inr (Or.inr (Or.inr (Or.inl (Int32.toInt_inj.mp (h2.trans (by decide)))))))
    · exact Or.inr (Or.inr (Or.inr (Or.inr (Or.inr (Or.inl (Int32.toInt_inj.mp (h2.trans (by decide))))))))
    · exact Or.inr (Or.inr (Or.inr (Or.inr (Or.inr (Or.inr (Or.inl (Int32.toInt_inj.mp (h2.trans (by decide)))))))))
    · exact Or.inr (Or.inr (Or.inr (Or.inr (Or.inr (Or.inr (Or.inr (Or.inl (Int32.toInt_inj.mp (h2.trans (by decide))))))))))
    · exact Or.inr (Or.inr (Or.inr (Or.inr (Or.inr (Or.inr (Or.inr (Or.inr (Or.inl (Int32.toInt_inj.mp (h2.trans (by decide)))))))))))
    · exact Or.inr (Or.inr (Or.inr (Or.inr (Or.inr (Or.inr (Or.inr (Or.inr (Or.inr (Or.inl (Int32.toInt_inj.mp (h2.trans (by decide))))))))))))
    · exact Or.inr (Or.inr (Or.inr (Or.inr (Or.inr (Or.inr (Or.inr (Or.inr (Or.inr (Or.inr (Or.inl (Int32.toInt_inj.mp (h2.trans (by decide)))))))))))))
    · exact Or.inr (Or.inr (Or.inr (Or.inr (Or.inr (Or.inr (Or.inr (Or.inr (Or.inr (Or.inr (Or.inr (Or.inl (Int32.toInt_inj.mp (h2.trans (by decide))))))))))))))
    · exact Or.inr (Or.inr (Or.inr (Or.inr (Or.inr (Or.inr (Or.inr (Or.inr (Or.inr (Or.inr (Or.inr (Or.inr (Or.inl (Int32.toInt_inj.mp (h2.trans (by decide)))))))))))))))
    · exact Or.inr (Or.inr (Or.inr (Or.inr (Or.inr (Or.inr (Or.inr (Or.inr (Or.inr (Or.inr (Or.inr (Or.inr (Or.inr (Or.inl (Int32.toInt_inj.mp (h2.trans (by decide))))))))))))))))
    · exact Or.inr (Or.inr (Or.inr (Or.inr (Or.inr (Or.inr (Or.inr (Or.inr (Or.inr (Or.inr (Or.inr (Or.inr (Or.inr (Or.inr (Or.inl (Int32.toInt_inj.mp (h2.trans (by decide)))))))))))))))))
    · exact Or.inr (Or.inr (Or.inr (Or.inr (Or.inr (Or.inr (Or.inr (Or.inr (Or.inr (Or.inr (Or.inr (Or.inr (Or.inr (Or.inr (Or.inr (Or.inl (Int32.toInt_inj.mp (h2.trans (by decide))))))))))))))))))
    · exact Or.inr (Or.inr (Or.inr (Or.inr (Or.inr (Or.inr (Or.inr (Or.inr (Or.inr (Or.inr (Or.inr (Or.inr (Or.inr (Or.inr (Or.inr (Or.inr (Or.inl (Int32.toInt_inj.mp (h2.trans (by decide)))))))))))))))))))
    · exact Or.inr (Or.inr (Or.inr (Or.inr (Or.inr (Or.inr (Or.inr (Or.inr (Or.inr (Or.inr (Or.inr (Or.inr (Or.inr (Or.inr (Or.inr (Or.inr (Or.inr (Or.inl (Int32.toInt_inj.mp (h2.trans (by decide))))))))))))))))))))
    · exact Or.inr (Or.inr (Or.inr (Or.inr (Or.inr (Or.inr (Or.inr (Or.inr (Or.inr (Or.inr (Or.inr (Or.inr (Or.inr (Or.inr (Or.inr (Or.inr (Or.inr (Or.inr (Or.inl (Int32.toInt_inj.mp (h2.trans (by decide)))))))))))))))))))))
    · exact Or.inr (Or.inr (Or.inr (Or.inr (Or.inr (Or.inr (Or.inr (Or.inr (Or.inr (Or.inr (Or.inr (Or.inr (Or.inr (Or.inr (Or.inr (Or.inr (Or.inr (Or.inr (Or.inr (Or.inl (Int32.toInt_inj.mp (h2.trans (by decide))))))))))))))))))))))
    · exact Or.inr (Or.inr (Or.inr (Or.inr (Or.inr (Or.inr (Or.inr (Or.inr (Or.inr (Or.inr (Or.inr (Or.inr (Or.inr (Or.inr (Or.inr (Or.inr (Or.inr (Or.inr (Or.inr (Or.inr (Or.inl (Int32.toInt_inj.mp (h2.trans (by decide)))))))))))))))))))))))
    · exact Or.inr (Or.inr (Or.inr (Or.inr (Or.inr (Or.inr (Or.inr (Or.inr (Or.inr (Or.inr (Or.inr (Or.inr (Or.inr (Or.inr (Or.inr (Or.inr (Or.inr (Or.inr (Or.inr (Or.inr (Or.inr (Or.inl (Int32.toInt_inj.mp (h2.trans (by decide))))))))))))))))))))))))
    · exact Or.inr (Or.inr (Or.inr (Or.inr (Or.inr (Or.inr (Or.inr (Or.inr (Or.inr (Or.inr (Or.inr (Or.inr (Or.inr (Or.inr (Or.inr (Or.inr (Or.inr (Or.inr (Or.inr (Or.inr (Or.inr (Or.inr (Or.inl (Int32.toInt_inj.mp (h2.trans (by decide)))))))))))))))))))))))))
    · exact Or.inr (Or.inr (Or.inr (Or.inr (Or.inr (Or.inr (Or.inr (Or.inr (Or.inr (Or.inr (Or.inr (Or.inr (Or.inr (Or.inr (Or.inr (Or.inr (Or.inr (Or.inr (Or.inr (Or.inr (Or.inr (Or.inr (Or.inr (Or.inl (Int32.toInt_inj.mp (h2.trans (by decide))))))))))))))))))))))))))
    · exact Or.inr (Or.inr (Or.inr (Or.inr (Or.inr (Or.inr (Or.inr (Or.inr (Or.inr (Or.inr (Or.inr (Or.inr (Or.inr (Or.inr (Or.inr (Or.inr (Or.inr (Or.inr (Or.inr (Or.inr (Or.inr (Or.inr (Or.inr (Or.inr (Or.inl (Int32.toInt_inj.mp (h2.trans (by decide)))))))))))))))))))))))))))
    · exact Or.inr (Or.inr (Or.inr (Or.inr (Or.inr (Or.inr (Or.inr (Or.inr (Or.inr (Or.inr (Or.inr (Or.inr (Or.inr (Or.inr (Or.inr (Or.inr (Or.inr (Or.inr (Or.inr (Or.inr (Or.inr (Or.inr (Or.inr (Or.inr (Or.inr (Or.inl (Int32.toInt_inj.mp (h2.trans (by decide))))))))))))))))))))))))))))
    · exact Or.inr (Or.inr (Or.inr (Or.inr (Or.inr (Or.inr (Or.inr (Or.inr (Or.inr (Or.inr (Or.inr (Or.inr (Or.inr (Or.inr (Or.inr (Or.inr (Or.inr (Or.inr (Or.inr (Or.inr (Or.inr (Or.inr (Or.inr (Or.inr (Or.inr (Or.inr (Or.inl (Int32.toInt_inj.mp (h2.trans (by decide)))))))))))))))))))))))))))))
    · exact Or.inr (Or.inr (Or.inr (Or.inr (Or.inr (Or.inr (Or.inr (Or.inr (Or.inr (Or.inr (Or.inr (Or.inr (Or.inr (Or.inr (Or.inr (Or.inr (Or.inr (Or.inr (Or.inr (Or.inr (Or.inr (Or.inr (Or.inr (Or.inr (Or.inr (Or.inr (Or.inr (Or.inl (Int32.toInt_inj.mp (h2.trans (by decide))))))))))))))))))))))))))))))
    · exact Or.inr (Or.inr (Or.inr (Or.inr (Or.inr (Or.inr (Or.inr (Or.inr (Or.inr (Or.inr (Or.inr (Or.inr (Or.inr (Or.inr (Or.inr (Or.inr (Or.inr (Or.inr (Or.inr (Or.inr (Or.inr (Or.inr (Or.inr (Or.inr (Or.inr (Or.inr (Or.inr (Or.inr (Or.inl (Int32.toInt_inj.mp (h2.trans (by decide)))))))))))))))))))))))))))))))
    · exact Or.inr (Or.inr (Or.inr (Or.inr (Or.inr (Or.inr (Or.inr (Or.inr (Or.inr (Or.inr (Or.inr (Or.inr (Or.inr (Or.inr (Or.inr (Or.inr (Or.inr (Or.inr (Or.inr (Or.inr (Or.inr (Or.inr (Or.inr (Or.inr (Or.inr (Or.inr (Or.inr (Or.inr (Or.inr (Or.inl (Int32.toInt_inj.mp (h2.trans (by decide))))))))))))))))))))))))))))))))
    · exact Or.inr (Or.inr (Or.inr (Or.inr (Or.inr (Or.inr (Or.inr (Or.inr (Or.inr (Or.inr (Or.inr (Or.inr (Or.inr (Or.inr (Or.inr (Or.inr (Or.inr (Or.inr (Or.inr (Or.inr (Or.inr (Or.inr (Or.inr (Or.inr (Or.inr (Or.inr (Or.inr (Or.inr (Or.inr (Or.inr (Or.inl (Int32.toInt_inj.mp (h2.trans (by decide)))))))))))))))))))))))))))))))))
    · exact Or.inr (Or.inr (Or.inr (Or.inr (Or.inr (Or.inr (Or.inr (Or.inr (Or.inr (Or.inr (Or.inr (Or.inr (Or.inr (Or.inr (Or.inr (Or.inr (Or.inr (Or.inr (Or.inr (Or.inr (Or.inr (Or.inr (Or.inr (Or.inr (Or.inr (Or.inr (Or.inr (Or.inr (Or.inr (Or.inr (Or.inr (Or.inl (Int32.toInt_inj.mp (h2.trans (by decide))))))))))))))))))))))))))))))))))
    · exact Or.inr (Or.inr (Or.inr (Or.inr (Or.inr (Or.inr (Or.inr (Or.inr (Or.inr (Or.inr (Or.inr (Or.inr (Or.inr (Or.inr (Or.inr (Or.inr (Or.inr (Or.inr (Or.inr (Or.inr (Or.inr (Or.inr (Or.inr (Or.inr (Or.inr (Or.inr (Or.inr (Or.inr (Or.inr (Or.inr (Or.inr (Or.inr (Or.inl (Int32.toInt_inj.mp (h2.trans (by decide)))))))))))))))))))))))))))))))))))
    · exact Or.inr (Or.inr (Or.inr (Or.inr (Or.inr (Or.inr (Or.inr (Or.inr (Or.inr (Or.inr (Or.inr (Or.inr (Or.inr (Or.inr (Or.inr (Or.inr (Or.inr (Or.inr (Or.inr (Or.inr (Or.inr (Or.inr (Or.inr (Or.inr (Or.inr (Or.inr (Or.inr (Or.inr (Or.inr (Or.inr (Or.inr (Or.inr (Or.inr (Or.inl (Int32.toInt_inj.mp (h2.trans (by decide))))))))))))))))))))))))))))))))))))
    · exact Or.inr (Or.inr (Or.inr (Or.inr (Or.inr (Or.inr (Or.inr (Or.inr (Or.inr (Or.inr (Or.inr (Or.inr (Or.inr (Or.inr (Or.inr (Or.inr (Or.inr (Or.inr (Or.inr (Or.inr (Or.inr (Or.inr (Or.inr (Or.inr (Or.inr (Or.inr (Or.inr (Or.inr (Or.inr (Or.inr (Or.inr (Or.inr (Or.inr (Or.inr (Or.inl (Int32.toInt_inj.mp (h2.trans (by decide)))))))))))))))))))))))))))))))))))))
    · exact Or.inr (Or.inr (Or.inr (Or.inr (Or.inr (Or.inr (Or.inr (Or.inr (Or.inr (Or.inr (Or.inr (Or.inr (Or.inr (Or.inr (Or.inr (Or.inr (Or.inr (Or.inr (Or.inr (Or.inr (Or.inr (Or.inr (Or.inr (Or.inr (Or.inr (Or.inr (Or.inr (Or.inr (Or.inr (Or.inr (Or.inr (Or.inr (Or.inr (Or.inr (Or.inr (Or.inl (Int32.toInt_inj.mp (h2.trans (by decide))))))))))))))))))))))))))))))))))))))
    · exact Or.inr (Or.inr (Or.inr (Or.inr (Or.inr (Or.inr (Or.inr (Or.inr (Or.inr (Or.inr (Or.inr (Or.inr (Or.inr (Or.inr (Or.inr (Or.inr (Or.inr (Or.inr (Or.inr (Or.inr (Or.inr (Or.inr (Or.inr (Or.inr (Or.inr (Or.inr (Or.inr (Or.inr (Or.inr (Or.inr (Or.inr (Or.inr (Or.inr (Or.inr (Or.inr (Or.inr (Or.inl (Int32.toInt_inj.mp (h2.trans (by decide)))))))))))))))))))))))))))))))))))))))
    · exact Or.inr (Or.inr (Or.inr (Or.inr (Or.inr (Or.inr (Or.inr (Or.inr (Or.inr (Or.inr (Or.inr (Or.inr (Or.inr (Or.inr (Or.inr (Or.inr (Or.inr (Or.inr (Or.inr (Or.inr (Or.inr (Or.inr (Or.inr (Or.inr (Or.inr (Or.inr (Or.inr (Or.inr (Or.inr (Or.inr (Or.inr (Or.inr (Or.inr (Or.inr (Or.inr (Or.inr (Or.inr (Or.inl (Int32.toInt_inj.mp (h2.trans (by decide))))))))))))))))))))))))))))))))))))))))
    · exact Or.inr (Or.inr (Or.inr (Or.inr (Or.inr (Or.inr (Or.inr (Or.inr (Or.inr (Or.inr (Or.inr (Or.inr (Or.inr (Or.inr (Or.inr (Or.inr (Or.inr (Or.inr (Or.inr (Or.inr (Or.inr (Or.inr (Or.inr (Or.inr (Or.inr (Or.inr (Or.inr (Or.inr (Or.inr (Or.inr (Or.inr (Or.inr (Or.inr (Or.inr (Or.inr (Or.inr (Or.inr (Or.inr (Or.inl (Int32.toInt_inj.mp (h2.trans (by decide)))))))))))))))))))))))))))))))))))))))))
    · exact Or.inr (Or.inr (Or.inr (Or.inr (Or.inr (Or.inr (Or.inr (Or.inr (Or.inr (Or.inr (Or.inr (Or.inr (Or.inr (Or.inr (Or.inr (Or.inr (Or.inr (Or.inr (Or.inr (Or.inr (Or.inr (Or.inr (Or.inr (Or.inr (Or.inr (Or.inr (Or.inr (Or.inr (Or.inr (Or.inr (Or.inr (Or.inr (Or.inr (Or.inr (Or.inr (Or.inr (Or.inr (Or.inr (Or.inr (Or.inl (Int32.toInt_inj.mp (h2.trans (by decide))))))))))))))))))))))))))))))))))))))))))
    · exact Or.inr (Or.inr (Or.inr (Or.inr (Or.inr (Or.inr (Or.inr (Or.inr (Or.inr (Or.inr (Or.inr (Or.inr (Or.inr (Or.inr (Or.inr (Or.inr (Or.inr (Or.inr (Or.inr (Or.inr (Or.inr (Or.inr (Or.inr (Or.inr (Or.inr (Or.inr (Or.inr (Or.inr (Or.inr (Or.inr (Or.inr (Or.inr (Or.inr (Or.inr (Or.inr (Or.inr (Or.inr (Or.inr (Or.inr (Or.inr (Or.inl (Int32.toInt_inj.mp (h2.trans (by decide)))))))))))))))))))))))))))))))))))))))))))
    · exact Or.inr (Or.inr (Or.inr (Or.inr (Or.inr (Or.inr (Or.inr (Or.inr (Or.inr (Or.inr (Or.inr (Or.inr (Or.inr (Or.inr (Or.inr (Or.inr (Or.inr (Or.inr (Or.inr (Or.inr (Or.inr (Or.inr (Or.inr (Or.inr (Or.inr (Or.inr (Or.inr (Or.inr (Or.inr (Or.inr (Or.inr (Or.inr (Or.inr (Or.inr (Or.inr (Or.inr (Or.inr (Or.inr (Or.inr (Or.inr (Or.inr (Or.inl (Int32.toInt_inj.mp (h2.trans (by decide))))))))))))))))))))))))))))))))))))))))))))
    · exact Or.inr (Or.inr (Or.inr (Or.inr (Or.inr (Or.inr (Or.inr (Or.inr (Or.inr (Or.inr (Or.inr (Or.inr (Or.inr (Or.inr (Or.inr (Or.inr (Or.inr (Or.inr (Or.inr (Or.inr (Or.inr (Or.inr (Or.inr (Or.inr (Or.inr (Or.inr (Or.inr (Or.inr (Or.inr (Or.inr (Or.inr (Or.inr (Or.inr (Or.inr (Or.inr (Or.inr (Or.inr (Or.inr (Or.inr (Or.inr (Or.inr (Or.inr (Or.inl (Int32.toInt_inj.mp (h2.trans (by decide)))))))))))))))))))))))))))))))))))))))))))))
set_option maxHeartbeats 8000000 in
theorem lp_law {μ : Mx} {ω : Om} {d : Nat} (C : Cx μ ω "TowFieldLaw" cL_law 4 d) (hd : 700 ≤ d) (hc : 148 ≤ (mR μ).cells) (hk : 5929 ≤ (mR μ).slots) {Q : State → Prop} (hEnd : ∀ (σ : Sg) (lv : List (Option Value)), G μ ω Q 1584 lv [.int 1] (mk σ) 148 5929) (hLL : oL ω ≤ 384) : ∀ (f i : Nat) (σ : Sg), oL ω ≤ i + f → i ≤ 390 → LI σ → G μ ω Q 18 [some (.ref 100300), some (.ref 0), some (.ref 135), some (.int (nI i))] [] (mk σ) 148 5929 := by
  intro f
  induction f with
  | zero =>
    intro i σ hif hi hL
    refine g_il3n (pc := 18) C dL_law_18 ?_
    refine g_al0n (pc := 19) C dL_law_19 ?_
    refine g_scrLen (pc := 20) C dL_law_20 ?_
    refine g_bipush (pc := 21) (v := 6) C dL_law_21 (by decide) ?_
    refine g_isub (pc := 23) C dL_law_23 ?_
    refine g_icmp_gt (pc := 24) (tgt := 1583) C dL_law_24 (by decide) (fun c_24 => ?_) (fun c_24 => absurd ((law_c hLL hi).mpr (by omega)) c_24)
    refine g_iconst (pc := 1583) (v := 1) C dL_law_1583 (by decide) ?_
    exact hEnd _ _
  | succ f ih =>
    intro i σ hif hi hL
    have nx : oL ω < i + 6 ∨ ∀ υ, LI υ → G μ ω Q 1577 [some (.ref 100300), some (.ref 0), some (.ref 135), some (.int (nI i))] [] (mk υ) 148 5929 := by
      rcases Nat.lt_or_ge (oL ω) (i + 6) with z | z
      · exact Or.inl z
      · refine Or.inr (fun υ hL2 => ?_)
        refine g_ii3 (pc := 1577) (v := nI (i + 6)) C dL_law_1577 (by rw [show Int32.ofInt 6 = nI 6 from rfl, nI_add]) ?_
        refine g_goto (pc := 1580) (tgt := 18) C dL_law_1580 (by decide) ?_
        exact ih (i + 6) υ (by omega) (by omega) hL2
    refine g_il3n (pc := 18) C dL_law_18 ?_
    refine g_al0n (pc := 19) C dL_law_19 ?_
    refine g_scrLen (pc := 20) C dL_law_20 ?_
    refine g_bipush (pc := 21) (v := 6) C dL_law_21 (by decide) ?_
    refine g_isub (pc := 23) C dL_law_23 ?_
    refine g_icmp_gt (pc := 24) (tgt := 1583) C dL_law_24 (by decide) (fun c_24 => ?_) (fun c_24 => ?_)
    · refine g_iconst (pc := 1583) (v := 1) C dL_law_1583 (by decide) ?_
      exact hEnd _ _
    · have hlt : i + 6 ≤ oL ω := by rcases Nat.lt_or_ge (oL ω) (i + 6) with z | z; exact absurd ((law_c hLL hi).mpr z) c_24; exact z
      have nx := nx.resolve_left (by omega)
      have hv0 : vp_in (nI i) (oL ω) := by have := vp_i (k := 0) hLL (show i + 0 < oL ω by omega); rw [nI_add] at this; exact this
      have hv1 : vp_in (nI i + 1) (oL ω) := vp_i (k := 1) hLL (by omega)
      have hv2 : vp_in (nI i + 2) (oL ω) := vp_i (k := 2) hLL (by omega)
      have hv3 : vp_in (nI i + 3) (oL ω) := vp_i (k := 3) hLL (by omega)
      have hv4 : vp_in (nI i + 4) (oL ω) := vp_i (k := 4) hLL (by omega)
      have hv5 : vp_in (nI i + 5) (oL ω) := vp_i (k := 5) hLL (by omega)
      refine g_al0n (pc := 27) C dL_law_27 ?_
      refine g_il3n (pc := 28) C dL_law_28 ?_
      refine g_scr (pc := 29) C (by first | exact hv0 | exact hv1 | exact hv2 | exact hv3 | exact hv4 | exact hv5) dL_law_29 ?_
      refine g_bipush (pc := 30) (v := 63) C dL_law_30 (by decide) ?_
      refine g_iand (pc := 32) C dL_law_32 ?_
      rcases sw_0_42 ((oX ω (nI i).toNatClampNeg) &&& 63) with w_33 | w_33 | w_33 | w_33 | w_33 | w_33 | w_33 | w_33 | w_33 | w_33 | w_33 | w_33 | w_33 | w_33 | w_33 | w_33 | w_33 | w_33 | w_33 | w_33 | w_33 | w_33 | w_33 | w_33 | w_33 | w_33 | w_33 | w_33 | w_33 | w_33 | w_33 | w_33 | w_33 | w_33 | w_33 | w_33 | w_33 | w_33 | w_33 | w_33 | w_33 | w_33 | w_33 | w_33
      · refine g_tabE (pc := 33) (tgt := 220) (off := 187) (v := 0) C dL_law_33 w_33 (by decide) (by decide) (by decide) (by decide) ?_
        refine g_al1n (pc := 220) C dL_law_220 ?_
        refine g_al0n (pc := 221) C dL_law_221 ?_
        refine g_il3n (pc := 222) C dL_law_222 ?_
        refine g_iconst (pc := 223) (v := 1) C dL_law_223 (by decide) ?_
        refine g_iadd (pc := 224) C dL_law_224 ?_
        refine g_scr (pc := 225) C (by first | exact hv0 | exact hv1 | exact hv2 | exact hv3 | exact hv4 | exact hv5) dL_law_225 ?_
        refine g_al0n (pc := 226) C dL_law_226 ?_
        refine g_il3n (pc := 227) C dL_law_227 ?_
        refine g_iconst (pc := 228) (v := 2) C dL_law_228 (by decide) ?_
        refine g_iadd (pc := 229) C dL_law_229 ?_
        refine g_scr (pc := 230) C (by first | exact hv0 | exact hv1 | exact hv2 | exact hv3 | exact hv4 | exact hv5) dL_law_230 ?_
        refine g_al0n (pc := 231) C dL_law_231 ?_
        refine g_il3n (pc := 232) C dL_law_232 ?_
        refine g_iconst (pc := 233) (v := 3) C dL_law_233 (by decide) ?_
        refine g_iadd (pc := 234) C dL_law_234 ?_
        refine g_scr (pc := 235) C (by first | exact hv0 | exact hv1 | exact hv2 | exact hv3 | exact hv4 | exact hv5) dL_law_235 ?_
        refine g_al0n (pc := 236) C dL_law_236 ?_
        refine g_il3n (pc := 237) C dL_law_237 ?_
        refine g_iconst (pc := 238) (v := 4) C dL_law_238 (by decide) ?_
        refine g_iadd (pc := 239) C dL_law_239 ?_
        refine g_scr (pc := 240) C (by first | exact hv0 | exact hv1 | exact hv2 | exact hv3 | exact hv4 | exact hv5) dL_law_240 ?_
        refine q_callX (M := mX11_glider) (pc := 241) (st := []) (as := [.int (oX ω ((nI i) + 1).toNatClampNeg), .int (oX ω ((nI i) + 2).toNatClampNeg), .int (oX ω ((nI i) + 3).toNatClampNeg), .int (oX ω ((nI i) + 4).toNatClampNeg)]) C rfl (x_glider (d := d - 1) (by omega) σ hL.2.1 hL.1 (oX ω ((nI i) + 1).toNatClampNeg) (oX ω ((nI i) + 2).toNatClampNeg) (oX ω ((nI i) + 3).toNatClampNeg) (oX ω ((nI i) + 4).toNatClampNeg)) (by omega) lL_13 dL_law_241 rfl (Nat.le_of_ble_eq_true rfl) hc hk rfl (fun v τ hx => ?_)
        refine g_al2n (pc := 244) C dL_law_244 ?_
        refine g_al0n (pc := 245) C dL_law_245 ?_
        refine g_il3n (pc := 246) C dL_law_246 ?_
        refine g_iconst (pc := 247) (v := 1) C dL_law_247 (by decide) ?_
        refine g_iadd (pc := 248) C dL_law_248 ?_
        refine g_scr (pc := 249) C (by first | exact hv0 | exact hv1 | exact hv2 | exact hv3 | exact hv4 | exact hv5) dL_law_249 ?_
        refine g_al0n (pc := 250) C dL_law_250 ?_
        refine g_il3n (pc := 251) C dL_law_251 ?_
        refine g_iconst (pc := 252) (v := 2) C dL_law_252 (by decide) ?_
        refine g_iadd (pc := 253) C dL_law_253 ?_
        refine g_scr (pc := 254) C (by first | exact hv0 | exact hv1 | exact hv2 | exact hv3 | exact hv4 | exact hv5) dL_law_254 ?_
        refine g_al0n (pc := 255) C dL_law_255 ?_
        refine g_il3n (pc := 256) C dL_law_256 ?_
        refine g_iconst (pc := 257) (v := 3) C dL_law_257 (by decide) ?_
        refine g_iadd (pc := 258) C dL_law_258 ?_
        refine g_scr (pc := 259) C (by first | exact hv0 | exact hv1 | exact hv2 | exact hv3 | exact hv4 | exact hv5) dL_law_259 ?_
        refine g_al0n (pc := 260) C dL_law_260 ?_
        refine g_il3n (pc := 261) C dL_law_261 ?_
        refine g_iconst (pc := 262) (v := 4) C dL_law_262 (by decide) ?_
        refine g_iadd (pc := 263) C dL_law_263 ?_
        refine g_scr (pc := 264) C (by first | exact hv0 | exact hv1 | exact hv2 | exact hv3 | exact hv4 | exact hv5) dL_law_264 ?_
        refine q_callM (M := mX12_glider) (pc := 265) (st := [(.int v)]) (as := [.int (oX ω ((nI i) + 1).toNatClampNeg), .int (oX ω ((nI i) + 2).toNatClampNeg), .int (oX ω ((nI i) + 3).toNatClampNeg), .int (oX ω ((nI i) + 4).toNatClampNeg)]) C rfl (m_glider (d := d - 1) (by omega) τ (by rw [hx.2.2 136 (by decide)]; exact hL.2.1.i) (oX ω ((nI i) + 1).toNatClampNeg) (oX ω ((nI i) + 2).toNatClampNeg) (oX ω ((nI i) + 3).toNatClampNeg) (oX ω ((nI i) + 4).toNatClampNeg)) (by omega) lL_17 dL_law_265 rfl (Nat.le_of_ble_eq_true rfl) hc hk rfl (fun w υ hm => ?_)
        obtain ⟨hvw, hL2⟩ := LI_step hL hx hm (by rw [mv_same hx.2.2]) (i_glider hL.2.1 (oX ω ((nI i) + 1).toNatClampNeg) (oX ω ((nI i) + 2).toNatClampNeg) (oX ω ((nI i) + 3).toNatClampNeg) (oX ω ((nI i) + 4).toNatClampNeg))
        refine g_icmp_eq (pc := 268) (tgt := 1577) C dL_law_268 (by decide) (fun c_268 => ?_) (fun c_268 => absurd hvw c_268)
        exact nx _ hL2
      · refine g_tabE (pc := 33) (tgt := 273) (off := 240) (v := 1) C dL_law_33 w_33 (by decide) (by decide) (by decide) (by decide) ?_
        refine g_al1n (pc := 273) C dL_law_273 ?_
        refine g_al0n (pc := 274) C dL_law_274 ?_
        refine g_il3n (pc := 275) C dL_law_275 ?_
        refine g_iconst (pc := 276) (v := 1) C dL_law_276 (by decide) ?_
        refine g_iadd (pc := 277) C dL_law_277 ?_
        refine g_scr (pc := 278) C (by first | exact hv0 | exact hv1 | exact hv2 | exact hv3 | exact hv4 | exact hv5) dL_law_278 ?_
        refine g_al0n (pc := 279) C dL_law_279 ?_
        refine g_il3n (pc := 280) C dL_law_280 ?_
        refine g_iconst (pc := 281) (v := 2) C dL_law_281 (by decide) ?_
        refine g_iadd (pc := 282) C dL_law_282 ?_
        refine g_scr (pc := 283) C (by first | exact hv0 | exact hv1 | exact hv2 | exact hv3 | exact hv4 | exact hv5) dL_law_283 ?_
        refine q_callX (M := mX11_person) (pc := 284) (st := []) (as := [.int (oX ω ((nI i) + 1).toNatClampNeg), .int (oX ω ((nI i) + 2).toNatClampNeg)]) C rfl (x_person (d := d - 1) (by omega) σ hL.2.1 hL.1 (oX ω ((nI i) + 1).toNatClampNeg) (oX ω ((nI i) + 2).toNatClampNeg)) (by omega) lL_18 dL_law_284 rfl (Nat.le_of_ble_eq_true rfl) hc hk rfl (fun v τ hx => ?_)
        refine g_al2n (pc := 287) C dL_law_287 ?_
        refine g_al0n (pc := 288) C dL_law_288 ?_
        refine g_il3n (pc := 289) C dL_law_289 ?_
        refine g_iconst (pc := 290) (v := 1) C dL_law_290 (by decide) ?_
        refine g_iadd (pc := 291) C dL_law_291 ?_
        refine g_scr (pc := 292) C (by first | exact hv0 | exact hv1 | exact hv2 | exact hv3 | exact hv4 | exact hv5) dL_law_292 ?_
        refine g_al0n (pc := 293) C dL_law_293 ?_
        refine g_il3n (pc := 294) C dL_law_294 ?_
        refine g_iconst (pc := 295) (v := 2) C dL_law_295 (by decide) ?_
        refine g_iadd (pc := 296) C dL_law_296 ?_
        refine g_scr (pc := 297) C (by first | exact hv0 | exact hv1 | exact hv2 | exact hv3 | exact hv4 | exact hv5) dL_law_297 ?_
        refine q_callM (M := mX12_person) (pc := 298) (st := [(.int v)]) (as := [.int (oX ω ((nI i) + 1).toNatClampNeg), .int (oX ω ((nI i) + 2).toNatClampNeg)]) C rfl (m_person (d := d - 1) (by omega) τ (by rw [hx.2.2 136 (by decide)]; exact hL.2.1.i) (oX ω ((nI i) + 1).toNatClampNeg) (oX ω ((nI i) + 2).toNatClampNeg)) (by omega) lL_22 dL_law_298 rfl (Nat.le_of_ble_eq_true rfl) hc hk rfl (fun w υ hm => ?_)
        obtain ⟨hvw, hL2⟩ := LI_step hL hx hm (by rw [mv_same hx.2.2]) (i_person hL.2.1 (oX ω ((nI i) + 1).toNatClampNeg) (oX ω ((nI i) + 2).toNatClampNeg))
        refine g_icmp_eq (pc := 301) (tgt := 1577) C dL_law_301 (by decide) (fun c_301 => ?_) (fun c_301 => absurd hvw c_301)
        exact nx _ hL2
      · refine g_tabE (pc := 33) (tgt := 306) (off := 273) (v := 2) C dL_law_33 w_33 (by decide) (by decide) (by decide) (by decide) ?_
        refine g_al1n (pc := 306) C dL_law_306 ?_
        refine q_callX (M := mX11_winch) (pc := 307) (st := []) (as := []) C rfl (x_winch (d := d - 1) (by omega) σ hL.2.1 hL.1) (by omega) lL_23 dL_law_307 rfl (Nat.le_of_ble_eq_true rfl) hc hk rfl (fun v τ hx => ?_)
        refine g_al2n (pc := 310) C dL_law_310 ?_
        refine q_callM (M := mX12_winch) (pc := 311) (st := [(.int v)]) (as := []) C rfl (m_winch (d := d - 1) (by omega) τ (by rw [hx.2.2 136 (by decide)]; exact hL.2.1.i)) (by omega) lL_27 dL_law_311 rfl (Nat.le_of_ble_eq_true rfl) hc hk rfl (fun w υ hm => ?_)
        obtain ⟨hvw, hL2⟩ := LI_step hL hx hm (by rw [mv_same hx.2.2]) (i_winch hL.2.1)
        refine g_icmp_eq (pc := 314) (tgt := 1577) C dL_law_314 (by decide) (fun c_314 => ?_) (fun c_314 => absurd hvw c_314)
        exact nx _ hL2
      · refine g_tabE (pc := 33) (tgt := 319) (off := 286) (v := 3) C dL_law_33 w_33 (by decide) (by decide) (by decide) (by decide) ?_
        refine g_al1n (pc := 319) C dL_law_319 ?_
        refine q_callX (M := mX11_plane) (pc := 320) (st := []) (as := []) C rfl (x_plane (d := d - 1) (by omega) σ hL.2.1 hL.1) (by omega) lL_28 dL_law_320 rfl (Nat.le_of_ble_eq_true rfl) hc hk rfl (fun v τ hx => ?_)
        refine g_al2n (pc := 323) C dL_law_323 ?_
        refine q_callM (M := mX12_plane) (pc := 324) (st := [(.int v)]) (as := []) C rfl (m_plane (d := d - 1) (by omega) τ (by rw [hx.2.2 136 (by decide)]; exact hL.2.1.i)) (by omega) lL_31 dL_law_324 rfl (Nat.le_of_ble_eq_true rfl) hc hk rfl (fun w υ hm => ?_)
        obtain ⟨hvw, hL2⟩ := LI_step hL hx hm (by rw [mv_same hx.2.2]) (i_plane hL.2.1)
        refine g_icmp_eq (pc := 327) (tgt := 1577) C dL_law_327 (by decide) (fun c_327 => ?_) (fun c_327 => absurd hvw c_327)
        exact nx _ hL2
      · refine g_tabE (pc := 33) (tgt := 332) (off := 299) (v := 4) C dL_law_33 w_33 (by decide) (by decide) (by decide) (by decide) ?_
        refine g_al1n (pc := 332) C dL_law_332 ?_
        refine g_al0n (pc := 333) C dL_law_333 ?_
        refine g_il3n (pc := 334) C dL_law_334 ?_
        refine g_iconst (pc := 335) (v := 1) C dL_law_335 (by decide) ?_
        refine g_iadd (pc := 336) C dL_law_336 ?_
        refine g_scr (pc := 337) C (by first | exact hv0 | exact hv1 | exact hv2 | exact hv3 | exact hv4 | exact hv5) dL_law_337 ?_
        refine g_al0n (pc := 338) C dL_law_338 ?_
        refine g_il3n (pc := 339) C dL_law_339 ?_
        refine g_iconst (pc := 340) (v := 2) C dL_law_340 (by decide) ?_
        refine g_iadd (pc := 341) C dL_law_341 ?_
        refine g_scr (pc := 342) C (by first | exact hv0 | exact hv1 | exact hv2 | exact hv3 | exact hv4 | exact hv5) dL_law_342 ?_
        refine q_callX (M := mX11_gliderIs) (pc := 343) (st := []) (as := [.int (oX ω ((nI i) + 1).toNatClampNeg), .int (oX ω ((nI i) + 2).toNatClampNeg)]) C rfl (x_gliderIs (d := d - 1) (by omega) σ hL.2.1 hL.1 (oX ω ((nI i) + 1).toNatClampNeg) (oX ω ((nI i) + 2).toNatClampNeg)) (by omega) lL_32 dL_law_343 rfl (Nat.le_of_ble_eq_true rfl) hc hk rfl (fun v τ hx => ?_)
        refine g_al2n (pc := 346) C dL_law_346 ?_
        refine g_al0n (pc := 347) C dL_law_347 ?_
        refine g_il3n (pc := 348) C dL_law_348 ?_
        refine g_iconst (pc := 349) (v := 1) C dL_law_349 (by decide) ?_
        refine g_iadd (pc := 350) C dL_law_350 ?_
        refine g_scr (pc := 351) C (by first | exact hv0 | exact hv1 | exact hv2 | exact hv3 | exact hv4 | exact hv5) dL_law_351 ?_
        refine g_al0n (pc := 352) C dL_law_352 ?_
        refine g_il3n (pc := 353) C dL_law_353 ?_
        refine g_iconst (pc := 354) (v := 2) C dL_law_354 (by decide) ?_
        refine g_iadd (pc := 355) C dL_law_355 ?_
        refine g_scr (pc := 356) C (by first | exact hv0 | exact hv1 | exact hv2 | exact hv3 | exact hv4 | exact hv5) dL_law_356 ?_
        refine q_callM (M := mX12_gliderIs) (pc := 357) (st := [(.int v)]) (as := [.int (oX ω ((nI i) + 1).toNatClampNeg), .int (oX ω ((nI i) + 2).toNatClampNeg)]) C rfl (m_gliderIs (d := d - 1) (by omega) τ (by rw [hx.2.2 136 (by decide)]; exact hL.2.1.i) (oX ω ((nI i) + 1).toNatClampNeg) (oX ω ((nI i) + 2).toNatClampNeg)) (by omega) lL_35 dL_law_357 rfl (Nat.le_of_ble_eq_true rfl) hc hk rfl (fun w υ hm => ?_)
        obtain ⟨hvw, hL2⟩ := LI_step hL hx hm (by rw [mv_same hx.2.2]) (i_gliderIs hL.2.1 (oX ω ((nI i) + 1).toNatClampNeg) (oX ω ((nI i) + 2).toNatClampNeg))
        refine g_icmp_eq (pc := 360) (tgt := 1577) C dL_law_360 (by decide) (fun c_360 => ?_) (fun c_360 => absurd hvw c_360)
        exact nx _ hL2
      · refine g_tabE (pc := 33) (tgt := 365) (off := 332) (v := 5) C dL_law_33 w_33 (by decide) (by decide) (by decide) (by decide) ?_
        refine g_al1n (pc := 365) C dL_law_365 ?_
        refine g_al0n (pc := 366) C dL_law_366 ?_
        refine g_il3n (pc := 367) C dL_law_367 ?_
        refine g_iconst (pc := 368) (v := 1) C dL_law_368 (by decide) ?_
        refine g_iadd (pc := 369) C dL_law_369 ?_
        refine g_scr (pc := 370) C (by first | exact hv0 | exact hv1 | exact hv2 | exact hv3 | exact hv4 | exact hv5) dL_law_370 ?_
        refine g_al0n (pc := 371) C dL_law_371 ?_
        refine g_il3n (pc := 372) C dL_law_372 ?_
        refine g_iconst (pc := 373) (v := 2) C dL_law_373 (by decide) ?_
        refine g_iadd (pc := 374) C dL_law_374 ?_
        refine g_scr (pc := 375) C (by first | exact hv0 | exact hv1 | exact hv2 | exact hv3 | exact hv4 | exact hv5) dL_law_375 ?_
        refine q_callX (M := mX11_personIs) (pc := 376) (st := []) (as := [.int (oX ω ((nI i) + 1).toNatClampNeg), .int (oX ω ((nI i) + 2).toNatClampNeg)]) C rfl (x_personIs (d := d - 1) (by omega) σ hL.2.1 hL.1 (oX ω ((nI i) + 1).toNatClampNeg) (oX ω ((nI i) + 2).toNatClampNeg)) (by omega) lL_36 dL_law_376 rfl (Nat.le_of_ble_eq_true rfl) hc hk rfl (fun v τ hx => ?_)
        refine g_al2n (pc := 379) C dL_law_379 ?_
        refine g_al0n (pc := 380) C dL_law_380 ?_
        refine g_il3n (pc := 381) C dL_law_381 ?_
        refine g_iconst (pc := 382) (v := 1) C dL_law_382 (by decide) ?_
        refine g_iadd (pc := 383) C dL_law_383 ?_
        refine g_scr (pc := 384) C (by first | exact hv0 | exact hv1 | exact hv2 | exact hv3 | exact hv4 | exact hv5) dL_law_384 ?_
        refine g_al0n (pc := 385) C dL_law_385 ?_
        refine g_il3n (pc := 386) C dL_law_386 ?_
        refine g_iconst (pc := 387) (v := 2) C dL_law_387 (by decide) ?_
        refine g_iadd (pc := 388) C dL_law_388 ?_
        refine g_scr (pc := 389) C (by first | exact hv0 | exact hv1 | exact hv2 | exact hv3 | exact hv4 | exact hv5) dL_law_389 ?_
        refine q_callM (M := mX12_personIs) (pc := 390) (st := [(.int v)]) (as := [.int (oX ω ((nI i) + 1).toNatClampNeg), .int (oX ω ((nI i) + 2).toNatClampNeg)]) C rfl (m_personIs (d := d - 1) (by omega) τ (by rw [hx.2.2 136 (by decide)]; exact hL.2.1.i) (oX ω ((nI i) + 1).toNatClampNeg) (oX ω ((nI i) + 2).toNatClampNeg)) (by omega) lL_39 dL_law_390 rfl (Nat.le_of_ble_eq_true rfl) hc hk rfl (fun w υ hm => ?_)
        obtain ⟨hvw, hL2⟩ := LI_step hL hx hm (by rw [mv_same hx.2.2]) (i_personIs hL.2.1 (oX ω ((nI i) + 1).toNatClampNeg) (oX ω ((nI i) + 2).toNatClampNeg))
        refine g_icmp_eq (pc := 393) (tgt := 1577) C dL_law_393 (by decide) (fun c_393 => ?_) (fun c_393 => absurd hvw c_393)
        exact nx _ hL2
      · refine g_tabE (pc := 33) (tgt := 398) (off := 365) (v := 6) C dL_law_33 w_33 (by decide) (by decide) (by decide) (by decide) ?_
        refine g_al1n (pc := 398) C dL_law_398 ?_
        refine g_al0n (pc := 399) C dL_law_399 ?_
        refine g_il3n (pc := 400) C dL_law_400 ?_
        refine g_iconst (pc := 401) (v := 1) C dL_law_401 (by decide) ?_
        refine g_iadd (pc := 402) C dL_law_402 ?_
        refine g_scr (pc := 403) C (by first | exact hv0 | exact hv1 | exact hv2 | exact hv3 | exact hv4 | exact hv5) dL_law_403 ?_
        refine g_al0n (pc := 404) C dL_law_404 ?_
        refine g_il3n (pc := 405) C dL_law_405 ?_
        refine g_iconst (pc := 406) (v := 2) C dL_law_406 (by decide) ?_
        refine g_iadd (pc := 407) C dL_law_407 ?_
        refine g_scr (pc := 408) C (by first | exact hv0 | exact hv1 | exact hv2 | exact hv3 | exact hv4 | exact hv5) dL_law_408 ?_
        refine g_al0n (pc := 409) C dL_law_409 ?_
        refine g_il3n (pc := 410) C dL_law_410 ?_
        refine g_iconst (pc := 411) (v := 3) C dL_law_411 (by decide) ?_
        refine g_iadd (pc := 412) C dL_law_412 ?_
        refine g_scr (pc := 413) C (by first | exact hv0 | exact hv1 | exact hv2 | exact hv3 | exact hv4 | exact hv5) dL_law_413 ?_
        refine g_if_eq (pc := 414) (tgt := 421) C dL_law_414 (by decide) (fun c_414 => ?_) (fun c_414 => ?_)
        · refine g_iconst (pc := 421) (v := 0) C dL_law_421 (by decide) ?_
          refine q_callX (M := mX11_paper) (pc := 422) (st := []) (as := [.int (oX ω ((nI i) + 1).toNatClampNeg), .int (oX ω ((nI i) + 2).toNatClampNeg), .int 0]) C rfl (x_paper (d := d - 1) (by omega) σ hL.2.1 hL.1 (oX ω ((nI i) + 1).toNatClampNeg) (oX ω ((nI i) + 2).toNatClampNeg) 0) (by omega) lL_40 dL_law_422 rfl (Nat.le_of_ble_eq_true rfl) hc hk rfl (fun v τ hx => ?_)
          refine g_al2n (pc := 425) C dL_law_425 ?_
          refine g_al0n (pc := 426) C dL_law_426 ?_
          refine g_il3n (pc := 427) C dL_law_427 ?_
          refine g_iconst (pc := 428) (v := 1) C dL_law_428 (by decide) ?_
          refine g_iadd (pc := 429) C dL_law_429 ?_
          refine g_scr (pc := 430) C (by first | exact hv0 | exact hv1 | exact hv2 | exact hv3 | exact hv4 | exact hv5) dL_law_430 ?_
          refine g_al0n (pc := 431) C dL_law_431 ?_
          refine g_il3n (pc := 432) C dL_law_432 ?_
          refine g_iconst (pc := 433) (v := 2) C dL_law_433 (by decide) ?_
          refine g_iadd (pc := 434) C dL_law_434 ?_
          refine g_scr (pc := 435) C (by first | exact hv0 | exact hv1 | exact hv2 | exact hv3 | exact hv4 | exact hv5) dL_law_435 ?_
          refine g_al0n (pc := 436) C dL_law_436 ?_
          refine g_il3n (pc := 437) C dL_law_437 ?_
          refine g_iconst (pc := 438) (v := 3) C dL_law_438 (by decide) ?_
          refine g_iadd (pc := 439) C dL_law_439 ?_
          refine g_scr (pc := 440) C (by first | exact hv0 | exact hv1 | exact hv2 | exact hv3 | exact hv4 | exact hv5) dL_law_440 ?_
          refine g_if_eq (pc := 441) (tgt := 448) C dL_law_441 (by decide) (fun c_441 => ?_) (fun c_441 => absurd c_414 c_441)
          refine g_iconst (pc := 448) (v := 0) C dL_law_448 (by decide) ?_
          refine q_callM (M := mX12_paper) (pc := 449) (st := [(.int v)]) (as := [.int (oX ω ((nI i) + 1).toNatClampNeg), .int (oX ω ((nI i) + 2).toNatClampNeg), .int 0]) C rfl (m_paper (d := d - 1) (by omega) τ (by rw [hx.2.2 136 (by decide)]; exact hL.2.1.i) (oX ω ((nI i) + 1).toNatClampNeg) (oX ω ((nI i) + 2).toNatClampNeg) 0) (by omega) lL_44 dL_law_449 rfl (Nat.le_of_ble_eq_true rfl) hc hk rfl (fun w υ hm => ?_)
          obtain ⟨hvw, hL2⟩ := LI_step hL hx hm (by rw [mv_same hx.2.2]) (i_paper hL.2.1 (oX ω ((nI i) + 1).toNatClampNeg) (oX ω ((nI i) + 2).toNatClampNeg) 0)
          refine g_icmp_eq (pc := 452) (tgt := 1577) C dL_law_452 (by decide) (fun c_452 => ?_) (fun c_452 => absurd hvw c_452)
          exact nx _ hL2
        · refine g_iconst (pc := 417) (v := 1) C dL_law_417 (by decide) ?_
          refine g_goto (pc := 418) (tgt := 422) C dL_law_418 (by decide) ?_
          refine q_callX (M := mX11_paper) (pc := 422) (st := []) (as := [.int (oX ω ((nI i) + 1).toNatClampNeg), .int (oX ω ((nI i) + 2).toNatClampNeg), .int 1]) C rfl (x_paper (d := d - 1) (by omega) σ hL.2.1 hL.1 (oX ω ((nI i) + 1).toNatClampNeg) (oX ω ((nI i) + 2).toNatClampNeg) 1) (by omega) lL_40 dL_law_422 rfl (Nat.le_of_ble_eq_true rfl) hc hk rfl (fun v τ hx => ?_)
          refine g_al2n (pc := 425) C dL_law_425 ?_
          refine g_al0n (pc := 426) C dL_law_426 ?_
          refine g_il3n (pc := 427) C dL_law_427 ?_
          refine g_iconst (pc := 428) (v := 1) C dL_law_428 (by decide) ?_
          refine g_iadd (pc := 429) C dL_law_429 ?_
          refine g_scr (pc := 430) C (by first | exact hv0 | exact hv1 | exact hv2 | exact hv3 | exact hv4 | exact hv5) dL_law_430 ?_
          refine g_al0n (pc := 431) C dL_law_431 ?_
          refine g_il3n (pc := 432) C dL_law_432 ?_
          refine g_iconst (pc := 433) (v := 2) C dL_law_433 (by decide) ?_
          refine g_iadd (pc := 434) C dL_law_434 ?_
          refine g_scr (pc := 435) C (by first | exact hv0 | exact hv1 | exact hv2 | exact hv3 | exact hv4 | exact hv5) dL_law_435 ?_
          refine g_al0n (pc := 436) C dL_law_436 ?_
          refine g_il3n (pc := 437) C dL_law_437 ?_
          refine g_iconst (pc := 438) (v := 3) C dL_law_438 (by decide) ?_
          refine g_iadd (pc := 439) C dL_law_439 ?_
          refine g_scr (pc := 440) C (by first | exact hv0 | exact hv1 | exact hv2 | exact hv3 | exact hv4 | exact hv5) dL_law_440 ?_
          refine g_if_eq (pc := 441) (tgt := 448) C dL_law_441 (by decide) (fun c_441 => absurd c_441 c_414) (fun c_441 => ?_)
          refine g_iconst (pc := 444) (v := 1) C dL_law_444 (by decide) ?_
          refine g_goto (pc := 445) (tgt := 449) C dL_law_445 (by decide) ?_
          refine q_callM (M := mX12_paper) (pc := 449) (st := [(.int v)]) (as := [.int (oX ω ((nI i) + 1).toNatClampNeg), .int (oX ω ((nI i) + 2).toNatClampNeg), .int 1]) C rfl (m_paper (d := d - 1) (by omega) τ (by rw [hx.2.2 136 (by decide)]; exact hL.2.1.i) (oX ω ((nI i) + 1).toNatClampNeg) (oX ω ((nI i) + 2).toNatClampNeg) 1) (by omega) lL_44 dL_law_449 rfl (Nat.le_of_ble_eq_true rfl) hc hk rfl (fun w υ hm => ?_)
          obtain ⟨hvw, hL2⟩ := LI_step hL hx hm (by rw [mv_same hx.2.2]) (i_paper hL.2.1 (oX ω ((nI i) + 1).toNatClampNeg) (oX ω ((nI i) + 2).toNatClampNeg) 1)
          refine g_icmp_eq (pc := 452) (tgt := 1577) C dL_law_452 (by decide) (fun c_452 => ?_) (fun c_452 => absurd hvw c_452)
          exact nx _ hL2
      · refine g_tabE (pc := 33) (tgt := 457) (off := 424) (v := 7) C dL_law_33 w_33 (by decide) (by decide) (by decide) (by decide) ?_
        refine g_al1n (pc := 457) C dL_law_457 ?_
        refine g_al0n (pc := 458) C dL_law_458 ?_
        refine g_il3n (pc := 459) C dL_law_459 ?_
        refine g_iconst (pc := 460) (v := 1) C dL_law_460 (by decide) ?_
        refine g_iadd (pc := 461) C dL_law_461 ?_
        refine g_scr (pc := 462) C (by first | exact hv0 | exact hv1 | exact hv2 | exact hv3 | exact hv4 | exact hv5) dL_law_462 ?_
        refine g_al0n (pc := 463) C dL_law_463 ?_
        refine g_il3n (pc := 464) C dL_law_464 ?_
        refine g_iconst (pc := 465) (v := 2) C dL_law_465 (by decide) ?_
        refine g_iadd (pc := 466) C dL_law_466 ?_
        refine g_scr (pc := 467) C (by first | exact hv0 | exact hv1 | exact hv2 | exact hv3 | exact hv4 | exact hv5) dL_law_467 ?_
        refine g_al0n (pc := 468) C dL_law_468 ?_
        refine g_il3n (pc := 469) C dL_law_469 ?_
        refine g_iconst (pc := 470) (v := 3) C dL_law_470 (by decide) ?_
        refine g_iadd (pc := 471) C dL_law_471 ?_
        refine g_scr (pc := 472) C (by first | exact hv0 | exact hv1 | exact hv2 | exact hv3 | exact hv4 | exact hv5) dL_law_472 ?_
        refine q_callX (M := mX11_rope) (pc := 473) (st := []) (as := [.int (oX ω ((nI i) + 1).toNatClampNeg), .int (oX ω ((nI i) + 2).toNatClampNeg), .int (oX ω ((nI i) + 3).toNatClampNeg)]) C rfl (x_rope (d := d - 1) (by omega) σ hL.2.1 hL.1 (oX ω ((nI i) + 1).toNatClampNeg) (oX ω ((nI i) + 2).toNatClampNeg) (oX ω ((nI i) + 3).toNatClampNeg)) (by omega) lL_45 dL_law_473 rfl (Nat.le_of_ble_eq_true rfl) hc hk rfl (fun v τ hx => ?_)
        refine g_al2n (pc := 476) C dL_law_476 ?_
        refine g_al0n (pc := 477) C dL_law_477 ?_
        refine g_il3n (pc := 478) C dL_law_478 ?_
        refine g_iconst (pc := 479) (v := 1) C dL_law_479 (by decide) ?_
        refine g_iadd (pc := 480) C dL_law_480 ?_
        refine g_scr (pc := 481) C (by first | exact hv0 | exact hv1 | exact hv2 | exact hv3 | exact hv4 | exact hv5) dL_law_481 ?_
        refine g_al0n (pc := 482) C dL_law_482 ?_
        refine g_il3n (pc := 483) C dL_law_483 ?_
        refine g_iconst (pc := 484) (v := 2) C dL_law_484 (by decide) ?_
        refine g_iadd (pc := 485) C dL_law_485 ?_
        refine g_scr (pc := 486) C (by first | exact hv0 | exact hv1 | exact hv2 | exact hv3 | exact hv4 | exact hv5) dL_law_486 ?_
        refine g_al0n (pc := 487) C dL_law_487 ?_
        refine g_il3n (pc := 488) C dL_law_488 ?_
        refine g_iconst (pc := 489) (v := 3) C dL_law_489 (by decide) ?_
        refine g_iadd (pc := 490) C dL_law_490 ?_
        refine g_scr (pc := 491) C (by first | exact hv0 | exact hv1 | exact hv2 | exact hv3 | exact hv4 | exact hv5) dL_law_491 ?_
        refine q_callM (M := mX12_rope) (pc := 492) (st := [(.int v)]) (as := [.int (oX ω ((nI i) + 1).toNatClampNeg), .int (oX ω ((nI i) + 2).toNatClampNeg), .int (oX ω ((nI i) + 3).toNatClampNeg)]) C rfl (m_rope (d := d - 1) (by omega) τ (by rw [hx.2.2 136 (by decide)]; exact hL.2.1.i) (oX ω ((nI i) + 1).toNatClampNeg) (oX ω ((nI i) + 2).toNatClampNeg) (oX ω ((nI i) + 3).toNatClampNeg)) (by omega) lL_49 dL_law_492 rfl (Nat.le_of_ble_eq_true rfl) hc hk rfl (fun w υ hm => ?_)
        obtain ⟨hvw, hL2⟩ := LI_step hL hx hm (by rw [mv_same hx.2.2]) (i_rope hL.2.1 (oX ω ((nI i) + 1).toNatClampNeg) (oX ω ((nI i) + 2).toNatClampNeg) (oX ω ((nI i) + 3).toNatClampNeg))
        refine g_icmp_eq (pc := 495) (tgt := 1577) C dL_law_495 (by decide) (fun c_495 => ?_) (fun c_495 => absurd hvw c_495)
        exact nx _ hL2
      · refine g_tabE (pc := 33) (tgt := 500) (off := 467) (v := 8) C dL_law_33 w_33 (by decide) (by decide) (by decide) (by decide) ?_
        refine g_al1n (pc := 500) C dL_law_500 ?_
        refine g_al0n (pc := 501) C dL_law_501 ?_
        refine g_il3n (pc := 502) C dL_law_502 ?_
        refine g_iconst (pc := 503) (v := 1) C dL_law_503 (by decide) ?_
        refine g_iadd (pc := 504) C dL_law_504 ?_
        refine g_scr (pc := 505) C (by first | exact hv0 | exact hv1 | exact hv2 | exact hv3 | exact hv4 | exact hv5) dL_law_505 ?_
        refine g_al0n (pc := 506) C dL_law_506 ?_
        refine g_il3n (pc := 507) C dL_law_507 ?_
        refine g_iconst (pc := 508) (v := 2) C dL_law_508 (by decide) ?_
        refine g_iadd (pc := 509) C dL_law_509 ?_
        refine g_scr (pc := 510) C (by first | exact hv0 | exact hv1 | exact hv2 | exact hv3 | exact hv4 | exact hv5) dL_law_510 ?_
        refine q_callX (M := mX11_broken) (pc := 511) (st := []) (as := [.int (oX ω ((nI i) + 1).toNatClampNeg), .int (oX ω ((nI i) + 2).toNatClampNeg)]) C rfl (x_broken (d := d - 1) (by omega) σ hL.2.1 hL.1 (oX ω ((nI i) + 1).toNatClampNeg) (oX ω ((nI i) + 2).toNatClampNeg)) (by omega) lL_50 dL_law_511 rfl (Nat.le_of_ble_eq_true rfl) hc hk rfl (fun v τ hx => ?_)
        refine g_al2n (pc := 514) C dL_law_514 ?_
        refine g_al0n (pc := 515) C dL_law_515 ?_
        refine g_il3n (pc := 516) C dL_law_516 ?_
        refine g_iconst (pc := 517) (v := 1) C dL_law_517 (by decide) ?_
        refine g_iadd (pc := 518) C dL_law_518 ?_
        refine g_scr (pc := 519) C (by first | exact hv0 | exact hv1 | exact hv2 | exact hv3 | exact hv4 | exact hv5) dL_law_519 ?_
        refine g_al0n (pc := 520) C dL_law_520 ?_
        refine g_il3n (pc := 521) C dL_law_521 ?_
        refine g_iconst (pc := 522) (v := 2) C dL_law_522 (by decide) ?_
        refine g_iadd (pc := 523) C dL_law_523 ?_
        refine g_scr (pc := 524) C (by first | exact hv0 | exact hv1 | exact hv2 | exact hv3 | exact hv4 | exact hv5) dL_law_524 ?_
        refine q_callM (M := mX12_broken) (pc := 525) (st := [(.int v)]) (as := [.int (oX ω ((nI i) + 1).toNatClampNeg), .int (oX ω ((nI i) + 2).toNatClampNeg)]) C rfl (m_broken (d := d - 1) (by omega) τ (by rw [hx.2.2 136 (by decide)]; exact hL.2.1.i) (oX ω ((nI i) + 1).toNatClampNeg) (oX ω ((nI i) + 2).toNatClampNeg)) (by omega) lL_53 dL_law_525 rfl (Nat.le_of_ble_eq_true rfl) hc hk rfl (fun w υ hm => ?_)
        obtain ⟨hvw, hL2⟩ := LI_step hL hx hm (by rw [mv_same hx.2.2]) (i_broken hL.2.1 (oX ω ((nI i) + 1).toNatClampNeg) (oX ω ((nI i) + 2).toNatClampNeg))
        refine g_icmp_eq (pc := 528) (tgt := 1577) C dL_law_528 (by decide) (fun c_528 => ?_) (fun c_528 => absurd hvw c_528)
        exact nx _ hL2
      · refine g_tabE (pc := 33) (tgt := 533) (off := 500) (v := 9) C dL_law_33 w_33 (by decide) (by decide) (by decide) (by decide) ?_
        refine g_al1n (pc := 533) C dL_law_533 ?_
        refine g_al0n (pc := 534) C dL_law_534 ?_
        refine g_il3n (pc := 535) C dL_law_535 ?_
        refine g_iconst (pc := 536) (v := 1) C dL_law_536 (by decide) ?_
        refine g_iadd (pc := 537) C dL_law_537 ?_
        refine g_scr (pc := 538) C (by first | exact hv0 | exact hv1 | exact hv2 | exact hv3 | exact hv4 | exact hv5) dL_law_538 ?_
        refine q_callX (M := mX11_tow) (pc := 539) (st := []) (as := [.int (oX ω ((nI i) + 1).toNatClampNeg)]) C rfl (x_tow (d := d - 1) (by omega) σ hL.2.1 hL.1 (oX ω ((nI i) + 1).toNatClampNeg)) (by omega) lL_54 dL_law_539 rfl (Nat.le_of_ble_eq_true rfl) hc hk rfl (fun v τ hx => ?_)
        refine g_al2n (pc := 542) C dL_law_542 ?_
        refine g_al0n (pc := 543) C dL_law_543 ?_
        refine g_il3n (pc := 544) C dL_law_544 ?_
        refine g_iconst (pc := 545) (v := 1) C dL_law_545 (by decide) ?_
        refine g_iadd (pc := 546) C dL_law_546 ?_
        refine g_scr (pc := 547) C (by first | exact hv0 | exact hv1 | exact hv2 | exact hv3 | exact hv4 | exact hv5) dL_law_547 ?_
        refine q_callM (M := mX12_tow) (pc := 548) (st := [(.int v)]) (as := [.int (oX ω ((nI i) + 1).toNatClampNeg)]) C rfl (m_tow (d := d - 1) (by omega) τ (by rw [hx.2.2 136 (by decide)]; exact hL.2.1.i) (oX ω ((nI i) + 1).toNatClampNeg)) (by omega) lL_58 dL_law_548 rfl (Nat.le_of_ble_eq_true rfl) hc hk rfl (fun w υ hm => ?_)
        obtain ⟨hvw, hL2⟩ := LI_step hL hx hm (by rw [mv_same hx.2.2]) (i_tow hL.2.1 (oX ω ((nI i) + 1).toNatClampNeg))
        refine g_icmp_eq (pc := 551) (tgt := 1577) C dL_law_551 (by decide) (fun c_551 => ?_) (fun c_551 => absurd hvw c_551)
        exact nx _ hL2
      · refine g_tabE (pc := 33) (tgt := 556) (off := 523) (v := 10) C dL_law_33 w_33 (by decide) (by decide) (by decide) (by decide) ?_
        refine g_al1n (pc := 556) C dL_law_556 ?_
        refine g_al0n (pc := 557) C dL_law_557 ?_
        refine g_il3n (pc := 558) C dL_law_558 ?_
        refine g_iconst (pc := 559) (v := 1) C dL_law_559 (by decide) ?_
        refine g_iadd (pc := 560) C dL_law_560 ?_
        refine g_scr (pc := 561) C (by first | exact hv0 | exact hv1 | exact hv2 | exact hv3 | exact hv4 | exact hv5) dL_law_561 ?_
        refine g_al0n (pc := 562) C dL_law_562 ?_
        refine g_il3n (pc := 563) C dL_law_563 ?_
        refine g_iconst (pc := 564) (v := 2) C dL_law_564 (by decide) ?_
        refine g_iadd (pc := 565) C dL_law_565 ?_
        refine g_scr (pc := 566) C (by first | exact hv0 | exact hv1 | exact hv2 | exact hv3 | exact hv4 | exact hv5) dL_law_566 ?_
        refine g_al0n (pc := 567) C dL_law_567 ?_
        refine g_il3n (pc := 568) C dL_law_568 ?_
        refine g_iconst (pc := 569) (v := 3) C dL_law_569 (by decide) ?_
        refine g_iadd (pc := 570) C dL_law_570 ?_
        refine g_scr (pc := 571) C (by first | exact hv0 | exact hv1 | exact hv2 | exact hv3 | exact hv4 | exact hv5) dL_law_571 ?_
        refine g_if_eq (pc := 572) (tgt := 579) C dL_law_572 (by decide) (fun c_572 => ?_) (fun c_572 => ?_)
        · refine g_iconst (pc := 579) (v := 0) C dL_law_579 (by decide) ?_
          refine q_callX (M := mX11_cross) (pc := 580) (st := []) (as := [.int (oX ω ((nI i) + 1).toNatClampNeg), .int (oX ω ((nI i) + 2).toNatClampNeg), .int 0]) C rfl (x_cross (d := d - 1) (by omega) σ hL.2.1 hL.1 (oX ω ((nI i) + 1).toNatClampNeg) (oX ω ((nI i) + 2).toNatClampNeg) 0) (by omega) lL_59 dL_law_580 rfl (Nat.le_of_ble_eq_true rfl) hc hk rfl (fun v τ hx => ?_)
          refine g_al2n (pc := 583) C dL_law_583 ?_
          refine g_al0n (pc := 584) C dL_law_584 ?_
          refine g_il3n (pc := 585) C dL_law_585 ?_
          refine g_iconst (pc := 586) (v := 1) C dL_law_586 (by decide) ?_
          refine g_iadd (pc := 587) C dL_law_587 ?_
          refine g_scr (pc := 588) C (by first | exact hv0 | exact hv1 | exact hv2 | exact hv3 | exact hv4 | exact hv5) dL_law_588 ?_
          refine g_al0n (pc := 589) C dL_law_589 ?_
          refine g_il3n (pc := 590) C dL_law_590 ?_
          refine g_iconst (pc := 591) (v := 2) C dL_law_591 (by decide) ?_
          refine g_iadd (pc := 592) C dL_law_592 ?_
          refine g_scr (pc := 593) C (by first | exact hv0 | exact hv1 | exact hv2 | exact hv3 | exact hv4 | exact hv5) dL_law_593 ?_
          refine g_al0n (pc := 594) C dL_law_594 ?_
          refine g_il3n (pc := 595) C dL_law_595 ?_
          refine g_iconst (pc := 596) (v := 3) C dL_law_596 (by decide) ?_
          refine g_iadd (pc := 597) C dL_law_597 ?_
          refine g_scr (pc := 598) C (by first | exact hv0 | exact hv1 | exact hv2 | exact hv3 | exact hv4 | exact hv5) dL_law_598 ?_
          refine g_if_eq (pc := 599) (tgt := 606) C dL_law_599 (by decide) (fun c_599 => ?_) (fun c_599 => absurd c_572 c_599)
          refine g_iconst (pc := 606) (v := 0) C dL_law_606 (by decide) ?_
          refine q_callM (M := mX12_cross) (pc := 607) (st := [(.int v)]) (as := [.int (oX ω ((nI i) + 1).toNatClampNeg), .int (oX ω ((nI i) + 2).toNatClampNeg), .int 0]) C rfl (m_cross (d := d - 1) (by omega) τ (by rw [hx.2.2 136 (by decide)]; exact hL.2.1.i) (oX ω ((nI i) + 1).toNatClampNeg) (oX ω ((nI i) + 2).toNatClampNeg) 0) (by omega) lL_62 dL_law_607 rfl (Nat.le_of_ble_eq_true rfl) hc hk rfl (fun w υ hm => ?_)
          obtain ⟨hvw, hL2⟩ := LI_step hL hx hm (by rw [mv_same hx.2.2]) (i_cross hL.2.1 (oX ω ((nI i) + 1).toNatClampNeg) (oX ω ((nI i) + 2).toNatClampNeg) 0)
          refine g_icmp_eq (pc := 610) (tgt := 1577) C dL_law_610 (by decide) (fun c_610 => ?_) (fun c_610 => absurd hvw c_610)
          exact nx _ hL2
        · refine g_iconst (pc := 575) (v := 1) C dL_law_575 (by decide) ?_
          refine g_goto (pc := 576) (tgt := 580) C dL_law_576 (by decide) ?_
          refine q_callX (M := mX11_cross) (pc := 580) (st := []) (as := [.int (oX ω ((nI i) + 1).toNatClampNeg), .int (oX ω ((nI i) + 2).toNatClampNeg), .int 1]) C rfl (x_cross (d := d - 1) (by omega) σ hL.2.1 hL.1 (oX ω ((nI i) + 1).toNatClampNeg) (oX ω ((nI i) + 2).toNatClampNeg) 1) (by omega) lL_59 dL_law_580 rfl (Nat.le_of_ble_eq_true rfl) hc hk rfl (fun v τ hx => ?_)
          refine g_al2n (pc := 583) C dL_law_583 ?_
          refine g_al0n (pc := 584) C dL_law_584 ?_
          refine g_il3n (pc := 585) C dL_law_585 ?_
          refine g_iconst (pc := 586) (v := 1) C dL_law_586 (by decide) ?_
          refine g_iadd (pc := 587) C dL_law_587 ?_
          refine g_scr (pc := 588) C (by first | exact hv0 | exact hv1 | exact hv2 | exact hv3 | exact hv4 | exact hv5) dL_law_588 ?_
          refine g_al0n (pc := 589) C dL_law_589 ?_
          refine g_il3n (pc := 590) C dL_law_590 ?_
          refine g_iconst (pc := 591) (v := 2) C dL_law_591 (by decide) ?_
          refine g_iadd (pc := 592) C dL_law_592 ?_
          refine g_scr (pc := 593) C (by first | exact hv0 | exact hv1 | exact hv2 | exact hv3 | exact hv4 | exact hv5) dL_law_593 ?_
          refine g_al0n (pc := 594) C dL_law_594 ?_
          refine g_il3n (pc := 595) C dL_law_595 ?_
          refine g_iconst (pc := 596) (v := 3) C dL_law_596 (by decide) ?_
          refine g_iadd (pc := 597) C dL_law_597 ?_
          refine g_scr (pc := 598) C (by first | exact hv0 | exact hv1 | exact hv2 | exact hv3 | exact hv4 | exact hv5) dL_law_598 ?_
          refine g_if_eq (pc := 599) (tgt := 606) C dL_law_599 (by decide) (fun c_599 => absurd c_599 c_572) (fun c_599 => ?_)
          refine g_iconst (pc := 602) (v := 1) C dL_law_602 (by decide) ?_
          refine g_goto (pc := 603) (tgt := 607) C dL_law_603 (by decide) ?_
          refine q_callM (M := mX12_cross) (pc := 607) (st := [(.int v)]) (as := [.int (oX ω ((nI i) + 1).toNatClampNeg), .int (oX ω ((nI i) + 2).toNatClampNeg), .int 1]) C rfl (m_cross (d := d - 1) (by omega) τ (by rw [hx.2.2 136 (by decide)]; exact hL.2.1.i) (oX ω ((nI i) + 1).toNatClampNeg) (oX ω ((nI i) + 2).toNatClampNeg) 1) (by omega) lL_62 dL_law_607 rfl (Nat.le_of_ble_eq_true rfl) hc hk rfl (fun w υ hm => ?_)
          obtain ⟨hvw, hL2⟩ := LI_step hL hx hm (by rw [mv_same hx.2.2]) (i_cross hL.2.1 (oX ω ((nI i) + 1).toNatClampNeg) (oX ω ((nI i) + 2).toNatClampNeg) 1)
          refine g_icmp_eq (pc := 610) (tgt := 1577) C dL_law_610 (by decide) (fun c_610 => ?_) (fun c_610 => absurd hvw c_610)
          exact nx _ hL2
      · refine g_tabE (pc := 33) (tgt := 615) (off := 582) (v := 11) C dL_law_33 w_33 (by decide) (by decide) (by decide) (by decide) ?_
        refine g_al1n (pc := 615) C dL_law_615 ?_
        refine g_al0n (pc := 616) C dL_law_616 ?_
        refine g_il3n (pc := 617) C dL_law_617 ?_
        refine g_iconst (pc := 618) (v := 1) C dL_law_618 (by decide) ?_
        refine g_iadd (pc := 619) C dL_law_619 ?_
        refine g_scr (pc := 620) C (by first | exact hv0 | exact hv1 | exact hv2 | exact hv3 | exact hv4 | exact hv5) dL_law_620 ?_
        refine g_al0n (pc := 621) C dL_law_621 ?_
        refine g_il3n (pc := 622) C dL_law_622 ?_
        refine g_iconst (pc := 623) (v := 2) C dL_law_623 (by decide) ?_
        refine g_iadd (pc := 624) C dL_law_624 ?_
        refine g_scr (pc := 625) C (by first | exact hv0 | exact hv1 | exact hv2 | exact hv3 | exact hv4 | exact hv5) dL_law_625 ?_
        refine q_callX (M := mX11_lane) (pc := 626) (st := []) (as := [.int (oX ω ((nI i) + 1).toNatClampNeg), .int (oX ω ((nI i) + 2).toNatClampNeg)]) C rfl (x_lane (d := d - 1) (by omega) σ hL.2.1 hL.1 (oX ω ((nI i) + 1).toNatClampNeg) (oX ω ((nI i) + 2).toNatClampNeg)) (by omega) lL_63 dL_law_626 rfl (Nat.le_of_ble_eq_true rfl) hc hk rfl (fun v τ hx => ?_)
        refine g_al2n (pc := 629) C dL_law_629 ?_
        refine g_al0n (pc := 630) C dL_law_630 ?_
        refine g_il3n (pc := 631) C dL_law_631 ?_
        refine g_iconst (pc := 632) (v := 1) C dL_law_632 (by decide) ?_
        refine g_iadd (pc := 633) C dL_law_633 ?_
        refine g_scr (pc := 634) C (by first | exact hv0 | exact hv1 | exact hv2 | exact hv3 | exact hv4 | exact hv5) dL_law_634 ?_
        refine g_al0n (pc := 635) C dL_law_635 ?_
        refine g_il3n (pc := 636) C dL_law_636 ?_
        refine g_iconst (pc := 637) (v := 2) C dL_law_637 (by decide) ?_
        refine g_iadd (pc := 638) C dL_law_638 ?_
        refine g_scr (pc := 639) C (by first | exact hv0 | exact hv1 | exact hv2 | exact hv3 | exact hv4 | exact hv5) dL_law_639 ?_
        refine q_callM (M := mX12_lane) (pc := 640) (st := [(.int v)]) (as := [.int (oX ω ((nI i) + 1).toNatClampNeg), .int (oX ω ((nI i) + 2).toNatClampNeg)]) C rfl (m_lane (d := d - 1) (by omega) τ (by rw [hx.2.2 136 (by decide)]; exact hL.2.1.i) (oX ω ((nI i) + 1).toNatClampNeg) (oX ω ((nI i) + 2).toNatClampNeg)) (by omega) lL_66 dL_law_640 rfl (Nat.le_of_ble_eq_true rfl) hc hk rfl (fun w υ hm => ?_)
        obtain ⟨hvw, hL2⟩ := LI_step hL hx hm (by rw [mv_same hx.2.2]) (i_lane hL.2.1 (oX ω ((nI i) + 1).toNatClampNeg) (oX ω ((nI i) + 2).toNatClampNeg))
        refine g_icmp_eq (pc := 643) (tgt := 1577) C dL_law_643 (by decide) (fun c_643 => ?_) (fun c_643 => absurd hvw c_643)
        exact nx _ hL2
      · refine g_tabE (pc := 33) (tgt := 648) (off := 615) (v := 12) C dL_law_33 w_33 (by decide) (by decide) (by decide) (by decide) ?_
        refine g_al1n (pc := 648) C dL_law_648 ?_
        refine g_al0n (pc := 649) C dL_law_649 ?_
        refine g_il3n (pc := 650) C dL_law_650 ?_
        refine g_iconst (pc := 651) (v := 1) C dL_law_651 (by decide) ?_
        refine g_iadd (pc := 652) C dL_law_652 ?_
        refine g_scr (pc := 653) C (by first | exact hv0 | exact hv1 | exact hv2 | exact hv3 | exact hv4 | exact hv5) dL_law_653 ?_
        refine q_callX (M := mX11_wind) (pc := 654) (st := []) (as := [.int (oX ω ((nI i) + 1).toNatClampNeg)]) C rfl (x_wind (d := d - 1) (by omega) σ hL.2.1 hL.1 (oX ω ((nI i) + 1).toNatClampNeg)) (by omega) lL_67 dL_law_654 rfl (Nat.le_of_ble_eq_true rfl) hc hk rfl (fun v τ hx => ?_)
        refine g_al2n (pc := 657) C dL_law_657 ?_
        refine g_al0n (pc := 658) C dL_law_658 ?_
        refine g_il3n (pc := 659) C dL_law_659 ?_
        refine g_iconst (pc := 660) (v := 1) C dL_law_660 (by decide) ?_
        refine g_iadd (pc := 661) C dL_law_661 ?_
        refine g_scr (pc := 662) C (by first | exact hv0 | exact hv1 | exact hv2 | exact hv3 | exact hv4 | exact hv5) dL_law_662 ?_
        refine q_callM (M := mX12_wind) (pc := 663) (st := [(.int v)]) (as := [.int (oX ω ((nI i) + 1).toNatClampNeg)]) C rfl (m_wind (d := d - 1) (by omega) τ (by rw [hx.2.2 136 (by decide)]; exact hL.2.1.i) (oX ω ((nI i) + 1).toNatClampNeg)) (by omega) lL_70 dL_law_663 rfl (Nat.le_of_ble_eq_true rfl) hc hk rfl (fun w υ hm => ?_)
        obtain ⟨hvw, hL2⟩ := LI_step hL hx hm (by rw [mv_same hx.2.2]) (i_wind hL.2.1 (oX ω ((nI i) + 1).toNatClampNeg))
        refine g_icmp_eq (pc := 666) (tgt := 1577) C dL_law_666 (by decide) (fun c_666 => ?_) (fun c_666 => absurd hvw c_666)
        exact nx _ hL2
      · refine g_tabE (pc := 33) (tgt := 671) (off := 638) (v := 13) C dL_law_33 w_33 (by decide) (by decide) (by decide) (by decide) ?_
        refine g_al1n (pc := 671) C dL_law_671 ?_
        refine g_al0n (pc := 672) C dL_law_672 ?_
        refine g_il3n (pc := 673) C dL_law_673 ?_
        refine g_iconst (pc := 674) (v := 1) C dL_law_674 (by decide) ?_
        refine g_iadd (pc := 675) C dL_law_675 ?_
        refine g_scr (pc := 676) C (by first | exact hv0 | exact hv1 | exact hv2 | exact hv3 | exact hv4 | exact hv5) dL_law_676 ?_
        refine g_al0n (pc := 677) C dL_law_677 ?_
        refine g_il3n (pc := 678) C dL_law_678 ?_
        refine g_iconst (pc := 679) (v := 2) C dL_law_679 (by decide) ?_
        refine g_iadd (pc := 680) C dL_law_680 ?_
        refine g_scr (pc := 681) C (by first | exact hv0 | exact hv1 | exact hv2 | exact hv3 | exact hv4 | exact hv5) dL_law_681 ?_
        refine g_if_eq (pc := 682) (tgt := 689) C dL_law_682 (by decide) (fun c_682 => ?_) (fun c_682 => ?_)
        · refine g_iconst (pc := 689) (v := 0) C dL_law_689 (by decide) ?_
          refine q_callX (M := mX11_link) (pc := 690) (st := []) (as := [.int (oX ω ((nI i) + 1).toNatClampNeg), .int 0]) C rfl (x_link (d := d - 1) (by omega) σ hL.2.1 hL.1 (oX ω ((nI i) + 1).toNatClampNeg) 0) (by omega) lL_71 dL_law_690 rfl (Nat.le_of_ble_eq_true rfl) hc hk rfl (fun v τ hx => ?_)
          refine g_al2n (pc := 693) C dL_law_693 ?_
          refine g_al0n (pc := 694) C dL_law_694 ?_
          refine g_il3n (pc := 695) C dL_law_695 ?_
          refine g_iconst (pc := 696) (v := 1) C dL_law_696 (by decide) ?_
          refine g_iadd (pc := 697) C dL_law_697 ?_
          refine g_scr (pc := 698) C (by first | exact hv0 | exact hv1 | exact hv2 | exact hv3 | exact hv4 | exact hv5) dL_law_698 ?_
          refine g_al0n (pc := 699) C dL_law_699 ?_
          refine g_il3n (pc := 700) C dL_law_700 ?_
          refine g_iconst (pc := 701) (v := 2) C dL_law_701 (by decide) ?_
          refine g_iadd (pc := 702) C dL_law_702 ?_
          refine g_scr (pc := 703) C (by first | exact hv0 | exact hv1 | exact hv2 | exact hv3 | exact hv4 | exact hv5) dL_law_703 ?_
          refine g_if_eq (pc := 704) (tgt := 711) C dL_law_704 (by decide) (fun c_704 => ?_) (fun c_704 => absurd c_682 c_704)
          refine g_iconst (pc := 711) (v := 0) C dL_law_711 (by decide) ?_
          refine q_callM (M := mX12_link) (pc := 712) (st := [(.int v)]) (as := [.int (oX ω ((nI i) + 1).toNatClampNeg), .int 0]) C rfl (m_link (d := d - 1) (by omega) τ (by rw [hx.2.2 136 (by decide)]; exact hL.2.1.i) (oX ω ((nI i) + 1).toNatClampNeg) 0) (by omega) lL_75 dL_law_712 rfl (Nat.le_of_ble_eq_true rfl) hc hk rfl (fun w υ hm => ?_)
          obtain ⟨hvw, hL2⟩ := LI_step hL hx hm (by rw [mv_same hx.2.2]) (i_link hL.2.1 (oX ω ((nI i) + 1).toNatClampNeg) 0)
          refine g_icmp_eq (pc := 715) (tgt := 1577) C dL_law_715 (by decide) (fun c_715 => ?_) (fun c_715 => absurd hvw c_715)
          exact nx _ hL2
        · refine g_iconst (pc := 685) (v := 1) C dL_law_685 (by decide) ?_
          refine g_goto (pc := 686) (tgt := 690) C dL_law_686 (by decide) ?_
          refine q_callX (M := mX11_link) (pc := 690) (st := []) (as := [.int (oX ω ((nI i) + 1).toNatClampNeg), .int 1]) C rfl (x_link (d := d - 1) (by omega) σ hL.2.1 hL.1 (oX ω ((nI i) + 1).toNatClampNeg) 1) (by omega) lL_71 dL_law_690 rfl (Nat.le_of_ble_eq_true rfl) hc hk rfl (fun v τ hx => ?_)
          refine g_al2n (pc := 693) C dL_law_693 ?_
          refine g_al0n (pc := 694) C dL_law_694 ?_
          refine g_il3n (pc := 695) C dL_law_695 ?_
          refine g_iconst (pc := 696) (v := 1) C dL_law_696 (by decide) ?_
          refine g_iadd (pc := 697) C dL_law_697 ?_
          refine g_scr (pc := 698) C (by first | exact hv0 | exact hv1 | exact hv2 | exact hv3 | exact hv4 | exact hv5) dL_law_698 ?_
          refine g_al0n (pc := 699) C dL_law_699 ?_
          refine g_il3n (pc := 700) C dL_law_700 ?_
          refine g_iconst (pc := 701) (v := 2) C dL_law_701 (by decide) ?_
          refine g_iadd (pc := 702) C dL_law_702 ?_
          refine g_scr (pc := 703) C (by first | exact hv0 | exact hv1 | exact hv2 | exact hv3 | exact hv4 | exact hv5) dL_law_703 ?_
          refine g_if_eq (pc := 704) (tgt := 711) C dL_law_704 (by decide) (fun c_704 => absurd c_704 c_682) (fun c_704 => ?_)
          refine g_iconst (pc := 707) (v := 1) C dL_law_707 (by decide) ?_
          refine g_goto (pc := 708) (tgt := 712) C dL_law_708 (by decide) ?_
          refine q_callM (M := mX12_link) (pc := 712) (st := [(.int v)]) (as := [.int (oX ω ((nI i) + 1).toNatClampNeg), .int 1]) C rfl (m_link (d := d - 1) (by omega) τ (by rw [hx.2.2 136 (by decide)]; exact hL.2.1.i) (oX ω ((nI i) + 1).toNatClampNeg) 1) (by omega) lL_75 dL_law_712 rfl (Nat.le_of_ble_eq_true rfl) hc hk rfl (fun w υ hm => ?_)
          obtain ⟨hvw, hL2⟩ := LI_step hL hx hm (by rw [mv_same hx.2.2]) (i_link hL.2.1 (oX ω ((nI i) + 1).toNatClampNeg) 1)
          refine g_icmp_eq (pc := 715) (tgt := 1577) C dL_law_715 (by decide) (fun c_715 => ?_) (fun c_715 => absurd hvw c_715)
          exact nx _ hL2
      · refine g_tabE (pc := 33) (tgt := 720) (off := 687) (v := 14) C dL_law_33 w_33 (by decide) (by decide) (by decide) (by decide) ?_
        refine g_al1n (pc := 720) C dL_law_720 ?_
        refine g_al0n (pc := 721) C dL_law_721 ?_
        refine g_il3n (pc := 722) C dL_law_722 ?_
        refine g_iconst (pc := 723) (v := 1) C dL_law_723 (by decide) ?_
        refine g_iadd (pc := 724) C dL_law_724 ?_
        refine g_scr (pc := 725) C (by first | exact hv0 | exact hv1 | exact hv2 | exact hv3 | exact hv4 | exact hv5) dL_law_725 ?_
        refine g_al0n (pc := 726) C dL_law_726 ?_
        refine g_il3n (pc := 727) C dL_law_727 ?_
        refine g_iconst (pc := 728) (v := 2) C dL_law_728 (by decide) ?_
        refine g_iadd (pc := 729) C dL_law_729 ?_
        refine g_scr (pc := 730) C (by first | exact hv0 | exact hv1 | exact hv2 | exact hv3 | exact hv4 | exact hv5) dL_law_730 ?_
        refine q_callX (M := mX11_rule) (pc := 731) (st := []) (as := [.int (oX ω ((nI i) + 1).toNatClampNeg), .int (oX ω ((nI i) + 2).toNatClampNeg)]) C rfl (x_rule (d := d - 1) (by omega) σ hL.2.1 hL.1 (oX ω ((nI i) + 1).toNatClampNeg) (oX ω ((nI i) + 2).toNatClampNeg)) (by omega) lL_76 dL_law_731 rfl (Nat.le_of_ble_eq_true rfl) hc hk rfl (fun v τ hx => ?_)
        refine g_al2n (pc := 734) C dL_law_734 ?_
        refine g_al0n (pc := 735) C dL_law_735 ?_
        refine g_il3n (pc := 736) C dL_law_736 ?_
        refine g_iconst (pc := 737) (v := 1) C dL_law_737 (by decide) ?_
        refine g_iadd (pc := 738) C dL_law_738 ?_
        refine g_scr (pc := 739) C (by first | exact hv0 | exact hv1 | exact hv2 | exact hv3 | exact hv4 | exact hv5) dL_law_739 ?_
        refine g_al0n (pc := 740) C dL_law_740 ?_
        refine g_il3n (pc := 741) C dL_law_741 ?_
        refine g_iconst (pc := 742) (v := 2) C dL_law_742 (by decide) ?_
        refine g_iadd (pc := 743) C dL_law_743 ?_
        refine g_scr (pc := 744) C (by first | exact hv0 | exact hv1 | exact hv2 | exact hv3 | exact hv4 | exact hv5) dL_law_744 ?_
        refine q_callM (M := mX12_rule) (pc := 745) (st := [(.int v)]) (as := [.int (oX ω ((nI i) + 1).toNatClampNeg), .int (oX ω ((nI i) + 2).toNatClampNeg)]) C rfl (m_rule (d := d - 1) (by omega) τ (by rw [hx.2.2 136 (by decide)]; exact hL.2.1.i) (oX ω ((nI i) + 1).toNatClampNeg) (oX ω ((nI i) + 2).toNatClampNeg)) (by omega) lL_79 dL_law_745 rfl (Nat.le_of_ble_eq_true rfl) hc hk rfl (fun w υ hm => ?_)
        obtain ⟨hvw, hL2⟩ := LI_step hL hx hm (by rw [mv_same hx.2.2]) (i_rule hL.2.1 (oX ω ((nI i) + 1).toNatClampNeg) (oX ω ((nI i) + 2).toNatClampNeg))
        refine g_icmp_eq (pc := 748) (tgt := 1577) C dL_law_748 (by decide) (fun c_748 => ?_) (fun c_748 => absurd hvw c_748)
        exact nx _ hL2
      · refine g_tabE (pc := 33) (tgt := 753) (off := 720) (v := 15) C dL_law_33 w_33 (by decide) (by decide) (by decide) (by decide) ?_
        refine g_al1n (pc := 753) C dL_law_753 ?_
        refine g_al0n (pc := 754) C dL_law_754 ?_
        refine g_il3n (pc := 755) C dL_law_755 ?_
        refine g_iconst (pc := 756) (v := 1) C dL_law_756 (by decide) ?_
        refine g_iadd (pc := 757) C dL_law_757 ?_
        refine g_scr (pc := 758) C (by first | exact hv0 | exact hv1 | exact hv2 | exact hv3 | exact hv4 | exact hv5) dL_law_758 ?_
        refine q_callX (M := mX11_bound) (pc := 759) (st := []) (as := [.int (oX ω ((nI i) + 1).toNatClampNeg)]) C rfl (x_bound (d := d - 1) (by omega) σ hL.2.1 hL.1 (oX ω ((nI i) + 1).toNatClampNeg)) (by omega) lL_80 dL_law_759 rfl (Nat.le_of_ble_eq_true rfl) hc hk rfl (fun v τ hx => ?_)
        refine g_al2n (pc := 762) C dL_law_762 ?_
        refine g_al0n (pc := 763) C dL_law_763 ?_
        refine g_il3n (pc := 764) C dL_law_764 ?_
        refine g_iconst (pc := 765) (v := 1) C dL_law_765 (by decide) ?_
        refine g_iadd (pc := 766) C dL_law_766 ?_
        refine g_scr (pc := 767) C (by first | exact hv0 | exact hv1 | exact hv2 | exact hv3 | exact hv4 | exact hv5) dL_law_767 ?_
        refine q_callM (M := mX12_bound) (pc := 768) (st := [(.int v)]) (as := [.int (oX ω ((nI i) + 1).toNatClampNeg)]) C rfl (m_bound (d := d - 1) (by omega) τ (by rw [hx.2.2 136 (by decide)]; exact hL.2.1.i) (oX ω ((nI i) + 1).toNatClampNeg)) (by omega) lL_83 dL_law_768 rfl (Nat.le_of_ble_eq_true rfl) hc hk rfl (fun w υ hm => ?_)
        obtain ⟨hvw, hL2⟩ := LI_step hL hx hm (by rw [mv_same hx.2.2]) (i_bound hL.2.1 (oX ω ((nI i) + 1).toNatClampNeg))
        refine g_icmp_eq (pc := 771) (tgt := 1577) C dL_law_771 (by decide) (fun c_771 => ?_) (fun c_771 => absurd hvw c_771)
        exact nx _ hL2
      · refine g_tabE (pc := 33) (tgt := 776) (off := 743) (v := 16) C dL_law_33 w_33 (by decide) (by decide) (by decide) (by decide) ?_
        refine g_al1n (pc := 776) C dL_law_776 ?_
        refine g_al0n (pc := 777) C dL_law_777 ?_
        refine g_il3n (pc := 778) C dL_law_778 ?_
        refine g_iconst (pc := 779) (v := 1) C dL_law_779 (by decide) ?_
        refine g_iadd (pc := 780) C dL_law_780 ?_
        refine g_scr (pc := 781) C (by first | exact hv0 | exact hv1 | exact hv2 | exact hv3 | exact hv4 | exact hv5) dL_law_781 ?_
        refine g_al0n (pc := 782) C dL_law_782 ?_
        refine g_il3n (pc := 783) C dL_law_783 ?_
        refine g_iconst (pc := 784) (v := 2) C dL_law_784 (by decide) ?_
        refine g_iadd (pc := 785) C dL_law_785 ?_
        refine g_scr (pc := 786) C (by first | exact hv0 | exact hv1 | exact hv2 | exact hv3 | exact hv4 | exact hv5) dL_law_786 ?_
        refine q_callX (M := mX11_span) (pc := 787) (st := []) (as := [.int (oX ω ((nI i) + 1).toNatClampNeg), .int (oX ω ((nI i) + 2).toNatClampNeg)]) C rfl (x_span (d := d - 1) (by omega) σ hL.2.1 hL.1 (oX ω ((nI i) + 1).toNatClampNeg) (oX ω ((nI i) + 2).toNatClampNeg)) (by omega) lL_84 dL_law_787 rfl (Nat.le_of_ble_eq_true rfl) hc hk rfl (fun v τ hx => ?_)
        refine g_al2n (pc := 790) C dL_law_790 ?_
        refine g_al0n (pc := 791) C dL_law_791 ?_
        refine g_il3n (pc := 792) C dL_law_792 ?_
        refine g_iconst (pc := 793) (v := 1) C dL_law_793 (by decide) ?_
        refine g_iadd (pc := 794) C dL_law_794 ?_
        refine g_scr (pc := 795) C (by first | exact hv0 | exact hv1 | exact hv2 | exact hv3 | exact hv4 | exact hv5) dL_law_795 ?_
        refine g_al0n (pc := 796) C dL_law_796 ?_
        refine g_il3n (pc := 797) C dL_law_797 ?_
        refine g_iconst (pc := 798) (v := 2) C dL_law_798 (by decide) ?_
        refine g_iadd (pc := 799) C dL_law_799 ?_
        refine g_scr (pc := 800) C (by first | exact hv0 | exact hv1 | exact hv2 | exact hv3 | exact hv4 | exact hv5) dL_law_800 ?_
        refine q_callM (M := mX12_span) (pc := 801) (st := [(.int v)]) (as := [.int (oX ω ((nI i) + 1).toNatClampNeg), .int (oX ω ((nI i) + 2).toNatClampNeg)]) C rfl (m_span (d := d - 1) (by omega) τ (by rw [hx.2.2 136 (by decide)]; exact hL.2.1.i) (oX ω ((nI i) + 1).toNatClampNeg) (oX ω ((nI i) + 2).toNatClampNeg)) (by omega) lL_87 dL_law_801 rfl (Nat.le_of_ble_eq_true rfl) hc hk rfl (fun w υ hm => ?_)
        obtain ⟨hvw, hL2⟩ := LI_step hL hx hm (by rw [mv_same hx.2.2]) (i_span hL.2.1 (oX ω ((nI i) + 1).toNatClampNeg) (oX ω ((nI i) + 2).toNatClampNeg))
        refine g_icmp_eq (pc := 804) (tgt := 1577) C dL_law_804 (by decide) (fun c_804 => ?_) (fun c_804 => absurd hvw c_804)
        exact nx _ hL2
      · refine g_tabE (pc := 33) (tgt := 809) (off := 776) (v := 17) C dL_law_33 w_33 (by decide) (by decide) (by decide) (by decide) ?_
        refine g_al1n (pc := 809) C dL_law_809 ?_
        refine g_al0n (pc := 810) C dL_law_810 ?_
        refine g_il3n (pc := 811) C dL_law_811 ?_
        refine g_iconst (pc := 812) (v := 1) C dL_law_812 (by decide) ?_
        refine g_iadd (pc := 813) C dL_law_813 ?_
        refine g_scr (pc := 814) C (by first | exact hv0 | exact hv1 | exact hv2 | exact hv3 | exact hv4 | exact hv5) dL_law_814 ?_
        refine g_al0n (pc := 815) C dL_law_815 ?_
        refine g_il3n (pc := 816) C dL_law_816 ?_
        refine g_iconst (pc := 817) (v := 2) C dL_law_817 (by decide) ?_
        refine g_iadd (pc := 818) C dL_law_818 ?_
        refine g_scr (pc := 819) C (by first | exact hv0 | exact hv1 | exact hv2 | exact hv3 | exact hv4 | exact hv5) dL_law_819 ?_
        refine g_al0n (pc := 820) C dL_law_820 ?_
        refine g_il3n (pc := 821) C dL_law_821 ?_
        refine g_iconst (pc := 822) (v := 3) C dL_law_822 (by decide) ?_
        refine g_iadd (pc := 823) C dL_law_823 ?_
        refine g_scr (pc := 824) C (by first | exact hv0 | exact hv1 | exact hv2 | exact hv3 | exact hv4 | exact hv5) dL_law_824 ?_
        refine g_al0n (pc := 825) C dL_law_825 ?_
        refine g_il3n (pc := 826) C dL_law_826 ?_
        refine g_iconst (pc := 827) (v := 4) C dL_law_827 (by decide) ?_
        refine g_iadd (pc := 828) C dL_law_828 ?_
        refine g_scr (pc := 829) C (by first | exact hv0 | exact hv1 | exact hv2 | exact hv3 | exact hv4 | exact hv5) dL_law_829 ?_
        refine g_al0n (pc := 830) C dL_law_830 ?_
        refine g_il3n (pc := 831) C dL_law_831 ?_
        refine g_iconst (pc := 832) (v := 5) C dL_law_832 (by decide) ?_
        refine g_iadd (pc := 833) C dL_law_833 ?_
        refine g_scr (pc := 834) C (by first | exact hv0 | exact hv1 | exact hv2 | exact hv3 | exact hv4 | exact hv5) dL_law_834 ?_
        refine q_callX (M := mX11_ask) (pc := 835) (st := []) (as := [.int (oX ω ((nI i) + 1).toNatClampNeg), .int (oX ω ((nI i) + 2).toNatClampNeg), .int (oX ω ((nI i) + 3).toNatClampNeg), .int (oX ω ((nI i) + 4).toNatClampNeg), .int (oX ω ((nI i) + 5).toNatClampNeg)]) C rfl (x_ask (d := d - 1) (by omega) σ hL.2.1 hL.1 (oX ω ((nI i) + 1).toNatClampNeg) (oX ω ((nI i) + 2).toNatClampNeg) (oX ω ((nI i) + 3).toNatClampNeg) (oX ω ((nI i) + 4).toNatClampNeg) (oX ω ((nI i) + 5).toNatClampNeg)) (by omega) lL_88 dL_law_835 rfl (Nat.le_of_ble_eq_true rfl) hc hk rfl (fun v τ hx => ?_)
        refine g_al2n (pc := 838) C dL_law_838 ?_
        refine g_al0n (pc := 839) C dL_law_839 ?_
        refine g_il3n (pc := 840) C dL_law_840 ?_
        refine g_iconst (pc := 841) (v := 1) C dL_law_841 (by decide) ?_
        refine g_iadd (pc := 842) C dL_law_842 ?_
        refine g_scr (pc := 843) C (by first | exact hv0 | exact hv1 | exact hv2 | exact hv3 | exact hv4 | exact hv5) dL_law_843 ?_
        refine g_al0n (pc := 844) C dL_law_844 ?_
        refine g_il3n (pc := 845) C dL_law_845 ?_
        refine g_iconst (pc := 846) (v := 2) C dL_law_846 (by decide) ?_
        refine g_iadd (pc := 847) C dL_law_847 ?_
        refine g_scr (pc := 848) C (by first | exact hv0 | exact hv1 | exact hv2 | exact hv3 | exact hv4 | exact hv5) dL_law_848 ?_
        refine g_al0n (pc := 849) C dL_law_849 ?_
        refine g_il3n (pc := 850) C dL_law_850 ?_
        refine g_iconst (pc := 851) (v := 3) C dL_law_851 (by decide) ?_
        refine g_iadd (pc := 852) C dL_law_852 ?_
        refine g_scr (pc := 853) C (by first | exact hv0 | exact hv1 | exact hv2 | exact hv3 | exact hv4 | exact hv5) dL_law_853 ?_
        refine g_al0n (pc := 854) C dL_law_854 ?_
        refine g_il3n (pc := 855) C dL_law_855 ?_
        refine g_iconst (pc := 856) (v := 4) C dL_law_856 (by decide) ?_
        refine g_iadd (pc := 857) C dL_law_857 ?_
        refine g_scr (pc := 858) C (by first | exact hv0 | exact hv1 | exact hv2 | exact hv3 | exact hv4 | exact hv5) dL_law_858 ?_
        refine g_al0n (pc := 859) C dL_law_859 ?_
        refine g_il3n (pc := 860) C dL_law_860 ?_
        refine g_iconst (pc := 861) (v := 5) C dL_law_861 (by decide) ?_
        refine g_iadd (pc := 862) C dL_law_862 ?_
        refine g_scr (pc := 863) C (by first | exact hv0 | exact hv1 | exact hv2 | exact hv3 | exact hv4 | exact hv5) dL_law_863 ?_
        refine q_callM (M := mX12_ask) (pc := 864) (st := [(.int v)]) (as := [.int (oX ω ((nI i) + 1).toNatClampNeg), .int (oX ω ((nI i) + 2).toNatClampNeg), .int (oX ω ((nI i) + 3).toNatClampNeg), .int (oX ω ((nI i) + 4).toNatClampNeg), .int (oX ω ((nI i) + 5).toNatClampNeg)]) C rfl (m_ask (d := d - 1) (by omega) τ (by rw [hx.2.2 136 (by decide)]; exact hL.2.1.i) (oX ω ((nI i) + 1).toNatClampNeg) (oX ω ((nI i) + 2).toNatClampNeg) (oX ω ((nI i) + 3).toNatClampNeg) (oX ω ((nI i) + 4).toNatClampNeg) (oX ω ((nI i) + 5).toNatClampNeg)) (by omega) lL_92 dL_law_864 rfl (Nat.le_of_ble_eq_true rfl) hc hk rfl (fun w υ hm => ?_)
        obtain ⟨hvw, hL2⟩ := LI_step hL hx hm (by rw [mv_same hx.2.2]) (i_ask hL.2.1 (oX ω ((nI i) + 1).toNatClampNeg) (oX ω ((nI i) + 2).toNatClampNeg) (oX ω ((nI i) + 3).toNatClampNeg) (oX ω ((nI i) + 4).toNatClampNeg) (oX ω ((nI i) + 5).toNatClampNeg))
        refine g_icmp_eq (pc := 867) (tgt := 1577) C dL_law_867 (by decide) (fun c_867 => ?_) (fun c_867 => absurd hvw c_867)
        exact nx _ hL2
      · refine g_tabE (pc := 33) (tgt := 872) (off := 839) (v := 18) C dL_law_33 w_33 (by decide) (by decide) (by decide) (by decide) ?_
        refine g_al1n (pc := 872) C dL_law_872 ?_
        refine g_al0n (pc := 873) C dL_law_873 ?_
        refine g_il3n (pc := 874) C dL_law_874 ?_
        refine g_iconst (pc := 875) (v := 1) C dL_law_875 (by decide) ?_
        refine g_iadd (pc := 876) C dL_law_876 ?_
        refine g_scr (pc := 877) C (by first | exact hv0 | exact hv1 | exact hv2 | exact hv3 | exact hv4 | exact hv5) dL_law_877 ?_
        refine g_al0n (pc := 878) C dL_law_878 ?_
        refine g_il3n (pc := 879) C dL_law_879 ?_
        refine g_iconst (pc := 880) (v := 2) C dL_law_880 (by decide) ?_
        refine g_iadd (pc := 881) C dL_law_881 ?_
        refine g_scr (pc := 882) C (by first | exact hv0 | exact hv1 | exact hv2 | exact hv3 | exact hv4 | exact hv5) dL_law_882 ?_
        refine q_callX (M := mX11_askIs) (pc := 883) (st := []) (as := [.int (oX ω ((nI i) + 1).toNatClampNeg), .int (oX ω ((nI i) + 2).toNatClampNeg)]) C rfl (x_askIs (d := d - 1) (by omega) σ hL.2.1 hL.1 (oX ω ((nI i) + 1).toNatClampNeg) (oX ω ((nI i) + 2).toNatClampNeg)) (by omega) lL_93 dL_law_883 rfl (Nat.le_of_ble_eq_true rfl) hc hk rfl (fun v τ hx => ?_)
        refine g_al2n (pc := 886) C dL_law_886 ?_
        refine g_al0n (pc := 887) C dL_law_887 ?_
        refine g_il3n (pc := 888) C dL_law_888 ?_
        refine g_iconst (pc := 889) (v := 1) C dL_law_889 (by decide) ?_
        refine g_iadd (pc := 890) C dL_law_890 ?_
        refine g_scr (pc := 891) C (by first | exact hv0 | exact hv1 | exact hv2 | exact hv3 | exact hv4 | exact hv5) dL_law_891 ?_
        refine g_al0n (pc := 892) C dL_law_892 ?_
        refine g_il3n (pc := 893) C dL_law_893 ?_
        refine g_iconst (pc := 894) (v := 2) C dL_law_894 (by decide) ?_
        refine g_iadd (pc := 895) C dL_law_895 ?_
        refine g_scr (pc := 896) C (by first | exact hv0 | exact hv1 | exact hv2 | exact hv3 | exact hv4 | exact hv5) dL_law_896 ?_
        refine q_callM (M := mX12_askIs) (pc := 897) (st := [(.int v)]) (as := [.int (oX ω ((nI i) + 1).toNatClampNeg), .int (oX ω ((nI i) + 2).toNatClampNeg)]) C rfl (m_askIs (d := d - 1) (by omega) τ (by rw [hx.2.2 136 (by decide)]; exact hL.2.1.i) (oX ω ((nI i) + 1).toNatClampNeg) (oX ω ((nI i) + 2).toNatClampNeg)) (by omega) lL_96 dL_law_897 rfl (Nat.le_of_ble_eq_true rfl) hc hk rfl (fun w υ hm => ?_)
        obtain ⟨hvw, hL2⟩ := LI_step hL hx hm (by rw [mv_same hx.2.2]) (i_askIs hL.2.1 (oX ω ((nI i) + 1).toNatClampNeg) (oX ω ((nI i) + 2).toNatClampNeg))
        refine g_icmp_eq (pc := 900) (tgt := 1577) C dL_law_900 (by decide) (fun c_900 => ?_) (fun c_900 => absurd hvw c_900)
        exact nx _ hL2
      · refine g_tabE (pc := 33) (tgt := 905) (off := 872) (v := 19) C dL_law_33 w_33 (by decide) (by decide) (by decide) (by decide) ?_
        refine g_al1n (pc := 905) C dL_law_905 ?_
        refine g_al0n (pc := 906) C dL_law_906 ?_
        refine g_il3n (pc := 907) C dL_law_907 ?_
        refine g_iconst (pc := 908) (v := 1) C dL_law_908 (by decide) ?_
        refine g_iadd (pc := 909) C dL_law_909 ?_
        refine g_scr (pc := 910) C (by first | exact hv0 | exact hv1 | exact hv2 | exact hv3 | exact hv4 | exact hv5) dL_law_910 ?_
        refine g_al0n (pc := 911) C dL_law_911 ?_
        refine g_il3n (pc := 912) C dL_law_912 ?_
        refine g_iconst (pc := 913) (v := 2) C dL_law_913 (by decide) ?_
        refine g_iadd (pc := 914) C dL_law_914 ?_
        refine g_scr (pc := 915) C (by first | exact hv0 | exact hv1 | exact hv2 | exact hv3 | exact hv4 | exact hv5) dL_law_915 ?_
        refine q_callX (M := mX11_as) (pc := 916) (st := []) (as := [.int (oX ω ((nI i) + 1).toNatClampNeg), .int (oX ω ((nI i) + 2).toNatClampNeg)]) C rfl (x_as (d := d - 1) (by omega) σ hL.2.1 hL.1 (oX ω ((nI i) + 1).toNatClampNeg) (oX ω ((nI i) + 2).toNatClampNeg)) (by omega) lL_97 dL_law_916 rfl (Nat.le_of_ble_eq_true rfl) hc hk rfl (fun v τ hx => ?_)
        refine g_al2n (pc := 919) C dL_law_919 ?_
        refine g_al0n (pc := 920) C dL_law_920 ?_
        refine g_il3n (pc := 921) C dL_law_921 ?_
        refine g_iconst (pc := 922) (v := 1) C dL_law_922 (by decide) ?_
        refine g_iadd (pc := 923) C dL_law_923 ?_
        refine g_scr (pc := 924) C (by first | exact hv0 | exact hv1 | exact hv2 | exact hv3 | exact hv4 | exact hv5) dL_law_924 ?_
        refine g_al0n (pc := 925) C dL_law_925 ?_
        refine g_il3n (pc := 926) C dL_law_926 ?_
        refine g_iconst (pc := 927) (v := 2) C dL_law_927 (by decide) ?_
        refine g_iadd (pc := 928) C dL_law_928 ?_
        refine g_scr (pc := 929) C (by first | exact hv0 | exact hv1 | exact hv2 | exact hv3 | exact hv4 | exact hv5) dL_law_929 ?_
        refine q_callM (M := mX12_as) (pc := 930) (st := [(.int v)]) (as := [.int (oX ω ((nI i) + 1).toNatClampNeg), .int (oX ω ((nI i) + 2).toNatClampNeg)]) C rfl (m_as (d := d - 1) (by omega) τ (by rw [hx.2.2 136 (by decide)]; exact hL.2.1.i) (oX ω ((nI i) + 1).toNatClampNeg) (oX ω ((nI i) + 2).toNatClampNeg)) (by omega) lL_100 dL_law_930 rfl (Nat.le_of_ble_eq_true rfl) hc hk rfl (fun w υ hm => ?_)
        obtain ⟨hvw, hL2⟩ := LI_step hL hx hm (by rw [mv_same hx.2.2]) (i_as hL.2.1 (oX ω ((nI i) + 1).toNatClampNeg) (oX ω ((nI i) + 2).toNatClampNeg))
        refine g_icmp_eq (pc := 933) (tgt := 1577) C dL_law_933 (by decide) (fun c_933 => ?_) (fun c_933 => absurd hvw c_933)
        exact nx _ hL2
      · refine g_tabE (pc := 33) (tgt := 938) (off := 905) (v := 20) C dL_law_33 w_33 (by decide) (by decide) (by decide) (by decide) ?_
        refine g_al1n (pc := 938) C dL_law_938 ?_
        refine g_al0n (pc := 939) C dL_law_939 ?_
        refine g_il3n (pc := 940) C dL_law_940 ?_
        refine g_iconst (pc := 941) (v := 1) C dL_law_941 (by decide) ?_
        refine g_iadd (pc := 942) C dL_law_942 ?_
        refine g_scr (pc := 943) C (by first | exact hv0 | exact hv1 | exact hv2 | exact hv3 | exact hv4 | exact hv5) dL_law_943 ?_
        refine q_callX (M := mX11_back) (pc := 944) (st := []) (as := [.int (oX ω ((nI i) + 1).toNatClampNeg)]) C rfl (x_back (d := d - 1) (by omega) σ hL.2.1 hL.1 (oX ω ((nI i) + 1).toNatClampNeg)) (by omega) lL_101 dL_law_944 rfl (Nat.le_of_ble_eq_true rfl) hc hk rfl (fun v τ hx => ?_)
        refine g_al2n (pc := 947) C dL_law_947 ?_
        refine g_al0n (pc := 948) C dL_law_948 ?_
        refine g_il3n (pc := 949) C dL_law_949 ?_
        refine g_iconst (pc := 950) (v := 1) C dL_law_950 (by decide) ?_
        refine g_iadd (pc := 951) C dL_law_951 ?_
        refine g_scr (pc := 952) C (by first | exact hv0 | exact hv1 | exact hv2 | exact hv3 | exact hv4 | exact hv5) dL_law_952 ?_
        refine q_callM (M := mX12_back) (pc := 953) (st := [(.int v)]) (as := [.int (oX ω ((nI i) + 1).toNatClampNeg)]) C rfl (m_back (d := d - 1) (by omega) τ (by rw [hx.2.2 136 (by decide)]; exact hL.2.1.i) (oX ω ((nI i) + 1).toNatClampNeg)) (by omega) lL_104 dL_law_953 rfl (Nat.le_of_ble_eq_true rfl) hc hk rfl (fun w υ hm => ?_)
        obtain ⟨hvw, hL2⟩ := LI_step hL hx hm (by rw [mv_same hx.2.2]) (i_back hL.2.1 (oX ω ((nI i) + 1).toNatClampNeg))
        refine g_icmp_eq (pc := 956) (tgt := 1577) C dL_law_956 (by decide) (fun c_956 => ?_) (fun c_956 => absurd hvw c_956)
        exact nx _ hL2
      · refine g_tabE (pc := 33) (tgt := 961) (off := 928) (v := 21) C dL_law_33 w_33 (by decide) (by decide) (by decide) (by decide) ?_
        refine g_al1n (pc := 961) C dL_law_961 ?_
        refine g_al0n (pc := 962) C dL_law_962 ?_
        refine g_il3n (pc := 963) C dL_law_963 ?_
        refine g_iconst (pc := 964) (v := 1) C dL_law_964 (by decide) ?_
        refine g_iadd (pc := 965) C dL_law_965 ?_
        refine g_scr (pc := 966) C (by first | exact hv0 | exact hv1 | exact hv2 | exact hv3 | exact hv4 | exact hv5) dL_law_966 ?_
        refine q_callX (M := mX11_why) (pc := 967) (st := []) (as := [.int (oX ω ((nI i) + 1).toNatClampNeg)]) C rfl (x_why (d := d - 1) (by omega) σ hL.2.1 hL.1 (oX ω ((nI i) + 1).toNatClampNeg)) (by omega) lL_105 dL_law_967 rfl (Nat.le_of_ble_eq_true rfl) hc hk rfl (fun v τ hx => ?_)
        refine g_al2n (pc := 970) C dL_law_970 ?_
        refine g_al0n (pc := 971) C dL_law_971 ?_
        refine g_il3n (pc := 972) C dL_law_972 ?_
        refine g_iconst (pc := 973) (v := 1) C dL_law_973 (by decide) ?_
        refine g_iadd (pc := 974) C dL_law_974 ?_
        refine g_scr (pc := 975) C (by first | exact hv0 | exact hv1 | exact hv2 | exact hv3 | exact hv4 | exact hv5) dL_law_975 ?_
        refine q_callM (M := mX12_why) (pc := 976) (st := [(.int v)]) (as := [.int (oX ω ((nI i) + 1).toNatClampNeg)]) C rfl (m_why (d := d - 1) (by omega) τ (by rw [hx.2.2 136 (by decide)]; exact hL.2.1.i) (oX ω ((nI i) + 1).toNatClampNeg)) (by omega) lL_108 dL_law_976 rfl (Nat.le_of_ble_eq_true rfl) hc hk rfl (fun w υ hm => ?_)
        obtain ⟨hvw, hL2⟩ := LI_step hL hx hm (by rw [mv_same hx.2.2]) (i_why hL.2.1 (oX ω ((nI i) + 1).toNatClampNeg))
        refine g_icmp_eq (pc := 979) (tgt := 1577) C dL_law_979 (by decide) (fun c_979 => ?_) (fun c_979 => absurd hvw c_979)
        exact nx _ hL2
      · refine g_tabE (pc := 33) (tgt := 984) (off := 951) (v := 22) C dL_law_33 w_33 (by decide) (by decide) (by decide) (by decide) ?_
        refine g_al1n (pc := 984) C dL_law_984 ?_
        refine g_al0n (pc := 985) C dL_law_985 ?_
        refine g_il3n (pc := 986) C dL_law_986 ?_
        refine g_iconst (pc := 987) (v := 1) C dL_law_987 (by decide) ?_
        refine g_iadd (pc := 988) C dL_law_988 ?_
        refine g_scr (pc := 989) C (by first | exact hv0 | exact hv1 | exact hv2 | exact hv3 | exact hv4 | exact hv5) dL_law_989 ?_
        refine g_al0n (pc := 990) C dL_law_990 ?_
        refine g_il3n (pc := 991) C dL_law_991 ?_
        refine g_iconst (pc := 992) (v := 2) C dL_law_992 (by decide) ?_
        refine g_iadd (pc := 993) C dL_law_993 ?_
        refine g_scr (pc := 994) C (by first | exact hv0 | exact hv1 | exact hv2 | exact hv3 | exact hv4 | exact hv5) dL_law_994 ?_
        refine q_callX (M := mX11_clear) (pc := 995) (st := []) (as := [.int (oX ω ((nI i) + 1).toNatClampNeg), .int (oX ω ((nI i) + 2).toNatClampNeg)]) C rfl (x_clear (d := d - 1) (by omega) σ hL.2.1 hL.1 (oX ω ((nI i) + 1).toNatClampNeg) (oX ω ((nI i) + 2).toNatClampNeg)) (by omega) lL_109 dL_law_995 rfl (Nat.le_of_ble_eq_true rfl) hc hk rfl (fun v τ hx => ?_)
        refine g_al2n (pc := 998) C dL_law_998 ?_
        refine g_al0n (pc := 999) C dL_law_999 ?_
        refine g_il3n (pc := 1000) C dL_law_1000 ?_
        refine g_iconst (pc := 1001) (v := 1) C dL_law_1001 (by decide) ?_
        refine g_iadd (pc := 1002) C dL_law_1002 ?_
        refine g_scr (pc := 1003) C (by first | exact hv0 | exact hv1 | exact hv2 | exact hv3 | exact hv4 | exact hv5) dL_law_1003 ?_
        refine g_al0n (pc := 1004) C dL_law_1004 ?_
        refine g_il3n (pc := 1005) C dL_law_1005 ?_
        refine g_iconst (pc := 1006) (v := 2) C dL_law_1006 (by decide) ?_
        refine g_iadd (pc := 1007) C dL_law_1007 ?_
        refine g_scr (pc := 1008) C (by first | exact hv0 | exact hv1 | exact hv2 | exact hv3 | exact hv4 | exact hv5) dL_law_1008 ?_
        refine q_callM (M := mX12_clear) (pc := 1009) (st := [(.int v)]) (as := [.int (oX ω ((nI i) + 1).toNatClampNeg), .int (oX ω ((nI i) + 2).toNatClampNeg)]) C rfl (m_clear (d := d - 1) (by omega) τ (by rw [hx.2.2 136 (by decide)]; exact hL.2.1.i) (oX ω ((nI i) + 1).toNatClampNeg) (oX ω ((nI i) + 2).toNatClampNeg)) (by omega) lL_112 dL_law_1009 rfl (Nat.le_of_ble_eq_true rfl) hc hk rfl (fun w υ hm => ?_)
        obtain ⟨hvw, hL2⟩ := LI_step hL hx hm (by rw [mv_same hx.2.2]) (i_clear hL.2.1 (oX ω ((nI i) + 1).toNatClampNeg) (oX ω ((nI i) + 2).toNatClampNeg))
        refine g_icmp_eq (pc := 1012) (tgt := 1577) C dL_law_1012 (by decide) (fun c_1012 => ?_) (fun c_1012 => absurd hvw c_1012)
        exact nx _ hL2
      · refine g_tabE (pc := 33) (tgt := 1017) (off := 984) (v := 23) C dL_law_33 w_33 (by decide) (by decide) (by decide) (by decide) ?_
        refine g_al1n (pc := 1017) C dL_law_1017 ?_
        refine q_callX (M := mX11_next) (pc := 1018) (st := []) (as := []) C rfl (x_next (d := d - 1) (by omega) σ hL.2.1 hL.1) (by omega) lL_113 dL_law_1018 rfl (Nat.le_of_ble_eq_true rfl) hc hk rfl (fun v τ hx => ?_)
        refine g_al2n (pc := 1021) C dL_law_1021 ?_
        refine q_callM (M := mX12_next) (pc := 1022) (st := [(.int v)]) (as := []) C rfl (m_next (d := d - 1) (by omega) τ (by rw [hx.2.2 136 (by decide)]; exact hL.2.1.i)) (by omega) lL_116 dL_law_1022 rfl (Nat.le_of_ble_eq_true rfl) hc hk rfl (fun w υ hm => ?_)
        obtain ⟨hvw, hL2⟩ := LI_step hL hx hm (by rw [mv_same hx.2.2]) (i_next hL.2.1)
        refine g_icmp_eq (pc := 1025) (tgt := 1577) C dL_law_1025 (by decide) (fun c_1025 => ?_) (fun c_1025 => absurd hvw c_1025)
        exact nx _ hL2
      · refine g_tabE (pc := 33) (tgt := 1030) (off := 997) (v := 24) C dL_law_33 w_33 (by decide) (by decide) (by decide) (by decide) ?_
        refine g_al1n (pc := 1030) C dL_law_1030 ?_
        refine g_al0n (pc := 1031) C dL_law_1031 ?_
        refine g_il3n (pc := 1032) C dL_law_1032 ?_
        refine g_iconst (pc := 1033) (v := 1) C dL_law_1033 (by decide) ?_
        refine g_iadd (pc := 1034) C dL_law_1034 ?_
        refine g_scr (pc := 1035) C (by first | exact hv0 | exact hv1 | exact hv2 | exact hv3 | exact hv4 | exact hv5) dL_law_1035 ?_
        refine g_al0n (pc := 1036) C dL_law_1036 ?_
        refine g_il3n (pc := 1037) C dL_law_1037 ?_
        refine g_iconst (pc := 1038) (v := 2) C dL_law_1038 (by decide) ?_
        refine g_iadd (pc := 1039) C dL_law_1039 ?_
        refine g_scr (pc := 1040) C (by first | exact hv0 | exact hv1 | exact hv2 | exact hv3 | exact hv4 | exact hv5) dL_law_1040 ?_
        refine q_callX (M := mX11_feed) (pc := 1041) (st := []) (as := [.int (oX ω ((nI i) + 1).toNatClampNeg), .int (oX ω ((nI i) + 2).toNatClampNeg)]) C rfl (x_feed (d := d - 1) (by omega) σ hL.2.1 hL.1 (oX ω ((nI i) + 1).toNatClampNeg) (oX ω ((nI i) + 2).toNatClampNeg)) (by omega) lL_117 dL_law_1041 rfl (Nat.le_of_ble_eq_true rfl) hc hk rfl (fun v τ hx => ?_)
        refine g_al2n (pc := 1044) C dL_law_1044 ?_
        refine g_al0n (pc := 1045) C dL_law_1045 ?_
        refine g_il3n (pc := 1046) C dL_law_1046 ?_
        refine g_iconst (pc := 1047) (v := 1) C dL_law_1047 (by decide) ?_
        refine g_iadd (pc := 1048) C dL_law_1048 ?_
        refine g_scr (pc := 1049) C (by first | exact hv0 | exact hv1 | exact hv2 | exact hv3 | exact hv4 | exact hv5) dL_law_1049 ?_
        refine g_al0n (pc := 1050) C dL_law_1050 ?_
        refine g_il3n (pc := 1051) C dL_law_1051 ?_
        refine g_iconst (pc := 1052) (v := 2) C dL_law_1052 (by decide) ?_
        refine g_iadd (pc := 1053) C dL_law_1053 ?_
        refine g_scr (pc := 1054) C (by first | exact hv0 | exact hv1 | exact hv2 | exact hv3 | exact hv4 | exact hv5) dL_law_1054 ?_
        refine q_callM (M := mX12_feed) (pc := 1055) (st := [(.int v)]) (as := [.int (oX ω ((nI i) + 1).toNatClampNeg), .int (oX ω ((nI i) + 2).toNatClampNeg)]) C rfl (m_feed (d := d - 1) (by omega) τ (by rw [hx.2.2 135 (by decide)]; exact hL.2.1.s) (oX ω ((nI i) + 1).toNatClampNeg) (oX ω ((nI i) + 2).toNatClampNeg)) (by omega) lL_120 dL_law_1055 rfl (Nat.le_of_ble_eq_true rfl) hc hk rfl (fun w υ hm => ?_)
        obtain ⟨hvw, hL2⟩ := LI_step hL hx hm (by rw [mv_same hx.2.2]) (i_feed hL.2.1 (oX ω ((nI i) + 1).toNatClampNeg) (oX ω ((nI i) + 2).toNatClampNeg))
        refine g_icmp_eq (pc := 1058) (tgt := 1577) C dL_law_1058 (by decide) (fun c_1058 => ?_) (fun c_1058 => absurd hvw c_1058)
        exact nx _ hL2
      · refine g_tabE (pc := 33) (tgt := 1063) (off := 1030) (v := 25) C dL_law_33 w_33 (by decide) (by decide) (by decide) (by decide) ?_
        refine g_al1n (pc := 1063) C dL_law_1063 ?_
        refine q_callX (M := mX11_wipe) (pc := 1064) (st := []) (as := []) C rfl (x_wipe (d := d - 1) (by omega) σ hL.2.1 hL.1) (by omega) lL_121 dL_law_1064 rfl (Nat.le_of_ble_eq_true rfl) hc hk rfl (fun v τ hx => ?_)
        refine g_al2n (pc := 1067) C dL_law_1067 ?_
        refine q_callM (M := mX12_wipe) (pc := 1068) (st := [(.int v)]) (as := []) C rfl (m_wipe (d := d - 1) (by omega) τ ) (by omega) lL_124 dL_law_1068 rfl (Nat.le_of_ble_eq_true rfl) hc hk rfl (fun w υ hm => ?_)
        obtain ⟨hvw, hL2⟩ := LI_step hL hx hm (by rw [mv_same hx.2.2]) (i_wipe hL.2.1)
        refine g_icmp_eq (pc := 1071) (tgt := 1577) C dL_law_1071 (by decide) (fun c_1071 => ?_) (fun c_1071 => absurd hvw c_1071)
        exact nx _ hL2
      · refine g_tabE (pc := 33) (tgt := 1076) (off := 1043) (v := 26) C dL_law_33 w_33 (by decide) (by decide) (by decide) (by decide) ?_
        refine g_al1n (pc := 1076) C dL_law_1076 ?_
        refine g_al0n (pc := 1077) C dL_law_1077 ?_
        refine g_il3n (pc := 1078) C dL_law_1078 ?_
        refine g_iconst (pc := 1079) (v := 1) C dL_law_1079 (by decide) ?_
        refine g_iadd (pc := 1080) C dL_law_1080 ?_
        refine g_scr (pc := 1081) C (by first | exact hv0 | exact hv1 | exact hv2 | exact hv3 | exact hv4 | exact hv5) dL_law_1081 ?_
        refine q_callX (M := mX11_text) (pc := 1082) (st := []) (as := [.int (oX ω ((nI i) + 1).toNatClampNeg)]) C rfl (x_text (d := d - 1) (by omega) σ hL.2.1 hL.1 (oX ω ((nI i) + 1).toNatClampNeg)) (by omega) lL_125 dL_law_1082 rfl (Nat.le_of_ble_eq_true rfl) hc hk rfl (fun v τ hx => ?_)
        refine g_al2n (pc := 1085) C dL_law_1085 ?_
        refine g_al0n (pc := 1086) C dL_law_1086 ?_
        refine g_il3n (pc := 1087) C dL_law_1087 ?_
        refine g_iconst (pc := 1088) (v := 1) C dL_law_1088 (by decide) ?_
        refine g_iadd (pc := 1089) C dL_law_1089 ?_
        refine g_scr (pc := 1090) C (by first | exact hv0 | exact hv1 | exact hv2 | exact hv3 | exact hv4 | exact hv5) dL_law_1090 ?_
        refine q_callM (M := mX12_text) (pc := 1091) (st := [(.int v)]) (as := [.int (oX ω ((nI i) + 1).toNatClampNeg)]) C rfl (m_text (d := d - 1) (by omega) τ (by rw [hx.2.2 136 (by decide)]; exact hL.2.1.i) (by rw [hx.2.2 135 (by decide)]; exact hL.2.1.s) (oX ω ((nI i) + 1).toNatClampNeg)) (by omega) lL_128 dL_law_1091 rfl (Nat.le_of_ble_eq_true rfl) hc hk rfl (fun w υ hm => ?_)
        obtain ⟨hvw, hL2⟩ := LI_step hL hx hm (by rw [mv_same hx.2.2]) (i_text hL.2.1 (oX ω ((nI i) + 1).toNatClampNeg))
        refine g_icmp_eq (pc := 1094) (tgt := 1577) C dL_law_1094 (by decide) (fun c_1094 => ?_) (fun c_1094 => absurd hvw c_1094)
        exact nx _ hL2
      · refine g_tabE (pc := 33) (tgt := 1099) (off := 1066) (v := 27) C dL_law_33 w_33 (by decide) (by decide) (by decide) (by decide) ?_
        refine g_al1n (pc := 1099) C dL_law_1099 ?_
        refine g_al0n (pc := 1100) C dL_law_1100 ?_
        refine g_il3n (pc := 1101) C dL_law_1101 ?_
        refine g_iconst (pc := 1102) (v := 1) C dL_law_1102 (by decide) ?_
        refine g_iadd (pc := 1103) C dL_law_1103 ?_
        refine g_scr (pc := 1104) C (by first | exact hv0 | exact hv1 | exact hv2 | exact hv3 | exact hv4 | exact hv5) dL_law_1104 ?_
        refine q_callX (M := mX11_force) (pc := 1105) (st := []) (as := [.int (oX ω ((nI i) + 1).toNatClampNeg)]) C rfl (x_force (d := d - 1) (by omega) σ hL.2.1 hL.1 (oX ω ((nI i) + 1).toNatClampNeg)) (by omega) lL_129 dL_law_1105 rfl (Nat.le_of_ble_eq_true rfl) hc hk rfl (fun v τ hx => ?_)
        refine g_al2n (pc := 1108) C dL_law_1108 ?_
        refine g_al0n (pc := 1109) C dL_law_1109 ?_
        refine g_il3n (pc := 1110) C dL_law_1110 ?_
        refine g_iconst (pc := 1111) (v := 1) C dL_law_1111 (by decide) ?_
        refine g_iadd (pc := 1112) C dL_law_1112 ?_
        refine g_scr (pc := 1113) C (by first | exact hv0 | exact hv1 | exact hv2 | exact hv3 | exact hv4 | exact hv5) dL_law_1113 ?_
        refine q_callM (M := mX12_force) (pc := 1114) (st := [(.int v)]) (as := [.int (oX ω ((nI i) + 1).toNatClampNeg)]) C rfl (m_force (d := d - 1) (by omega) τ (by rw [hx.2.2 136 (by decide)]; exact hL.2.1.i) (oX ω ((nI i) + 1).toNatClampNeg)) (by omega) lL_132 dL_law_1114 rfl (Nat.le_of_ble_eq_true rfl) hc hk rfl (fun w υ hm => ?_)
        obtain ⟨hvw, hL2⟩ := LI_step hL hx hm (by rw [mv_same hx.2.2]) (i_force hL.2.1 (oX ω ((nI i) + 1).toNatClampNeg))
        refine g_icmp_eq (pc := 1117) (tgt := 1577) C dL_law_1117 (by decide) (fun c_1117 => ?_) (fun c_1117 => absurd hvw c_1117)
        exact nx _ hL2
      · refine g_tabE (pc := 33) (tgt := 1122) (off := 1089) (v := 28) C dL_law_33 w_33 (by decide) (by decide) (by decide) (by decide) ?_
        refine g_al1n (pc := 1122) C dL_law_1122 ?_
        refine g_al0n (pc := 1123) C dL_law_1123 ?_
        refine g_il3n (pc := 1124) C dL_law_1124 ?_
        refine g_iconst (pc := 1125) (v := 1) C dL_law_1125 (by decide) ?_
        refine g_iadd (pc := 1126) C dL_law_1126 ?_
        refine g_scr (pc := 1127) C (by first | exact hv0 | exact hv1 | exact hv2 | exact hv3 | exact hv4 | exact hv5) dL_law_1127 ?_
        refine g_al0n (pc := 1128) C dL_law_1128 ?_
        refine g_il3n (pc := 1129) C dL_law_1129 ?_
        refine g_iconst (pc := 1130) (v := 2) C dL_law_1130 (by decide) ?_
        refine g_iadd (pc := 1131) C dL_law_1131 ?_
        refine g_scr (pc := 1132) C (by first | exact hv0 | exact hv1 | exact hv2 | exact hv3 | exact hv4 | exact hv5) dL_law_1132 ?_
        refine g_al0n (pc := 1133) C dL_law_1133 ?_
        refine g_il3n (pc := 1134) C dL_law_1134 ?_
        refine g_iconst (pc := 1135) (v := 3) C dL_law_1135 (by decide) ?_
        refine g_iadd (pc := 1136) C dL_law_1136 ?_
        refine g_scr (pc := 1137) C (by first | exact hv0 | exact hv1 | exact hv2 | exact hv3 | exact hv4 | exact hv5) dL_law_1137 ?_
        refine g_al0n (pc := 1138) C dL_law_1138 ?_
        refine g_il3n (pc := 1139) C dL_law_1139 ?_
        refine g_iconst (pc := 1140) (v := 4) C dL_law_1140 (by decide) ?_
        refine g_iadd (pc := 1141) C dL_law_1141 ?_
        refine g_scr (pc := 1142) C (by first | exact hv0 | exact hv1 | exact hv2 | exact hv3 | exact hv4 | exact hv5) dL_law_1142 ?_
        refine q_callX (M := mX11_says) (pc := 1143) (st := []) (as := [.int (oX ω ((nI i) + 1).toNatClampNeg), .int (oX ω ((nI i) + 2).toNatClampNeg), .int (oX ω ((nI i) + 3).toNatClampNeg), .int (oX ω ((nI i) + 4).toNatClampNeg)]) C rfl (x_says (d := d - 1) (by omega) σ hL.2.1 hL.1 (oX ω ((nI i) + 1).toNatClampNeg) (oX ω ((nI i) + 2).toNatClampNeg) (oX ω ((nI i) + 3).toNatClampNeg) (oX ω ((nI i) + 4).toNatClampNeg)) (by omega) lL_133 dL_law_1143 rfl (Nat.le_of_ble_eq_true rfl) hc hk rfl (fun v τ hx => ?_)
        refine g_al2n (pc := 1146) C dL_law_1146 ?_
        refine g_al0n (pc := 1147) C dL_law_1147 ?_
        refine g_il3n (pc := 1148) C dL_law_1148 ?_
        refine g_iconst (pc := 1149) (v := 1) C dL_law_1149 (by decide) ?_
        refine g_iadd (pc := 1150) C dL_law_1150 ?_
        refine g_scr (pc := 1151) C (by first | exact hv0 | exact hv1 | exact hv2 | exact hv3 | exact hv4 | exact hv5) dL_law_1151 ?_
        refine g_al0n (pc := 1152) C dL_law_1152 ?_
        refine g_il3n (pc := 1153) C dL_law_1153 ?_
        refine g_iconst (pc := 1154) (v := 2) C dL_law_1154 (by decide) ?_
        refine g_iadd (pc := 1155) C dL_law_1155 ?_
        refine g_scr (pc := 1156) C (by first | exact hv0 | exact hv1 | exact hv2 | exact hv3 | exact hv4 | exact hv5) dL_law_1156 ?_
        refine g_al0n (pc := 1157) C dL_law_1157 ?_
        refine g_il3n (pc := 1158) C dL_law_1158 ?_
        refine g_iconst (pc := 1159) (v := 3) C dL_law_1159 (by decide) ?_
        refine g_iadd (pc := 1160) C dL_law_1160 ?_
        refine g_scr (pc := 1161) C (by first | exact hv0 | exact hv1 | exact hv2 | exact hv3 | exact hv4 | exact hv5) dL_law_1161 ?_
        refine g_al0n (pc := 1162) C dL_law_1162 ?_
        refine g_il3n (pc := 1163) C dL_law_1163 ?_
        refine g_iconst (pc := 1164) (v := 4) C dL_law_1164 (by decide) ?_
        refine g_iadd (pc := 1165) C dL_law_1165 ?_
        refine g_scr (pc := 1166) C (by first | exact hv0 | exact hv1 | exact hv2 | exact hv3 | exact hv4 | exact hv5) dL_law_1166 ?_
        refine q_callM (M := mX12_says) (pc := 1167) (st := [(.int v)]) (as := [.int (oX ω ((nI i) + 1).toNatClampNeg), .int (oX ω ((nI i) + 2).toNatClampNeg), .int (oX ω ((nI i) + 3).toNatClampNeg), .int (oX ω ((nI i) + 4).toNatClampNeg)]) C rfl (m_says (d := d - 1) (by omega) τ (by rw [hx.2.2 136 (by decide)]; exact hL.2.1.i) (oX ω ((nI i) + 1).toNatClampNeg) (oX ω ((nI i) + 2).toNatClampNeg) (oX ω ((nI i) + 3).toNatClampNeg) (oX ω ((nI i) + 4).toNatClampNeg)) (by omega) lL_136 dL_law_1167 rfl (Nat.le_of_ble_eq_true rfl) hc hk rfl (fun w υ hm => ?_)
        obtain ⟨hvw, hL2⟩ := LI_step hL hx hm (by rw [mv_same hx.2.2]) (i_says hL.2.1 (oX ω ((nI i) + 1).toNatClampNeg) (oX ω ((nI i) + 2).toNatClampNeg) (oX ω ((nI i) + 3).toNatClampNeg) (oX ω ((nI i) + 4).toNatClampNeg))
        refine g_icmp_eq (pc := 1170) (tgt := 1577) C dL_law_1170 (by decide) (fun c_1170 => ?_) (fun c_1170 => absurd hvw c_1170)
        exact nx _ hL2
      · refine g_tabE (pc := 33) (tgt := 1175) (off := 1142) (v := 29) C dL_law_33 w_33 (by decide) (by decide) (by decide) (by decide) ?_
        refine g_al1n (pc := 1175) C dL_law_1175 ?_
        refine g_al0n (pc := 1176) C dL_law_1176 ?_
        refine g_il3n (pc := 1177) C dL_law_1177 ?_
        refine g_iconst (pc := 1178) (v := 1) C dL_law_1178 (by decide) ?_
        refine g_iadd (pc := 1179) C dL_law_1179 ?_
        refine g_scr (pc := 1180) C (by first | exact hv0 | exact hv1 | exact hv2 | exact hv3 | exact hv4 | exact hv5) dL_law_1180 ?_
        refine q_callX (M := mX11_run) (pc := 1181) (st := []) (as := [.int (oX ω ((nI i) + 1).toNatClampNeg)]) C rfl (x_run (d := d - 1) (by omega) σ hL.2.1 hL.1 (oX ω ((nI i) + 1).toNatClampNeg)) (by omega) lL_137 dL_law_1181 rfl (Nat.le_of_ble_eq_true rfl) hc hk rfl (fun v τ hx => ?_)
        refine g_al2n (pc := 1184) C dL_law_1184 ?_
        refine g_al0n (pc := 1185) C dL_law_1185 ?_
        refine g_il3n (pc := 1186) C dL_law_1186 ?_
        refine g_iconst (pc := 1187) (v := 1) C dL_law_1187 (by decide) ?_
        refine g_iadd (pc := 1188) C dL_law_1188 ?_
        refine g_scr (pc := 1189) C (by first | exact hv0 | exact hv1 | exact hv2 | exact hv3 | exact hv4 | exact hv5) dL_law_1189 ?_
        refine q_callM (M := mX12_run) (pc := 1190) (st := [(.int v)]) (as := [.int (oX ω ((nI i) + 1).toNatClampNeg)]) C rfl (m_run (d := d - 1) (by omega) τ (by rw [hx.2.2 136 (by decide)]; exact hL.2.1.i) (by rw [hx.2.2 136 (by decide)]; exact hL.2.1.m) (oX ω ((nI i) + 1).toNatClampNeg)) (by omega) lL_140 dL_law_1190 rfl (Nat.le_of_ble_eq_true rfl) hc hk rfl (fun w υ hm => ?_)
        obtain ⟨hvw, hL2⟩ := LI_step hL hx hm (by rw [mv_same hx.2.2]) (i_run hL.2.1 (oX ω ((nI i) + 1).toNatClampNeg))
        refine g_icmp_eq (pc := 1193) (tgt := 1577) C dL_law_1193 (by decide) (fun c_1193 => ?_) (fun c_1193 => absurd hvw c_1193)
        exact nx _ hL2
      · refine g_tabE (pc := 33) (tgt := 1198) (off := 1165) (v := 30) C dL_law_33 w_33 (by decide) (by decide) (by decide) (by decide) ?_
        refine g_al1n (pc := 1198) C dL_law_1198 ?_
        refine g_al0n (pc := 1199) C dL_law_1199 ?_
        refine g_il3n (pc := 1200) C dL_law_1200 ?_
        refine g_iconst (pc := 1201) (v := 1) C dL_law_1201 (by decide) ?_
        refine g_iadd (pc := 1202) C dL_law_1202 ?_
        refine g_scr (pc := 1203) C (by first | exact hv0 | exact hv1 | exact hv2 | exact hv3 | exact hv4 | exact hv5) dL_law_1203 ?_
        refine g_al0n (pc := 1204) C dL_law_1204 ?_
        refine g_il3n (pc := 1205) C dL_law_1205 ?_
        refine g_iconst (pc := 1206) (v := 2) C dL_law_1206 (by decide) ?_
        refine g_iadd (pc := 1207) C dL_law_1207 ?_
        refine g_scr (pc := 1208) C (by first | exact hv0 | exact hv1 | exact hv2 | exact hv3 | exact hv4 | exact hv5) dL_law_1208 ?_
        refine q_callX (M := mX11_ahead) (pc := 1209) (st := []) (as := [.int (oX ω ((nI i) + 1).toNatClampNeg), .int (oX ω ((nI i) + 2).toNatClampNeg)]) C rfl (x_ahead (d := d - 1) (by omega) σ hL.2.1 hL.1 (oX ω ((nI i) + 1).toNatClampNeg) (oX ω ((nI i) + 2).toNatClampNeg)) (by omega) lL_141 dL_law_1209 rfl (Nat.le_of_ble_eq_true rfl) hc hk rfl (fun v τ hx => ?_)
        refine g_al2n (pc := 1212) C dL_law_1212 ?_
        refine g_al0n (pc := 1213) C dL_law_1213 ?_
        refine g_il3n (pc := 1214) C dL_law_1214 ?_
        refine g_iconst (pc := 1215) (v := 1) C dL_law_1215 (by decide) ?_
        refine g_iadd (pc := 1216) C dL_law_1216 ?_
        refine g_scr (pc := 1217) C (by first | exact hv0 | exact hv1 | exact hv2 | exact hv3 | exact hv4 | exact hv5) dL_law_1217 ?_
        refine g_al0n (pc := 1218) C dL_law_1218 ?_
        refine g_il3n (pc := 1219) C dL_law_1219 ?_
        refine g_iconst (pc := 1220) (v := 2) C dL_law_1220 (by decide) ?_
        refine g_iadd (pc := 1221) C dL_law_1221 ?_
        refine g_scr (pc := 1222) C (by first | exact hv0 | exact hv1 | exact hv2 | exact hv3 | exact hv4 | exact hv5) dL_law_1222 ?_
        refine q_callM (M := mX12_ahead) (pc := 1223) (st := [(.int v)]) (as := [.int (oX ω ((nI i) + 1).toNatClampNeg), .int (oX ω ((nI i) + 2).toNatClampNeg)]) C rfl (m_ahead (d := d - 1) (by omega) τ (by rw [hx.2.2 136 (by decide)]; exact hL.2.1.i) (fun j hj => by rw [hx.2.2 138 (by decide)]; exact hL.2.2 j hj) (by rw [hx.2.2 136 (by decide)]; exact hL.2.1.m) (oX ω ((nI i) + 1).toNatClampNeg) (oX ω ((nI i) + 2).toNatClampNeg)) (by omega) lL_144 dL_law_1223 rfl (Nat.le_of_ble_eq_true rfl) hc hk rfl (fun w υ hm => ?_)
        obtain ⟨hvw, hL2⟩ := LI_step hL hx hm (by rw [mv_same hx.2.2]) (i_ahead hL.2.1 (oX ω ((nI i) + 1).toNatClampNeg) (oX ω ((nI i) + 2).toNatClampNeg))
        refine g_icmp_eq (pc := 1226) (tgt := 1577) C dL_law_1226 (by decide) (fun c_1226 => ?_) (fun c_1226 => absurd hvw c_1226)
        exact nx _ hL2
      · refine g_tabE (pc := 33) (tgt := 1231) (off := 1198) (v := 31) C dL_law_33 w_33 (by decide) (by decide) (by decide) (by decide) ?_
        refine g_al1n (pc := 1231) C dL_law_1231 ?_
        refine g_al0n (pc := 1232) C dL_law_1232 ?_
        refine g_il3n (pc := 1233) C dL_law_1233 ?_
        refine g_iconst (pc := 1234) (v := 1) C dL_law_1234 (by decide) ?_
        refine g_iadd (pc := 1235) C dL_law_1235 ?_
        refine g_scr (pc := 1236) C (by first | exact hv0 | exact hv1 | exact hv2 | exact hv3 | exact hv4 | exact hv5) dL_law_1236 ?_
        refine q_callX (M := mX11_late) (pc := 1237) (st := []) (as := [.int (oX ω ((nI i) + 1).toNatClampNeg)]) C rfl (x_late (d := d - 1) (by omega) σ hL.2.1 hL.1 (oX ω ((nI i) + 1).toNatClampNeg)) (by omega) lL_145 dL_law_1237 rfl (Nat.le_of_ble_eq_true rfl) hc hk rfl (fun v τ hx => ?_)
        refine g_al2n (pc := 1240) C dL_law_1240 ?_
        refine g_al0n (pc := 1241) C dL_law_1241 ?_
        refine g_il3n (pc := 1242) C dL_law_1242 ?_
        refine g_iconst (pc := 1243) (v := 1) C dL_law_1243 (by decide) ?_
        refine g_iadd (pc := 1244) C dL_law_1244 ?_
        refine g_scr (pc := 1245) C (by first | exact hv0 | exact hv1 | exact hv2 | exact hv3 | exact hv4 | exact hv5) dL_law_1245 ?_
        refine q_callM (M := mX12_late) (pc := 1246) (st := [(.int v)]) (as := [.int (oX ω ((nI i) + 1).toNatClampNeg)]) C rfl (m_late (d := d - 1) (by omega) τ (by rw [hx.2.2 136 (by decide)]; exact hL.2.1.i) (fun j hj => by rw [hx.2.2 138 (by decide)]; exact hL.2.2 j hj) (by rw [hx.2.2 136 (by decide)]; exact hL.2.1.m) (oX ω ((nI i) + 1).toNatClampNeg)) (by omega) lL_148 dL_law_1246 rfl (Nat.le_of_ble_eq_true rfl) hc hk rfl (fun w υ hm => ?_)
        obtain ⟨hvw, hL2⟩ := LI_step hL hx hm (by rw [mv_same hx.2.2]) (i_late hL.2.1 (oX ω ((nI i) + 1).toNatClampNeg))
        refine g_icmp_eq (pc := 1249) (tgt := 1577) C dL_law_1249 (by decide) (fun c_1249 => ?_) (fun c_1249 => absurd hvw c_1249)
        exact nx _ hL2
      · refine g_tabE (pc := 33) (tgt := 1254) (off := 1221) (v := 32) C dL_law_33 w_33 (by decide) (by decide) (by decide) (by decide) ?_
        refine g_al1n (pc := 1254) C dL_law_1254 ?_
        refine g_al0n (pc := 1255) C dL_law_1255 ?_
        refine g_il3n (pc := 1256) C dL_law_1256 ?_
        refine g_iconst (pc := 1257) (v := 1) C dL_law_1257 (by decide) ?_
        refine g_iadd (pc := 1258) C dL_law_1258 ?_
        refine g_scr (pc := 1259) C (by first | exact hv0 | exact hv1 | exact hv2 | exact hv3 | exact hv4 | exact hv5) dL_law_1259 ?_
        refine q_callX (M := mX11_check) (pc := 1260) (st := []) (as := [.int (oX ω ((nI i) + 1).toNatClampNeg)]) C rfl (x_check (d := d - 1) (by omega) σ hL.2.1 hL.1 (oX ω ((nI i) + 1).toNatClampNeg)) (by omega) lL_149 dL_law_1260 rfl (Nat.le_of_ble_eq_true rfl) hc hk rfl (fun v τ hx => ?_)
        refine g_al2n (pc := 1263) C dL_law_1263 ?_
        refine g_al0n (pc := 1264) C dL_law_1264 ?_
        refine g_il3n (pc := 1265) C dL_law_1265 ?_
        refine g_iconst (pc := 1266) (v := 1) C dL_law_1266 (by decide) ?_
        refine g_iadd (pc := 1267) C dL_law_1267 ?_
        refine g_scr (pc := 1268) C (by first | exact hv0 | exact hv1 | exact hv2 | exact hv3 | exact hv4 | exact hv5) dL_law_1268 ?_
        refine q_callM (M := mX12_check) (pc := 1269) (st := [(.int v)]) (as := [.int (oX ω ((nI i) + 1).toNatClampNeg)]) C rfl (m_check (d := d - 1) (by omega) τ (by rw [hx.2.2 136 (by decide)]; exact hL.2.1.i) (fun j hj => by rw [hx.2.2 138 (by decide)]; exact hL.2.2 j hj) (by rw [hx.2.2 136 (by decide)]; exact hL.2.1.m) (by rw [hx.2.2 145 (by decide)]; exact hL.2.1.z) (oX ω ((nI i) + 1).toNatClampNeg)) (by omega) lL_152 dL_law_1269 rfl (Nat.le_of_ble_eq_true rfl) hc hk rfl (fun w υ hm => ?_)
        obtain ⟨hvw, hL2⟩ := LI_step hL hx hm (by rw [mv_same hx.2.2]) (i_check hL.2.1 (oX ω ((nI i) + 1).toNatClampNeg))
        refine g_icmp_eq (pc := 1272) (tgt := 1577) C dL_law_1272 (by decide) (fun c_1272 => ?_) (fun c_1272 => absurd hvw c_1272)
        exact nx _ hL2
      · refine g_tabE (pc := 33) (tgt := 1277) (off := 1244) (v := 33) C dL_law_33 w_33 (by decide) (by decide) (by decide) (by decide) ?_
        refine g_al1n (pc := 1277) C dL_law_1277 ?_
        refine g_al0n (pc := 1278) C dL_law_1278 ?_
        refine g_il3n (pc := 1279) C dL_law_1279 ?_
        refine g_iconst (pc := 1280) (v := 1) C dL_law_1280 (by decide) ?_
        refine g_iadd (pc := 1281) C dL_law_1281 ?_
        refine g_scr (pc := 1282) C (by first | exact hv0 | exact hv1 | exact hv2 | exact hv3 | exact hv4 | exact hv5) dL_law_1282 ?_
        refine g_al0n (pc := 1283) C dL_law_1283 ?_
        refine g_il3n (pc := 1284) C dL_law_1284 ?_
        refine g_iconst (pc := 1285) (v := 2) C dL_law_1285 (by decide) ?_
        refine g_iadd (pc := 1286) C dL_law_1286 ?_
        refine g_scr (pc := 1287) C (by first | exact hv0 | exact hv1 | exact hv2 | exact hv3 | exact hv4 | exact hv5) dL_law_1287 ?_
        refine q_callX (M := mX11_share) (pc := 1288) (st := []) (as := [.int (oX ω ((nI i) + 1).toNatClampNeg), .int (oX ω ((nI i) + 2).toNatClampNeg)]) C rfl (x_share (d := d - 1) (by omega) σ hL.2.1 hL.1 (oX ω ((nI i) + 1).toNatClampNeg) (oX ω ((nI i) + 2).toNatClampNeg)) (by omega) lL_153 dL_law_1288 rfl (Nat.le_of_ble_eq_true rfl) hc hk rfl (fun v τ hx => ?_)
        refine g_al2n (pc := 1291) C dL_law_1291 ?_
        refine g_al0n (pc := 1292) C dL_law_1292 ?_
        refine g_il3n (pc := 1293) C dL_law_1293 ?_
        refine g_iconst (pc := 1294) (v := 1) C dL_law_1294 (by decide) ?_
        refine g_iadd (pc := 1295) C dL_law_1295 ?_
        refine g_scr (pc := 1296) C (by first | exact hv0 | exact hv1 | exact hv2 | exact hv3 | exact hv4 | exact hv5) dL_law_1296 ?_
        refine g_al0n (pc := 1297) C dL_law_1297 ?_
        refine g_il3n (pc := 1298) C dL_law_1298 ?_
        refine g_iconst (pc := 1299) (v := 2) C dL_law_1299 (by decide) ?_
        refine g_iadd (pc := 1300) C dL_law_1300 ?_
        refine g_scr (pc := 1301) C (by first | exact hv0 | exact hv1 | exact hv2 | exact hv3 | exact hv4 | exact hv5) dL_law_1301 ?_
        refine q_callM (M := mX12_share) (pc := 1302) (st := [(.int v)]) (as := [.int (oX ω ((nI i) + 1).toNatClampNeg), .int (oX ω ((nI i) + 2).toNatClampNeg)]) C rfl (m_share (d := d - 1) (by omega) τ (by rw [hx.2.2 136 (by decide)]; exact hL.2.1.i) (oX ω ((nI i) + 1).toNatClampNeg) (oX ω ((nI i) + 2).toNatClampNeg)) (by omega) lL_156 dL_law_1302 rfl (Nat.le_of_ble_eq_true rfl) hc hk rfl (fun w υ hm => ?_)
        obtain ⟨hvw, hL2⟩ := LI_step hL hx hm (by rw [mv_same hx.2.2]) (i_share hL.2.1 (oX ω ((nI i) + 1).toNatClampNeg) (oX ω ((nI i) + 2).toNatClampNeg))
        refine g_icmp_eq (pc := 1305) (tgt := 1577) C dL_law_1305 (by decide) (fun c_1305 => ?_) (fun c_1305 => absurd hvw c_1305)
        exact nx _ hL2
      · refine g_tabE (pc := 33) (tgt := 1310) (off := 1277) (v := 34) C dL_law_33 w_33 (by decide) (by decide) (by decide) (by decide) ?_
        refine g_al1n (pc := 1310) C dL_law_1310 ?_
        refine g_al0n (pc := 1311) C dL_law_1311 ?_
        refine g_il3n (pc := 1312) C dL_law_1312 ?_
        refine g_iconst (pc := 1313) (v := 1) C dL_law_1313 (by decide) ?_
        refine g_iadd (pc := 1314) C dL_law_1314 ?_
        refine g_scr (pc := 1315) C (by first | exact hv0 | exact hv1 | exact hv2 | exact hv3 | exact hv4 | exact hv5) dL_law_1315 ?_
        refine g_al0n (pc := 1316) C dL_law_1316 ?_
        refine g_il3n (pc := 1317) C dL_law_1317 ?_
        refine g_iconst (pc := 1318) (v := 2) C dL_law_1318 (by decide) ?_
        refine g_iadd (pc := 1319) C dL_law_1319 ?_
        refine g_scr (pc := 1320) C (by first | exact hv0 | exact hv1 | exact hv2 | exact hv3 | exact hv4 | exact hv5) dL_law_1320 ?_
        refine q_callX (M := mX11_pay) (pc := 1321) (st := []) (as := [.int (oX ω ((nI i) + 1).toNatClampNeg), .int (oX ω ((nI i) + 2).toNatClampNeg)]) C rfl (x_pay (d := d - 1) (by omega) σ hL.2.1 hL.1 (oX ω ((nI i) + 1).toNatClampNeg) (oX ω ((nI i) + 2).toNatClampNeg)) (by omega) lL_157 dL_law_1321 rfl (Nat.le_of_ble_eq_true rfl) hc hk rfl (fun v τ hx => ?_)
        refine g_al2n (pc := 1324) C dL_law_1324 ?_
        refine g_al0n (pc := 1325) C dL_law_1325 ?_
        refine g_il3n (pc := 1326) C dL_law_1326 ?_
        refine g_iconst (pc := 1327) (v := 1) C dL_law_1327 (by decide) ?_
        refine g_iadd (pc := 1328) C dL_law_1328 ?_
        refine g_scr (pc := 1329) C (by first | exact hv0 | exact hv1 | exact hv2 | exact hv3 | exact hv4 | exact hv5) dL_law_1329 ?_
        refine g_al0n (pc := 1330) C dL_law_1330 ?_
        refine g_il3n (pc := 1331) C dL_law_1331 ?_
        refine g_iconst (pc := 1332) (v := 2) C dL_law_1332 (by decide) ?_
        refine g_iadd (pc := 1333) C dL_law_1333 ?_
        refine g_scr (pc := 1334) C (by first | exact hv0 | exact hv1 | exact hv2 | exact hv3 | exact hv4 | exact hv5) dL_law_1334 ?_
        refine q_callM (M := mX12_pay) (pc := 1335) (st := [(.int v)]) (as := [.int (oX ω ((nI i) + 1).toNatClampNeg), .int (oX ω ((nI i) + 2).toNatClampNeg)]) C rfl (m_pay (d := d - 1) (by omega) τ (by rw [hx.2.2 136 (by decide)]; exact hL.2.1.i) (oX ω ((nI i) + 1).toNatClampNeg) (oX ω ((nI i) + 2).toNatClampNeg)) (by omega) lL_160 dL_law_1335 rfl (Nat.le_of_ble_eq_true rfl) hc hk rfl (fun w υ hm => ?_)
        obtain ⟨hvw, hL2⟩ := LI_step hL hx hm (by rw [mv_same hx.2.2]) (i_pay hL.2.1 (oX ω ((nI i) + 1).toNatClampNeg) (oX ω ((nI i) + 2).toNatClampNeg))
        refine g_icmp_eq (pc := 1338) (tgt := 1577) C dL_law_1338 (by decide) (fun c_1338 => ?_) (fun c_1338 => absurd hvw c_1338)
        exact nx _ hL2
      · refine g_tabE (pc := 33) (tgt := 1343) (off := 1310) (v := 35) C dL_law_33 w_33 (by decide) (by decide) (by decide) (by decide) ?_
        refine g_al1n (pc := 1343) C dL_law_1343 ?_
        refine g_al0n (pc := 1344) C dL_law_1344 ?_
        refine g_il3n (pc := 1345) C dL_law_1345 ?_
        refine g_iconst (pc := 1346) (v := 1) C dL_law_1346 (by decide) ?_
        refine g_iadd (pc := 1347) C dL_law_1347 ?_
        refine g_scr (pc := 1348) C (by first | exact hv0 | exact hv1 | exact hv2 | exact hv3 | exact hv4 | exact hv5) dL_law_1348 ?_
        refine g_al0n (pc := 1349) C dL_law_1349 ?_
        refine g_il3n (pc := 1350) C dL_law_1350 ?_
        refine g_iconst (pc := 1351) (v := 2) C dL_law_1351 (by decide) ?_
        refine g_iadd (pc := 1352) C dL_law_1352 ?_
        refine g_scr (pc := 1353) C (by first | exact hv0 | exact hv1 | exact hv2 | exact hv3 | exact hv4 | exact hv5) dL_law_1353 ?_
        refine g_al0n (pc := 1354) C dL_law_1354 ?_
        refine g_il3n (pc := 1355) C dL_law_1355 ?_
        refine g_iconst (pc := 1356) (v := 3) C dL_law_1356 (by decide) ?_
        refine g_iadd (pc := 1357) C dL_law_1357 ?_
        refine g_scr (pc := 1358) C (by first | exact hv0 | exact hv1 | exact hv2 | exact hv3 | exact hv4 | exact hv5) dL_law_1358 ?_
        refine q_callX (M := mX11_sheet) (pc := 1359) (st := []) (as := [.int (oX ω ((nI i) + 1).toNatClampNeg), .int (oX ω ((nI i) + 2).toNatClampNeg), .int (oX ω ((nI i) + 3).toNatClampNeg)]) C rfl (x_sheet (d := d - 1) (by omega) σ hL.2.1 hL.1 (oX ω ((nI i) + 1).toNatClampNeg) (oX ω ((nI i) + 2).toNatClampNeg) (oX ω ((nI i) + 3).toNatClampNeg)) (by omega) lL_161 dL_law_1359 rfl (Nat.le_of_ble_eq_true rfl) hc hk rfl (fun v τ hx => ?_)
        refine g_al2n (pc := 1362) C dL_law_1362 ?_
        refine g_al0n (pc := 1363) C dL_law_1363 ?_
        refine g_il3n (pc := 1364) C dL_law_1364 ?_
        refine g_iconst (pc := 1365) (v := 1) C dL_law_1365 (by decide) ?_
        refine g_iadd (pc := 1366) C dL_law_1366 ?_
        refine g_scr (pc := 1367) C (by first | exact hv0 | exact hv1 | exact hv2 | exact hv3 | exact hv4 | exact hv5) dL_law_1367 ?_
        refine g_al0n (pc := 1368) C dL_law_1368 ?_
        refine g_il3n (pc := 1369) C dL_law_1369 ?_
        refine g_iconst (pc := 1370) (v := 2) C dL_law_1370 (by decide) ?_
        refine g_iadd (pc := 1371) C dL_law_1371 ?_
        refine g_scr (pc := 1372) C (by first | exact hv0 | exact hv1 | exact hv2 | exact hv3 | exact hv4 | exact hv5) dL_law_1372 ?_
        refine g_al0n (pc := 1373) C dL_law_1373 ?_
        refine g_il3n (pc := 1374) C dL_law_1374 ?_
        refine g_iconst (pc := 1375) (v := 3) C dL_law_1375 (by decide) ?_
        refine g_iadd (pc := 1376) C dL_law_1376 ?_
        refine g_scr (pc := 1377) C (by first | exact hv0 | exact hv1 | exact hv2 | exact hv3 | exact hv4 | exact hv5) dL_law_1377 ?_
        refine q_callM (M := mX12_sheet) (pc := 1378) (st := [(.int v)]) (as := [.int (oX ω ((nI i) + 1).toNatClampNeg), .int (oX ω ((nI i) + 2).toNatClampNeg), .int (oX ω ((nI i) + 3).toNatClampNeg)]) C rfl (m_sheet (d := d - 1) (by omega) τ  (oX ω ((nI i) + 1).toNatClampNeg) (oX ω ((nI i) + 2).toNatClampNeg) (oX ω ((nI i) + 3).toNatClampNeg)) (by omega) lL_164 dL_law_1378 rfl (Nat.le_of_ble_eq_true rfl) hc hk rfl (fun w υ hm => ?_)
        obtain ⟨hvw, hL2⟩ := LI_step hL hx hm (by rw [mv_same hx.2.2]) (i_sheet hL.2.1 (oX ω ((nI i) + 1).toNatClampNeg) (oX ω ((nI i) + 2).toNatClampNeg) (oX ω ((nI i) + 3).toNatClampNeg))
        refine g_icmp_eq (pc := 1381) (tgt := 1577) C dL_law_1381 (by decide) (fun c_1381 => ?_) (fun c_1381 => absurd hvw c_1381)
        exact nx _ hL2
      · refine g_tabE (pc := 33) (tgt := 1386) (off := 1353) (v := 36) C dL_law_33 w_33 (by decide) (by decide) (by decide) (by decide) ?_
        refine g_al1n (pc := 1386) C dL_law_1386 ?_
        refine g_al0n (pc := 1387) C dL_law_1387 ?_
        refine g_il3n (pc := 1388) C dL_law_1388 ?_
        refine g_iconst (pc := 1389) (v := 1) C dL_law_1389 (by decide) ?_
        refine g_iadd (pc := 1390) C dL_law_1390 ?_
        refine g_scr (pc := 1391) C (by first | exact hv0 | exact hv1 | exact hv2 | exact hv3 | exact hv4 | exact hv5) dL_law_1391 ?_
        refine g_al0n (pc := 1392) C dL_law_1392 ?_
        refine g_il3n (pc := 1393) C dL_law_1393 ?_
        refine g_iconst (pc := 1394) (v := 2) C dL_law_1394 (by decide) ?_
        refine g_iadd (pc := 1395) C dL_law_1395 ?_
        refine g_scr (pc := 1396) C (by first | exact hv0 | exact hv1 | exact hv2 | exact hv3 | exact hv4 | exact hv5) dL_law_1396 ?_
        refine g_al0n (pc := 1397) C dL_law_1397 ?_
        refine g_il3n (pc := 1398) C dL_law_1398 ?_
        refine g_iconst (pc := 1399) (v := 3) C dL_law_1399 (by decide) ?_
        refine g_iadd (pc := 1400) C dL_law_1400 ?_
        refine g_scr (pc := 1401) C (by first | exact hv0 | exact hv1 | exact hv2 | exact hv3 | exact hv4 | exact hv5) dL_law_1401 ?_
        refine q_callX (M := mX11_write) (pc := 1402) (st := []) (as := [.int (oX ω ((nI i) + 1).toNatClampNeg), .int (oX ω ((nI i) + 2).toNatClampNeg), .int (oX ω ((nI i) + 3).toNatClampNeg)]) C rfl (x_write (d := d - 1) (by omega) σ hL.2.1 hL.1 (oX ω ((nI i) + 1).toNatClampNeg) (oX ω ((nI i) + 2).toNatClampNeg) (oX ω ((nI i) + 3).toNatClampNeg)) (by omega) lL_165 dL_law_1402 rfl (Nat.le_of_ble_eq_true rfl) hc hk rfl (fun v τ hx => ?_)
        refine g_al2n (pc := 1405) C dL_law_1405 ?_
        refine g_al0n (pc := 1406) C dL_law_1406 ?_
        refine g_il3n (pc := 1407) C dL_law_1407 ?_
        refine g_iconst (pc := 1408) (v := 1) C dL_law_1408 (by decide) ?_
        refine g_iadd (pc := 1409) C dL_law_1409 ?_
        refine g_scr (pc := 1410) C (by first | exact hv0 | exact hv1 | exact hv2 | exact hv3 | exact hv4 | exact hv5) dL_law_1410 ?_
        refine g_al0n (pc := 1411) C dL_law_1411 ?_
        refine g_il3n (pc := 1412) C dL_law_1412 ?_
        refine g_iconst (pc := 1413) (v := 2) C dL_law_1413 (by decide) ?_
        refine g_iadd (pc := 1414) C dL_law_1414 ?_
        refine g_scr (pc := 1415) C (by first | exact hv0 | exact hv1 | exact hv2 | exact hv3 | exact hv4 | exact hv5) dL_law_1415 ?_
        refine g_al0n (pc := 1416) C dL_law_1416 ?_
        refine g_il3n (pc := 1417) C dL_law_1417 ?_
        refine g_iconst (pc := 1418) (v := 3) C dL_law_1418 (by decide) ?_
        refine g_iadd (pc := 1419) C dL_law_1419 ?_
        refine g_scr (pc := 1420) C (by first | exact hv0 | exact hv1 | exact hv2 | exact hv3 | exact hv4 | exact hv5) dL_law_1420 ?_
        refine q_callM (M := mX12_write) (pc := 1421) (st := [(.int v)]) (as := [.int (oX ω ((nI i) + 1).toNatClampNeg), .int (oX ω ((nI i) + 2).toNatClampNeg), .int (oX ω ((nI i) + 3).toNatClampNeg)]) C rfl (m_write (d := d - 1) (by omega) τ (by rw [hx.2.2 145 (by decide)]; exact hL.2.1.z) (oX ω ((nI i) + 1).toNatClampNeg) (oX ω ((nI i) + 2).toNatClampNeg) (oX ω ((nI i) + 3).toNatClampNeg)) (by omega) lL_168 dL_law_1421 rfl (Nat.le_of_ble_eq_true rfl) hc hk rfl (fun w υ hm => ?_)
        obtain ⟨hvw, hL2⟩ := LI_step hL hx hm (by rw [mv_same hx.2.2]) (i_write hL.2.1 (oX ω ((nI i) + 1).toNatClampNeg) (oX ω ((nI i) + 2).toNatClampNeg) (oX ω ((nI i) + 3).toNatClampNeg))
        refine g_icmp_eq (pc := 1424) (tgt := 1577) C dL_law_1424 (by decide) (fun c_1424 => ?_) (fun c_1424 => absurd hvw c_1424)
        exact nx _ hL2
      · refine g_tabE (pc := 33) (tgt := 1429) (off := 1396) (v := 37) C dL_law_33 w_33 (by decide) (by decide) (by decide) (by decide) ?_
        refine g_al1n (pc := 1429) C dL_law_1429 ?_
        refine g_al0n (pc := 1430) C dL_law_1430 ?_
        refine g_il3n (pc := 1431) C dL_law_1431 ?_
        refine g_iconst (pc := 1432) (v := 1) C dL_law_1432 (by decide) ?_
        refine g_iadd (pc := 1433) C dL_law_1433 ?_
        refine g_scr (pc := 1434) C (by first | exact hv0 | exact hv1 | exact hv2 | exact hv3 | exact hv4 | exact hv5) dL_law_1434 ?_
        refine g_al0n (pc := 1435) C dL_law_1435 ?_
        refine g_il3n (pc := 1436) C dL_law_1436 ?_
        refine g_iconst (pc := 1437) (v := 2) C dL_law_1437 (by decide) ?_
        refine g_iadd (pc := 1438) C dL_law_1438 ?_
        refine g_scr (pc := 1439) C (by first | exact hv0 | exact hv1 | exact hv2 | exact hv3 | exact hv4 | exact hv5) dL_law_1439 ?_
        refine g_al0n (pc := 1440) C dL_law_1440 ?_
        refine g_il3n (pc := 1441) C dL_law_1441 ?_
        refine g_iconst (pc := 1442) (v := 3) C dL_law_1442 (by decide) ?_
        refine g_iadd (pc := 1443) C dL_law_1443 ?_
        refine g_scr (pc := 1444) C (by first | exact hv0 | exact hv1 | exact hv2 | exact hv3 | exact hv4 | exact hv5) dL_law_1444 ?_
        refine g_al0n (pc := 1445) C dL_law_1445 ?_
        refine g_il3n (pc := 1446) C dL_law_1446 ?_
        refine g_iconst (pc := 1447) (v := 4) C dL_law_1447 (by decide) ?_
        refine g_iadd (pc := 1448) C dL_law_1448 ?_
        refine g_scr (pc := 1449) C (by first | exact hv0 | exact hv1 | exact hv2 | exact hv3 | exact hv4 | exact hv5) dL_law_1449 ?_
        refine g_al0n (pc := 1450) C dL_law_1450 ?_
        refine g_il3n (pc := 1451) C dL_law_1451 ?_
        refine g_iconst (pc := 1452) (v := 5) C dL_law_1452 (by decide) ?_
        refine g_iadd (pc := 1453) C dL_law_1453 ?_
        refine g_scr (pc := 1454) C (by first | exact hv0 | exact hv1 | exact hv2 | exact hv3 | exact hv4 | exact hv5) dL_law_1454 ?_
        refine q_callX (M := mX11_copy) (pc := 1455) (st := []) (as := [.int (oX ω ((nI i) + 1).toNatClampNeg), .int (oX ω ((nI i) + 2).toNatClampNeg), .int (oX ω ((nI i) + 3).toNatClampNeg), .int (oX ω ((nI i) + 4).toNatClampNeg), .int (oX ω ((nI i) + 5).toNatClampNeg)]) C rfl (x_copy (d := d - 1) (by omega) σ hL.2.1 hL.1 (oX ω ((nI i) + 1).toNatClampNeg) (oX ω ((nI i) + 2).toNatClampNeg) (oX ω ((nI i) + 3).toNatClampNeg) (oX ω ((nI i) + 4).toNatClampNeg) (oX ω ((nI i) + 5).toNatClampNeg)) (by omega) lL_169 dL_law_1455 rfl (Nat.le_of_ble_eq_true rfl) hc hk rfl (fun v τ hx => ?_)
        refine g_al2n (pc := 1458) C dL_law_1458 ?_
        refine g_al0n (pc := 1459) C dL_law_1459 ?_
        refine g_il3n (pc := 1460) C dL_law_1460 ?_
        refine g_iconst (pc := 1461) (v := 1) C dL_law_1461 (by decide) ?_
        refine g_iadd (pc := 1462) C dL_law_1462 ?_
        refine g_scr (pc := 1463) C (by first | exact hv0 | exact hv1 | exact hv2 | exact hv3 | exact hv4 | exact hv5) dL_law_1463 ?_
        refine g_al0n (pc := 1464) C dL_law_1464 ?_
        refine g_il3n (pc := 1465) C dL_law_1465 ?_
        refine g_iconst (pc := 1466) (v := 2) C dL_law_1466 (by decide) ?_
        refine g_iadd (pc := 1467) C dL_law_1467 ?_
        refine g_scr (pc := 1468) C (by first | exact hv0 | exact hv1 | exact hv2 | exact hv3 | exact hv4 | exact hv5) dL_law_1468 ?_
        refine g_al0n (pc := 1469) C dL_law_1469 ?_
        refine g_il3n (pc := 1470) C dL_law_1470 ?_
        refine g_iconst (pc := 1471) (v := 3) C dL_law_1471 (by decide) ?_
        refine g_iadd (pc := 1472) C dL_law_1472 ?_
        refine g_scr (pc := 1473) C (by first | exact hv0 | exact hv1 | exact hv2 | exact hv3 | exact hv4 | exact hv5) dL_law_1473 ?_
        refine g_al0n (pc := 1474) C dL_law_1474 ?_
        refine g_il3n (pc := 1475) C dL_law_1475 ?_
        refine g_iconst (pc := 1476) (v := 4) C dL_law_1476 (by decide) ?_
        refine g_iadd (pc := 1477) C dL_law_1477 ?_
        refine g_scr (pc := 1478) C (by first | exact hv0 | exact hv1 | exact hv2 | exact hv3 | exact hv4 | exact hv5) dL_law_1478 ?_
        refine g_al0n (pc := 1479) C dL_law_1479 ?_
        refine g_il3n (pc := 1480) C dL_law_1480 ?_
        refine g_iconst (pc := 1481) (v := 5) C dL_law_1481 (by decide) ?_
        refine g_iadd (pc := 1482) C dL_law_1482 ?_
        refine g_scr (pc := 1483) C (by first | exact hv0 | exact hv1 | exact hv2 | exact hv3 | exact hv4 | exact hv5) dL_law_1483 ?_
        refine q_callM (M := mX12_copy) (pc := 1484) (st := [(.int v)]) (as := [.int (oX ω ((nI i) + 1).toNatClampNeg), .int (oX ω ((nI i) + 2).toNatClampNeg), .int (oX ω ((nI i) + 3).toNatClampNeg), .int (oX ω ((nI i) + 4).toNatClampNeg), .int (oX ω ((nI i) + 5).toNatClampNeg)]) C rfl (m_copy (d := d - 1) (by omega) τ (by rw [hx.2.2 145 (by decide)]; exact hL.2.1.z) (oX ω ((nI i) + 1).toNatClampNeg) (oX ω ((nI i) + 2).toNatClampNeg) (oX ω ((nI i) + 3).toNatClampNeg) (oX ω ((nI i) + 4).toNatClampNeg) (oX ω ((nI i) + 5).toNatClampNeg)) (by omega) lL_172 dL_law_1484 rfl (Nat.le_of_ble_eq_true rfl) hc hk rfl (fun w υ hm => ?_)
        obtain ⟨hvw, hL2⟩ := LI_step hL hx hm (by rw [mv_same hx.2.2]) (i_copy hL.2.1 (oX ω ((nI i) + 1).toNatClampNeg) (oX ω ((nI i) + 2).toNatClampNeg) (oX ω ((nI i) + 3).toNatClampNeg) (oX ω ((nI i) + 4).toNatClampNeg) (oX ω ((nI i) + 5).toNatClampNeg))
        refine g_icmp_eq (pc := 1487) (tgt := 1577) C dL_law_1487 (by decide) (fun c_1487 => ?_) (fun c_1487 => absurd hvw c_1487)
        exact nx _ hL2
      · refine g_tabE (pc := 33) (tgt := 1492) (off := 1459) (v := 38) C dL_law_33 w_33 (by decide) (by decide) (by decide) (by decide) ?_
        refine g_al1n (pc := 1492) C dL_law_1492 ?_
        refine q_callX (M := mX11_image) (pc := 1493) (st := []) (as := []) C rfl (x_image (d := d - 1) (by omega) σ hL.2.1 hL.1) (by omega) lL_173 dL_law_1493 rfl (Nat.le_of_ble_eq_true rfl) hc hk rfl (fun v τ hx => ?_)
        refine g_al2n (pc := 1496) C dL_law_1496 ?_
        refine q_callM (M := mX12_image) (pc := 1497) (st := [(.int v)]) (as := []) C rfl (m_image (d := d - 1) (by omega) τ (by rw [hx.2.2 136 (by decide)]; exact hL.2.1.i) (by rw [hx.2.2 137 (by decide)]; exact hL.2.1.2.2.1)) (by omega) lL_176 dL_law_1497 rfl (Nat.le_of_ble_eq_true rfl) hc hk rfl (fun w υ hm => ?_)
        obtain ⟨hvw, hL2⟩ := LI_step hL hx hm (by rw [mv_same hx.2.2]) (i_image hL.2.1)
        refine g_icmp_eq (pc := 1500) (tgt := 1577) C dL_law_1500 (by decide) (fun c_1500 => ?_) (fun c_1500 => absurd hvw c_1500)
        exact nx _ hL2
      · refine g_tabE (pc := 33) (tgt := 1505) (off := 1472) (v := 39) C dL_law_33 w_33 (by decide) (by decide) (by decide) (by decide) ?_
        refine g_al1n (pc := 1505) C dL_law_1505 ?_
        refine q_callX (M := mX11_undo) (pc := 1506) (st := []) (as := []) C rfl (x_undo (d := d - 1) (by omega) σ hL.2.1 hL.1) (by omega) lL_177 dL_law_1506 rfl (Nat.le_of_ble_eq_true rfl) hc hk rfl (fun v τ hx => ?_)
        refine g_al2n (pc := 1509) C dL_law_1509 ?_
        refine q_callM (M := mX12_undo) (pc := 1510) (st := [(.int v)]) (as := []) C rfl (m_undo (d := d - 1) (by omega) τ (by rw [hx.2.2 136 (by decide)]; exact hL.2.1.i) (by rw [hx.2.2 137 (by decide)]; exact hL.2.1.2.2.1)) (by omega) lL_180 dL_law_1510 rfl (Nat.le_of_ble_eq_true rfl) hc hk rfl (fun w υ hm => ?_)
        obtain ⟨hvw, hL2⟩ := LI_step hL hx hm (by rw [mv_same hx.2.2]) (i_undo hL.2.1)
        refine g_icmp_eq (pc := 1513) (tgt := 1577) C dL_law_1513 (by decide) (fun c_1513 => ?_) (fun c_1513 => absurd hvw c_1513)
        exact nx _ hL2
      · refine g_tabE (pc := 33) (tgt := 1518) (off := 1485) (v := 40) C dL_law_33 w_33 (by decide) (by decide) (by decide) (by decide) ?_
        refine g_al1n (pc := 1518) C dL_law_1518 ?_
        refine q_callX (M := mX11_tear) (pc := 1519) (st := []) (as := []) C rfl (x_tear (d := d - 1) (by omega) σ hL.2.1 hL.1) (by omega) lL_181 dL_law_1519 rfl (Nat.le_of_ble_eq_true rfl) hc hk rfl (fun v τ hx => ?_)
        refine g_al2n (pc := 1522) C dL_law_1522 ?_
        refine q_callM (M := mX12_tear) (pc := 1523) (st := [(.int v)]) (as := []) C rfl (m_tear (d := d - 1) (by omega) τ ) (by omega) lL_184 dL_law_1523 rfl (Nat.le_of_ble_eq_true rfl) hc hk rfl (fun w υ hm => ?_)
        obtain ⟨hvw, hL2⟩ := LI_step hL hx hm (by rw [mv_same hx.2.2]) (i_tear hL.2.1)
        refine g_icmp_eq (pc := 1526) (tgt := 1577) C dL_law_1526 (by decide) (fun c_1526 => ?_) (fun c_1526 => absurd hvw c_1526)
        exact nx _ hL2
      · refine g_tabE (pc := 33) (tgt := 1531) (off := 1498) (v := 41) C dL_law_33 w_33 (by decide) (by decide) (by decide) (by decide) ?_
        refine g_al1n (pc := 1531) C dL_law_1531 ?_
        refine g_al0n (pc := 1532) C dL_law_1532 ?_
        refine g_il3n (pc := 1533) C dL_law_1533 ?_
        refine g_iconst (pc := 1534) (v := 1) C dL_law_1534 (by decide) ?_
        refine g_iadd (pc := 1535) C dL_law_1535 ?_
        refine g_scr (pc := 1536) C (by first | exact hv0 | exact hv1 | exact hv2 | exact hv3 | exact hv4 | exact hv5) dL_law_1536 ?_
        refine q_callX (M := mX11_count) (pc := 1537) (st := []) (as := [.int (oX ω ((nI i) + 1).toNatClampNeg)]) C rfl (x_count (d := d - 1) (by omega) σ hL.2.1 hL.1 (oX ω ((nI i) + 1).toNatClampNeg)) (by omega) lL_185 dL_law_1537 rfl (Nat.le_of_ble_eq_true rfl) hc hk rfl (fun v τ hx => ?_)
        refine g_al2n (pc := 1540) C dL_law_1540 ?_
        refine g_al0n (pc := 1541) C dL_law_1541 ?_
        refine g_il3n (pc := 1542) C dL_law_1542 ?_
        refine g_iconst (pc := 1543) (v := 1) C dL_law_1543 (by decide) ?_
        refine g_iadd (pc := 1544) C dL_law_1544 ?_
        refine g_scr (pc := 1545) C (by first | exact hv0 | exact hv1 | exact hv2 | exact hv3 | exact hv4 | exact hv5) dL_law_1545 ?_
        refine q_callM (M := mX12_count) (pc := 1546) (st := [(.int v)]) (as := [.int (oX ω ((nI i) + 1).toNatClampNeg)]) C rfl (m_count (d := d - 1) (by omega) τ (by rw [hx.2.2 136 (by decide)]; exact hL.2.1.i) (oX ω ((nI i) + 1).toNatClampNeg)) (by omega) lL_188 dL_law_1546 rfl (Nat.le_of_ble_eq_true rfl) hc hk rfl (fun w υ hm => ?_)
        obtain ⟨hvw, hL2⟩ := LI_step hL hx hm (by rw [mv_same hx.2.2]) (i_count hL.2.1 (oX ω ((nI i) + 1).toNatClampNeg))
        refine g_icmp_eq (pc := 1549) (tgt := 1577) C dL_law_1549 (by decide) (fun c_1549 => ?_) (fun c_1549 => absurd hvw c_1549)
        exact nx _ hL2
      · refine g_tabE (pc := 33) (tgt := 1554) (off := 1521) (v := 42) C dL_law_33 w_33 (by decide) (by decide) (by decide) (by decide) ?_
        refine g_al1n (pc := 1554) C dL_law_1554 ?_
        refine g_al0n (pc := 1555) C dL_law_1555 ?_
        refine g_il3n (pc := 1556) C dL_law_1556 ?_
        refine g_iconst (pc := 1557) (v := 1) C dL_law_1557 (by decide) ?_
        refine g_iadd (pc := 1558) C dL_law_1558 ?_
        refine g_scr (pc := 1559) C (by first | exact hv0 | exact hv1 | exact hv2 | exact hv3 | exact hv4 | exact hv5) dL_law_1559 ?_
        refine q_callX (M := mX11_status) (pc := 1560) (st := []) (as := [.int (oX ω ((nI i) + 1).toNatClampNeg)]) C rfl (x_status (d := d - 1) (by omega) σ hL.2.1 hL.1 (oX ω ((nI i) + 1).toNatClampNeg)) (by omega) lL_189 dL_law_1560 rfl (Nat.le_of_ble_eq_true rfl) hc hk rfl (fun v τ hx => ?_)
        refine g_al2n (pc := 1563) C dL_law_1563 ?_
        refine g_al0n (pc := 1564) C dL_law_1564 ?_
        refine g_il3n (pc := 1565) C dL_law_1565 ?_
        refine g_iconst (pc := 1566) (v := 1) C dL_law_1566 (by decide) ?_
        refine g_iadd (pc := 1567) C dL_law_1567 ?_
        refine g_scr (pc := 1568) C (by first | exact hv0 | exact hv1 | exact hv2 | exact hv3 | exact hv4 | exact hv5) dL_law_1568 ?_
        refine q_callM (M := mX12_status) (pc := 1569) (st := [(.int v)]) (as := [.int (oX ω ((nI i) + 1).toNatClampNeg)]) C rfl (m_status (d := d - 1) (by omega) τ  (oX ω ((nI i) + 1).toNatClampNeg)) (by omega) lL_192 dL_law_1569 rfl (Nat.le_of_ble_eq_true rfl) hc hk rfl (fun w υ hm => ?_)
        obtain ⟨hvw, hL2⟩ := LI_step hL hx hm (by rw [mv_same hx.2.2]) (i_status hL.2.1 (oX ω ((nI i) + 1).toNatClampNeg))
        refine g_icmp_eq (pc := 1572) (tgt := 1577) C dL_law_1572 (by decide) (fun c_1572 => ?_) (fun c_1572 => absurd hvw c_1572)
        exact nx _ hL2
      · refine g_tabOut (pc := 33) (tgt := 1577) C dL_law_33 w_33 (by decide) ?_
        exact nx _ hL
