/-! ===== the model reads a token ===== -/
theorem up_up (σ : Sg) (k j : Nat) (x y : Int32) : up (up σ k j x) k j y = up σ k j y := by
  funext q
  by_cases h : q = k
  · subst h
    rw [up_at, up_at, up_at]
    funext i
    by_cases h2 : i = j
    · rw [upd_apply, if_pos h2, upd_apply, if_pos h2]
    · rw [upd_apply, if_neg h2, upd_apply, if_neg h2, upd_apply, if_neg h2]
  · rw [up_ne _ _ _ h, up_ne _ _ _ h, up_ne _ _ _ h]
theorem up_same {σ : Sg} {k j : Nat} {x : Int32} (h : σ k j = x) : up σ k j x = σ := by
  funext q
  by_cases hq : q = k
  · subst hq
    rw [up_at]
    funext i
    by_cases h2 : i = j
    · rw [upd_apply, if_pos h2, h2, h]
    · rw [upd_apply, if_neg h2]
  · rw [up_ne _ _ _ hq]
/-- behind a token that was read from q on -/
def ntk (σ : Sg) (n q : Nat) : Sg := sup σ 135 (fun j => if j = 12 then sortS (σ 140) n q else if j = 13 then nI (stS (σ 140) n q) else if j = 14 then nI (enS (σ 140) n q) else σ 135 j)
theorem ntk_of {σ τ : Sg} {n q : Nat} (h0 : ∀ k, k ≠ 135 → τ k = σ k) (h1 : τ 135 12 = sortS (σ 140) n q) (h2 : τ 135 13 = nI (stS (σ 140) n q)) (h3 : τ 135 14 = nI (enS (σ 140) n q)) (h4 : ∀ j, j ≠ 12 → j ≠ 13 → j ≠ 14 → τ 135 j = σ 135 j) : τ = ntk σ n q := by
  funext k
  unfold ntk
  rw [sup_apply]
  by_cases hk : k = 135
  · subst hk
    rw [if_pos rfl]
    funext j
    by_cases e1 : j = 12
    · rw [if_pos e1, e1, h1]
    · rw [if_neg e1]
      by_cases e2 : j = 13
      · rw [if_pos e2, e2, h2]
      · rw [if_neg e2]
        by_cases e3 : j = 14
        · rw [if_pos e3, e3, h3]
        · rw [if_neg e3]; exact h4 j e1 e2 e3
  · rw [if_neg hk]; exact h0 k hk
theorem c_X12_isByte {d : Nat} (hd : 2 ≤ d) (σ : Sg) {n p : Nat} (hn : σ 135 6 = nI n) (hn1 : n ≤ 100) (hp : p ≤ n) (lo hi : Int32) : CB d mX12_isByte [.ref 135, .int (nI p), .int lo, .int hi] σ (p < n ∧ lo ≤ σ 140 p ∧ σ 140 p ≤ hi) σ := by
  have hlt : nI p < σ 135 6 ↔ p < n := by rw [hn]; exact nI_ltI (by omega) (by omega)
  refine con_of (by decide) (catL rfl) (Nat.le_of_ble_eq_true rfl) ?_
  intro μ ω C hr
  have C : Cx μ ω "TowFieldModel" cX12_isByte 4 d := C
  have hr : (mH μ).sig.returnType = some .boolean := hr
  show G μ ω (RQ μ ω (pB (p < n ∧ lo ≤ σ 140 p ∧ σ 140 p ≤ hi) σ)) 0 [some (.ref 135), some (.int (nI p)), some (.int lo), some (.int hi)] [] (mk σ) 0 0
  refine g_il1n (pc := 0) C dX12_isByte_0 ?_
  refine g_al0n (pc := 1) C dX12_isByte_1 ?_
  refine s_getI (pc := 2) C fX12_223 h135 rfl dX12_isByte_2 ?_
  refine g_icmp_geL (pc := 5) (tgt := 26) C dX12_isByte_5 (by decide) (fun c_5 => ?_) (fun c_5 => ?_)
  · refine g_iconst (pc := 26) (v := 0) C dX12_isByte_26 (by decide) ?_
    exact r_B0 C hr dX12_isByte_27 (fun q => c_5 (hlt.mpr q.1)) rfl
  · refine g_al0n (pc := 8) C dX12_isByte_8 ?_
    refine s_getR (pc := 9) C fX12_22 h135 rfl dX12_isByte_9 ?_
    refine g_il1n (pc := 12) C dX12_isByte_12 ?_
    refine s_iald (pc := 13) (q := p) C h140 rfl (by have := hlt.mp c_5; omega) (Nat.le_of_ble_eq_true rfl) dX12_isByte_13 ?_
    refine g_il2n (pc := 14) C dX12_isByte_14 ?_
    refine g_il3n (pc := 15) C dX12_isByte_15 ?_
    refine s_SB (pc := 16) (st := []) C (c_X12_within (d := d - 1) (by omega) σ (σ 140 p) lo hi) (by omega) lX12_58 dX12_isByte_16 rfl (Nat.le_of_ble_eq_true rfl) rfl (fun b_16 => ?_) (fun b_16 => ?_)
    · refine g_if_eq (pc := 19) (tgt := 26) C dX12_isByte_19 (by decide) (fun c => absurd c (by decide)) (fun _ => ?_)
      refine g_iconst (pc := 22) (v := 1) C dX12_isByte_22 (by decide) ?_
      refine g_goto (pc := 23) (tgt := 27) C dX12_isByte_23 (by decide) ?_
      exact r_B1 C hr dX12_isByte_27 (⟨hlt.mp c_5, b_16⟩) rfl
    · refine g_if_eq (pc := 19) (tgt := 26) C dX12_isByte_19 (by decide) (fun _ => ?_) (fun c => absurd c (by decide))
      refine g_iconst (pc := 26) (v := 0) C dX12_isByte_26 (by decide) ?_
      exact r_B0 C hr dX12_isByte_27 (fun q => b_16 q.2) rfl

theorem lp_X12_blank {μ : Mx} {ω : Om} {d : Nat} (hd : 1 ≤ d) (C : Cx μ ω "TowFieldModel" cX12_nextToken 1 d) (hr : (mH μ).sig.returnType = none) (σ : Sg) {n q : Nat} (hn : σ 135 6 = nI n) (hn1 : n ≤ 100) {post : Option Value → AH → Prop} (kk : G μ ω (RQ μ ω post) 46 [some (.ref 135)] [] (mk (up σ 135 13 (nI (bhA (σ 140) n 32 32 q)))) 0 0) : ∀ (f i : Nat), i + f = n → (bhA (σ 140) n 32 32 i = bhA (σ 140) n 32 32 q) → G μ ω (RQ μ ω (post)) 8 [some (.ref 135)] [] (mk ((up σ 135 13 (nI i)))) 0 0 := by
  intro f
  induction f with
  | zero =>
    intro i hif hv
    have hin : i = n := by omega
    refine g_al0n (pc := 8) C dX12_nextToken_8 ?_
    refine s_getIv (pc := 9) (v := nI i) C fX12_229 h135 rfl rfl dX12_nextToken_9 ?_
    refine g_al0n (pc := 12) C dX12_nextToken_12 ?_
    refine s_getIv (pc := 13) (v := nI n) C fX12_223 h135 rfl hn dX12_nextToken_13 ?_
    refine g_icmp_geL (pc := 16) (tgt := 46) C dX12_nextToken_16 (by decide) (fun c_16 => ?_) (fun c_16 => absurd c_16 (nI_nlt (by omega) (by omega)))
    rw [← hv, bhA_n (by omega)] at kk
    exact kk
  | succ f ih =>
    intro i hif hv
    refine g_al0n (pc := 8) C dX12_nextToken_8 ?_
    refine s_getIv (pc := 9) (v := nI i) C fX12_229 h135 rfl rfl dX12_nextToken_9 ?_
    refine g_al0n (pc := 12) C dX12_nextToken_12 ?_
    refine s_getIv (pc := 13) (v := nI n) C fX12_223 h135 rfl hn dX12_nextToken_13 ?_
    refine g_icmp_geL (pc := 16) (tgt := 46) C dX12_nextToken_16 (by decide) (fun c_16 => absurd (nI_lt (by omega) (by omega)) c_16) (fun c_16 => ?_)
    refine g_al0n (pc := 19) C dX12_nextToken_19 ?_
    refine s_getR (pc := 20) C fX12_22 h135 rfl dX12_nextToken_20 ?_
    refine g_al0n (pc := 23) C dX12_nextToken_23 ?_
    refine s_getIv (pc := 24) (v := nI i) C fX12_229 h135 rfl rfl dX12_nextToken_24 ?_
    refine s_iald (pc := 27) (q := i) C h140 rfl (by omega) (Nat.le_of_ble_eq_true rfl) dX12_nextToken_27 ?_
    refine g_bipush (pc := 28) (v := 32) C dX12_nextToken_28 (by decide) ?_
    refine g_icmp_ne (pc := 30) (tgt := 46) C dX12_nextToken_30 (by decide) (fun c_30 => ?_) (fun c_30 => ?_)
    · rw [← hv, bhA_n (t := σ 140) (fun z => c_30 (Int32.le_antisymm z.2.2 z.2.1))] at kk
      exact kk
    · refine g_al0n (pc := 33) C dX12_nextToken_33 ?_
      refine g_dup (pc := 34) C dX12_nextToken_34 rfl ?_
      refine s_getIv (pc := 35) (v := nI i) C fX12_229 h135 rfl rfl dX12_nextToken_35 ?_
      refine g_iconst (pc := 38) (v := 1) C dX12_nextToken_38 (by decide) ?_
      refine g_iadd (pc := 39) C dX12_nextToken_39 ?_
      refine s_putIv (pc := 40) (σ' := (up σ 135 13 (nI (i + 1)))) C pX12_229 h135 rfl ((up_up σ 135 13 _ _).trans (by rw [nI_succ]; try rfl)) dX12_nextToken_40 ?_
      refine g_goto (pc := 43) (tgt := 8) C dX12_nextToken_43 (by decide) ?_
      exact ih (i + 1) (by omega) (by rw [← hv]; exact (bhA_y ⟨by omega, by rw [show σ 140 i = 32 from c_30]; decide, by rw [show σ 140 i = 32 from c_30]; decide⟩).symm)

theorem lp_X12_end_w {μ : Mx} {ω : Om} {d : Nat} (hd : 3 ≤ d) (C : Cx μ ω "TowFieldModel" cX12_nextToken 1 d) (hr : (mH μ).sig.returnType = none) (σ : Sg) {n q : Nat} (h12 : σ 135 12 = 1) (hn : σ 135 6 = nI n) (hn1 : n ≤ 100) {Φ : Sg → Prop} (hΦ : Φ (up σ 135 14 (nI (bhA (σ 140) n 97 122 q)))) : ∀ (f i : Nat), i + f = n → (bhA (σ 140) n 97 122 i = bhA (σ 140) n 97 122 q) → G μ ω (RQ μ ω (pQ Φ)) 124 [some (.ref 135)] [] (mk ((up σ 135 14 (nI i)))) 0 0 := by
  intro f
  induction f with
  | zero =>
    intro i hif hv
    have hin : i = n := by omega
    refine g_al0n (pc := 124) C dX12_nextToken_124 ?_
    refine s_getIv (pc := 125) (v := 1) C fX12_232 h135 rfl h12 dX12_nextToken_125 ?_
    refine g_iconst (pc := 128) (v := 1) C dX12_nextToken_128 (by decide) ?_
    refine g_icmp_ne (pc := 129) (tgt := 147) C dX12_nextToken_129 (by decide) (fun c => absurd c (by decide)) (fun _ => ?_)
    refine g_al0n (pc := 132) C dX12_nextToken_132 ?_
    refine g_al0n (pc := 133) C dX12_nextToken_133 ?_
    refine s_getIv (pc := 134) (v := nI i) C fX12_226 h135 rfl rfl dX12_nextToken_134 ?_
    refine g_bipush (pc := 137) (v := 97) C dX12_nextToken_137 (by decide) ?_
    refine g_bipush (pc := 139) (v := 122) C dX12_nextToken_139 (by decide) ?_
    refine s_VB (pc := 141) (st := []) C h135 rfl (c_X12_isByte (d := d - 1) (by omega) ((up σ 135 14 (nI i))) (n := n) (p := i) hn hn1 (by omega) 97 122) (by omega) lX12_235 dX12_nextToken_141 rfl (Nat.le_of_ble_eq_true rfl) rfl (fun b_141 => ?_) (fun b_141 => ?_)
    · refine g_if_ne (pc := 144) (tgt := 170) C dX12_nextToken_144 (by decide) (fun _ => ?_) (fun c => absurd c (by decide))
      exact absurd b_141.1 (by omega)
    · refine g_if_ne (pc := 144) (tgt := 170) C dX12_nextToken_144 (by decide) (fun c => absurd c (by decide)) (fun _ => ?_)
      refine g_al0n (pc := 147) C dX12_nextToken_147 ?_
      refine s_getIv (pc := 148) (v := 1) C fX12_232 h135 rfl h12 dX12_nextToken_148 ?_
      refine g_iconst (pc := 151) (v := 2) C dX12_nextToken_151 (by decide) ?_
      refine g_icmp_ne (pc := 152) (tgt := 183) C dX12_nextToken_152 (by decide) (fun _ => ?_) (fun c => absurd c (by decide))
      exact r_Q C hr dX12_nextToken_183 (by rw [← hv, bhA_n (by omega)] at hΦ; exact hΦ)
  | succ f ih =>
    intro i hif hv
    refine g_al0n (pc := 124) C dX12_nextToken_124 ?_
    refine s_getIv (pc := 125) (v := 1) C fX12_232 h135 rfl h12 dX12_nextToken_125 ?_
    refine g_iconst (pc := 128) (v := 1) C dX12_nextToken_128 (by decide) ?_
    refine g_icmp_ne (pc := 129) (tgt := 147) C dX12_nextToken_129 (by decide) (fun c => absurd c (by decide)) (fun _ => ?_)
    refine g_al0n (pc := 132) C dX12_nextToken_132 ?_
    refine g_al0n (pc := 133) C dX12_nextToken_133 ?_
    refine s_getIv (pc := 134) (v := nI i) C fX12_226 h135 rfl rfl dX12_nextToken_134 ?_
    refine g_bipush (pc := 137) (v := 97) C dX12_nextToken_137 (by decide) ?_
    refine g_bipush (pc := 139) (v := 122) C dX12_nextToken_139 (by decide) ?_
    refine s_VB (pc := 141) (st := []) C h135 rfl (c_X12_isByte (d := d - 1) (by omega) ((up σ 135 14 (nI i))) (n := n) (p := i) hn hn1 (by omega) 97 122) (by omega) lX12_235 dX12_nextToken_141 rfl (Nat.le_of_ble_eq_true rfl) rfl (fun b_141 => ?_) (fun b_141 => ?_)
    · refine g_if_ne (pc := 144) (tgt := 170) C dX12_nextToken_144 (by decide) (fun _ => ?_) (fun c => absurd c (by decide))
      refine g_al0n (pc := 170) C dX12_nextToken_170 ?_
      refine g_dup (pc := 171) C dX12_nextToken_171 rfl ?_
      refine s_getIv (pc := 172) (v := nI i) C fX12_226 h135 rfl rfl dX12_nextToken_172 ?_
      refine g_iconst (pc := 175) (v := 1) C dX12_nextToken_175 (by decide) ?_
      refine g_iadd (pc := 176) C dX12_nextToken_176 ?_
      refine s_putIv (pc := 177) (σ' := (up σ 135 14 (nI (i + 1)))) C pX12_226 h135 rfl ((up_up σ 135 14 _ _).trans (by rw [nI_succ]; try rfl)) dX12_nextToken_177 ?_
      refine g_goto (pc := 180) (tgt := 124) C dX12_nextToken_180 (by decide) ?_
      exact ih (i + 1) (by omega) (by rw [← hv]; exact (bhA_y b_141).symm)
    · refine g_if_ne (pc := 144) (tgt := 170) C dX12_nextToken_144 (by decide) (fun c => absurd c (by decide)) (fun _ => ?_)
      refine g_al0n (pc := 147) C dX12_nextToken_147 ?_
      refine s_getIv (pc := 148) (v := 1) C fX12_232 h135 rfl h12 dX12_nextToken_148 ?_
      refine g_iconst (pc := 151) (v := 2) C dX12_nextToken_151 (by decide) ?_
      refine g_icmp_ne (pc := 152) (tgt := 183) C dX12_nextToken_152 (by decide) (fun _ => ?_) (fun c => absurd c (by decide))
      exact r_Q C hr dX12_nextToken_183 (by rw [← hv, bhA_n (t := σ 140) b_141] at hΦ; exact hΦ)

theorem lp_X12_end_d {μ : Mx} {ω : Om} {d : Nat} (hd : 3 ≤ d) (C : Cx μ ω "TowFieldModel" cX12_nextToken 1 d) (hr : (mH μ).sig.returnType = none) (σ : Sg) {n q : Nat} (h12 : σ 135 12 = 2) (hn : σ 135 6 = nI n) (hn1 : n ≤ 100) {Φ : Sg → Prop} (hΦ : Φ (up σ 135 14 (nI (bhA (σ 140) n 48 57 q)))) : ∀ (f i : Nat), i + f = n → (bhA (σ 140) n 48 57 i = bhA (σ 140) n 48 57 q) → G μ ω (RQ μ ω (pQ Φ)) 124 [some (.ref 135)] [] (mk ((up σ 135 14 (nI i)))) 0 0 := by
  intro f
  induction f with
  | zero =>
    intro i hif hv
    have hin : i = n := by omega
    refine g_al0n (pc := 124) C dX12_nextToken_124 ?_
    refine s_getIv (pc := 125) (v := 2) C fX12_232 h135 rfl h12 dX12_nextToken_125 ?_
    refine g_iconst (pc := 128) (v := 1) C dX12_nextToken_128 (by decide) ?_
    refine g_icmp_ne (pc := 129) (tgt := 147) C dX12_nextToken_129 (by decide) (fun _ => ?_) (fun c => absurd c (by decide))
    refine g_al0n (pc := 147) C dX12_nextToken_147 ?_
    refine s_getIv (pc := 148) (v := 2) C fX12_232 h135 rfl h12 dX12_nextToken_148 ?_
    refine g_iconst (pc := 151) (v := 2) C dX12_nextToken_151 (by decide) ?_
    refine g_icmp_ne (pc := 152) (tgt := 183) C dX12_nextToken_152 (by decide) (fun c => absurd c (by decide)) (fun _ => ?_)
    refine g_al0n (pc := 155) C dX12_nextToken_155 ?_
    refine g_al0n (pc := 156) C dX12_nextToken_156 ?_
    refine s_getIv (pc := 157) (v := nI i) C fX12_226 h135 rfl rfl dX12_nextToken_157 ?_
    refine g_bipush (pc := 160) (v := 48) C dX12_nextToken_160 (by decide) ?_
    refine g_bipush (pc := 162) (v := 57) C dX12_nextToken_162 (by decide) ?_
    refine s_VB (pc := 164) (st := []) C h135 rfl (c_X12_isByte (d := d - 1) (by omega) ((up σ 135 14 (nI i))) (n := n) (p := i) hn hn1 (by omega) 48 57) (by omega) lX12_235 dX12_nextToken_164 rfl (Nat.le_of_ble_eq_true rfl) rfl (fun b_164 => ?_) (fun b_164 => ?_)
    · refine g_if_eq (pc := 167) (tgt := 183) C dX12_nextToken_167 (by decide) (fun c => absurd c (by decide)) (fun _ => ?_)
      exact absurd b_164.1 (by omega)
    · refine g_if_eq (pc := 167) (tgt := 183) C dX12_nextToken_167 (by decide) (fun _ => ?_) (fun c => absurd c (by decide))
      exact r_Q C hr dX12_nextToken_183 (by rw [← hv, bhA_n (by omega)] at hΦ; exact hΦ)
  | succ f ih =>
    intro i hif hv
    refine g_al0n (pc := 124) C dX12_nextToken_124 ?_
    refine s_getIv (pc := 125) (v := 2) C fX12_232 h135 rfl h12 dX12_nextToken_125 ?_
    refine g_iconst (pc := 128) (v := 1) C dX12_nextToken_128 (by decide) ?_
    refine g_icmp_ne (pc := 129) (tgt := 147) C dX12_nextToken_129 (by decide) (fun _ => ?_) (fun c => absurd c (by decide))
    refine g_al0n (pc := 147) C dX12_nextToken_147 ?_
    refine s_getIv (pc := 148) (v := 2) C fX12_232 h135 rfl h12 dX12_nextToken_148 ?_
    refine g_iconst (pc := 151) (v := 2) C dX12_nextToken_151 (by decide) ?_
    refine g_icmp_ne (pc := 152) (tgt := 183) C dX12_nextToken_152 (by decide) (fun c => absurd c (by decide)) (fun _ => ?_)
    refine g_al0n (pc := 155) C dX12_nextToken_155 ?_
    refine g_al0n (pc := 156) C dX12_nextToken_156 ?_
    refine s_getIv (pc := 157) (v := nI i) C fX12_226 h135 rfl rfl dX12_nextToken_157 ?_
    refine g_bipush (pc := 160) (v := 48) C dX12_nextToken_160 (by decide) ?_
    refine g_bipush (pc := 162) (v := 57) C dX12_nextToken_162 (by decide) ?_
    refine s_VB (pc := 164) (st := []) C h135 rfl (c_X12_isByte (d := d - 1) (by omega) ((up σ 135 14 (nI i))) (n := n) (p := i) hn hn1 (by omega) 48 57) (by omega) lX12_235 dX12_nextToken_164 rfl (Nat.le_of_ble_eq_true rfl) rfl (fun b_164 => ?_) (fun b_164 => ?_)
    · refine g_if_eq (pc := 167) (tgt := 183) C dX12_nextToken_167 (by decide) (fun c => absurd c (by decide)) (fun _ => ?_)
      refine g_al0n (pc := 170) C dX12_nextToken_170 ?_
      refine g_dup (pc := 171) C dX12_nextToken_171 rfl ?_
      refine s_getIv (pc := 172) (v := nI i) C fX12_226 h135 rfl rfl dX12_nextToken_172 ?_
      refine g_iconst (pc := 175) (v := 1) C dX12_nextToken_175 (by decide) ?_
      refine g_iadd (pc := 176) C dX12_nextToken_176 ?_
      refine s_putIv (pc := 177) (σ' := (up σ 135 14 (nI (i + 1)))) C pX12_226 h135 rfl ((up_up σ 135 14 _ _).trans (by rw [nI_succ]; try rfl)) dX12_nextToken_177 ?_
      refine g_goto (pc := 180) (tgt := 124) C dX12_nextToken_180 (by decide) ?_
      exact ih (i + 1) (by omega) (by rw [← hv]; exact (bhA_y b_164).symm)
    · refine g_if_eq (pc := 167) (tgt := 183) C dX12_nextToken_167 (by decide) (fun _ => ?_) (fun c => absurd c (by decide))
      exact r_Q C hr dX12_nextToken_183 (by rw [← hv, bhA_n (t := σ 140) b_164] at hΦ; exact hΦ)

theorem y_next_46 {μ : Mx} {ω : Om} {d : Nat} (hd : 4 ≤ d) (C : Cx μ ω "TowFieldModel" cX12_nextToken 1 d) (hr : (mH μ).sig.returnType = none) (σ : Sg) {n q : Nat} (hn : σ 135 6 = nI n) (hn1 : n ≤ 100) (hq : q ≤ n) : G μ ω (RQ μ ω (pQ (fun τ => τ = ntk σ n q))) 46 [some (.ref 135)] [] (mk ((up σ 135 13 (nI (stS (σ 140) n q))))) 0 0 := by
  have hs1 := stS_le (t := σ 140) hq
  refine g_al0n (pc := 46) C dX12_nextToken_46 ?_
  refine g_al0n (pc := 47) C dX12_nextToken_47 ?_
  refine s_getIv (pc := 48) (v := nI ((stS (σ 140) n q))) C fX12_229 h135 rfl rfl dX12_nextToken_48 ?_
  refine s_putI (pc := 51) C pX12_226 h135 rfl dX12_nextToken_51 ?_
  refine g_al0n (pc := 54) C dX12_nextToken_54 ?_
  refine s_getIv (pc := 55) (v := nI ((stS (σ 140) n q))) C fX12_229 h135 rfl rfl dX12_nextToken_55 ?_
  refine g_al0n (pc := 58) C dX12_nextToken_58 ?_
  refine s_getIv (pc := 59) (v := nI n) C fX12_223 h135 rfl hn dX12_nextToken_59 ?_
  refine g_icmp_ne (pc := 62) (tgt := 71) C dX12_nextToken_62 (by decide) (fun c_62 => ?_) (fun c_62 => ?_)
  · refine g_al0n (pc := 71) C dX12_nextToken_71 ?_
    refine g_al0n (pc := 72) C dX12_nextToken_72 ?_
    refine g_al0n (pc := 73) C dX12_nextToken_73 ?_
    refine s_getIv (pc := 74) (v := nI ((stS (σ 140) n q))) C fX12_229 h135 rfl rfl dX12_nextToken_74 ?_
    refine g_bipush (pc := 77) (v := 97) C dX12_nextToken_77 (by decide) ?_
    refine g_bipush (pc := 79) (v := 122) C dX12_nextToken_79 (by decide) ?_
    refine s_VB (pc := 81) (st := [(.ref 135)]) C h135 rfl (c_X12_isByte (d := d - 1) (by omega) ((up (up σ 135 13 (nI (stS (σ 140) n q))) 135 14 (nI ((stS (σ 140) n q))))) (n := n) (p := (stS (σ 140) n q)) hn hn1 (by omega) 97 122) (by omega) lX12_235 dX12_nextToken_81 rfl (Nat.le_of_ble_eq_true rfl) rfl (fun b_81 => ?_) (fun b_81 => ?_)
    · refine g_if_eq (pc := 84) (tgt := 91) C dX12_nextToken_84 (by decide) (fun c => absurd c (by decide)) (fun _ => ?_)
      refine g_iconst (pc := 87) (v := 1) C dX12_nextToken_87 (by decide) ?_
      refine g_goto (pc := 88) (tgt := 111) C dX12_nextToken_88 (by decide) ?_
      refine s_putI (pc := 111) C pX12_232 h135 rfl dX12_nextToken_111 ?_
      refine g_al0n (pc := 114) C dX12_nextToken_114 ?_
      refine g_dup (pc := 115) C dX12_nextToken_115 rfl ?_
      refine s_getIv (pc := 116) (v := nI ((stS (σ 140) n q))) C fX12_226 h135 rfl rfl dX12_nextToken_116 ?_
      refine g_iconst (pc := 119) (v := 1) C dX12_nextToken_119 (by decide) ?_
      refine g_iadd (pc := 120) C dX12_nextToken_120 ?_
      refine s_putIv (pc := 121) (σ' := (up (up (up (up σ 135 13 (nI (stS (σ 140) n q))) 135 14 (nI ((stS (σ 140) n q)))) 135 12 1) 135 14 (nI (stS (σ 140) n q + 1)))) C pX12_226 h135 rfl (by rw [nI_succ]) dX12_nextToken_121 ?_
      have hst : ¬ stS (σ 140) n q = n := fun e => c_62 (by rw [e])
      have hlt : stS (σ 140) n q < n := by omega
      have b1 : 97 ≤ σ 140 (stS (σ 140) n q) ∧ σ 140 (stS (σ 140) n q) ≤ 122 := b_81.2
      refine lp_X12_end_w (by omega) C hr (up (up (up σ 135 13 (nI (stS (σ 140) n q))) 135 14 (nI (stS (σ 140) n q))) 135 12 1) (n := n) (q := stS (σ 140) n q + 1) rfl hn hn1 (Φ := fun τ => τ = ntk σ n q) ?_ (n - (stS (σ 140) n q + 1)) (stS (σ 140) n q + 1) (by omega) rfl
      refine (ntk_of (fun k hk => by simp only [up_ne _ _ _ hk]) ?_ ?_ ?_ (fun j h1 h2 h3 => by simp only [up_at, upd_apply, h1, h2, h3, if_false]))
      · show (1 : Int32) = sortS (σ 140) n q
        unfold sortS
        rw [if_neg hst, if_pos b1]
      · rfl
      · show nI (bhA (σ 140) n 97 122 (stS (σ 140) n q + 1)) = nI (enS (σ 140) n q)
        unfold enS
        rw [if_neg hst, if_pos b1]
    · refine g_if_eq (pc := 84) (tgt := 91) C dX12_nextToken_84 (by decide) (fun _ => ?_) (fun c => absurd c (by decide))
      refine g_al0n (pc := 91) C dX12_nextToken_91 ?_
      refine g_al0n (pc := 92) C dX12_nextToken_92 ?_
      refine s_getIv (pc := 93) (v := nI ((stS (σ 140) n q))) C fX12_229 h135 rfl rfl dX12_nextToken_93 ?_
      refine g_bipush (pc := 96) (v := 48) C dX12_nextToken_96 (by decide) ?_
      refine g_bipush (pc := 98) (v := 57) C dX12_nextToken_98 (by decide) ?_
      refine s_VB (pc := 100) (st := [(.ref 135)]) C h135 rfl (c_X12_isByte (d := d - 1) (by omega) ((up (up σ 135 13 (nI (stS (σ 140) n q))) 135 14 (nI ((stS (σ 140) n q))))) (n := n) (p := (stS (σ 140) n q)) hn hn1 (by omega) 48 57) (by omega) lX12_235 dX12_nextToken_100 rfl (Nat.le_of_ble_eq_true rfl) rfl (fun b_100 => ?_) (fun b_100 => ?_)
      · refine g_if_eq (pc := 103) (tgt := 110) C dX12_nextToken_103 (by decide) (fun c => absurd c (by decide)) (fun _ => ?_)
        refine g_iconst (pc := 106) (v := 2) C dX12_nextToken_106 (by decide) ?_
        refine g_goto (pc := 107) (tgt := 111) C dX12_nextToken_107 (by decide) ?_
        refine s_putI (pc := 111) C pX12_232 h135 rfl dX12_nextToken_111 ?_
        refine g_al0n (pc := 114) C dX12_nextToken_114 ?_
        refine g_dup (pc := 115) C dX12_nextToken_115 rfl ?_
        refine s_getIv (pc := 116) (v := nI ((stS (σ 140) n q))) C fX12_226 h135 rfl rfl dX12_nextToken_116 ?_
        refine g_iconst (pc := 119) (v := 1) C dX12_nextToken_119 (by decide) ?_
        refine g_iadd (pc := 120) C dX12_nextToken_120 ?_
        refine s_putIv (pc := 121) (σ' := (up (up (up (up σ 135 13 (nI (stS (σ 140) n q))) 135 14 (nI ((stS (σ 140) n q)))) 135 12 2) 135 14 (nI (stS (σ 140) n q + 1)))) C pX12_226 h135 rfl (by rw [nI_succ]) dX12_nextToken_121 ?_
        have hst : ¬ stS (σ 140) n q = n := fun e => c_62 (by rw [e])
        have hlt : stS (σ 140) n q < n := by omega
        have b1 : ¬ (97 ≤ σ 140 (stS (σ 140) n q) ∧ σ 140 (stS (σ 140) n q) ≤ 122) := fun z => b_81 ⟨hlt, z⟩
        have b2 : 48 ≤ σ 140 (stS (σ 140) n q) ∧ σ 140 (stS (σ 140) n q) ≤ 57 := b_100.2
        refine lp_X12_end_d (by omega) C hr (up (up (up σ 135 13 (nI (stS (σ 140) n q))) 135 14 (nI (stS (σ 140) n q))) 135 12 2) (n := n) (q := stS (σ 140) n q + 1) rfl hn hn1 (Φ := fun τ => τ = ntk σ n q) ?_ (n - (stS (σ 140) n q + 1)) (stS (σ 140) n q + 1) (by omega) rfl
        refine (ntk_of (fun k hk => by simp only [up_ne _ _ _ hk]) ?_ ?_ ?_ (fun j h1 h2 h3 => by simp only [up_at, upd_apply, h1, h2, h3, if_false]))
        · show (2 : Int32) = sortS (σ 140) n q
          unfold sortS
          rw [if_neg hst, if_neg b1, if_pos b2]
        · rfl
        · show nI (bhA (σ 140) n 48 57 (stS (σ 140) n q + 1)) = nI (enS (σ 140) n q)
          unfold enS
          rw [if_neg hst, if_neg b1, if_pos b2]
      · refine g_if_eq (pc := 103) (tgt := 110) C dX12_nextToken_103 (by decide) (fun _ => ?_) (fun c => absurd c (by decide))
        refine g_iconst (pc := 110) (v := 3) C dX12_nextToken_110 (by decide) ?_
        refine s_putI (pc := 111) C pX12_232 h135 rfl dX12_nextToken_111 ?_
        refine g_al0n (pc := 114) C dX12_nextToken_114 ?_
        refine g_dup (pc := 115) C dX12_nextToken_115 rfl ?_
        refine s_getIv (pc := 116) (v := nI ((stS (σ 140) n q))) C fX12_226 h135 rfl rfl dX12_nextToken_116 ?_
        refine g_iconst (pc := 119) (v := 1) C dX12_nextToken_119 (by decide) ?_
        refine g_iadd (pc := 120) C dX12_nextToken_120 ?_
        refine s_putIv (pc := 121) (σ' := (up (up (up (up σ 135 13 (nI (stS (σ 140) n q))) 135 14 (nI ((stS (σ 140) n q)))) 135 12 3) 135 14 (nI (stS (σ 140) n q + 1)))) C pX12_226 h135 rfl (by rw [nI_succ]) dX12_nextToken_121 ?_
        refine g_al0n (pc := 124) C dX12_nextToken_124 ?_
        refine s_getIv (pc := 125) (v := 3) C fX12_232 h135 rfl rfl dX12_nextToken_125 ?_
        refine g_iconst (pc := 128) (v := 1) C dX12_nextToken_128 (by decide) ?_
        refine g_icmp_ne (pc := 129) (tgt := 147) C dX12_nextToken_129 (by decide) (fun _ => ?_) (fun c => absurd c (by decide))
        refine g_al0n (pc := 147) C dX12_nextToken_147 ?_
        refine s_getIv (pc := 148) (v := 3) C fX12_232 h135 rfl rfl dX12_nextToken_148 ?_
        refine g_iconst (pc := 151) (v := 2) C dX12_nextToken_151 (by decide) ?_
        refine g_icmp_ne (pc := 152) (tgt := 183) C dX12_nextToken_152 (by decide) (fun _ => ?_) (fun c => absurd c (by decide))
        have hst : ¬ stS (σ 140) n q = n := fun e => c_62 (by rw [e])
        have hlt : stS (σ 140) n q < n := by omega
        have b1 : ¬ (97 ≤ σ 140 (stS (σ 140) n q) ∧ σ 140 (stS (σ 140) n q) ≤ 122) := fun z => b_81 ⟨hlt, z⟩
        have b2 : ¬ (48 ≤ σ 140 (stS (σ 140) n q) ∧ σ 140 (stS (σ 140) n q) ≤ 57) := fun z => b_100 ⟨hlt, z⟩
        refine r_Q C hr dX12_nextToken_183 ?_
        refine (ntk_of (fun k hk => by simp only [up_ne _ _ _ hk]) ?_ ?_ ?_ (fun j h1 h2 h3 => by simp only [up_at, upd_apply, h1, h2, h3, if_false]))
        · show (3 : Int32) = sortS (σ 140) n q
          unfold sortS
          rw [if_neg hst, if_neg b1, if_neg b2]
        · rfl
        · show nI (stS (σ 140) n q + 1) = nI (enS (σ 140) n q)
          unfold enS
          rw [if_neg hst, if_neg b1, if_neg b2]
  · refine g_al0n (pc := 65) C dX12_nextToken_65 ?_
    refine g_iconst (pc := 66) (v := 0) C dX12_nextToken_66 (by decide) ?_
    refine s_putI (pc := 67) C pX12_232 h135 rfl dX12_nextToken_67 ?_
    have hst : stS (σ 140) n q = n := (nI_eq (by omega) (by omega)).mp c_62
    refine r_Q C hr dX12_nextToken_70 ?_
    refine (ntk_of (fun k hk => by simp only [up_ne _ _ _ hk]) ?_ ?_ ?_ (fun j h1 h2 h3 => by simp only [up_at, upd_apply, h1, h2, h3, if_false]))
    · show (0 : Int32) = sortS (σ 140) n q
      unfold sortS
      rw [if_pos hst]
    · rfl
    · show nI (stS (σ 140) n q) = nI (enS (σ 140) n q)
      unfold enS
      rw [if_pos hst, hst]

theorem c_X12_nextToken {d : Nat} (hd : 5 ≤ d) (σ : Sg) {n q : Nat} (hn : σ 135 6 = nI n) (hn1 : n ≤ 100) (h14 : σ 135 14 = nI q) (hq : q ≤ n) : CQ d mX12_nextToken [.ref 135] σ (fun τ => τ = ntk σ n q) := by
  refine con_of (by decide) (catL rfl) (Nat.le_of_ble_eq_true rfl) ?_
  intro μ ω C hr
  have C : Cx μ ω "TowFieldModel" cX12_nextToken 1 d := C
  have hr : (mH μ).sig.returnType = none := hr
  show G μ ω (RQ μ ω (pQ (fun τ => τ = ntk σ n q))) 0 [some (.ref 135)] [] (mk σ) 0 0
  refine g_al0n (pc := 0) C dX12_nextToken_0 ?_
  refine g_al0n (pc := 1) C dX12_nextToken_1 ?_
  refine s_getIv (pc := 2) (v := nI q) C fX12_226 h135 rfl h14 dX12_nextToken_2 ?_
  refine s_putI (pc := 5) C pX12_229 h135 rfl dX12_nextToken_5 ?_
  exact lp_X12_blank (by omega) C hr σ hn hn1 (q := q) (y_next_46 (by omega) C hr σ hn hn1 hq) (n - q) q (by omega) rfl

