/-! ===== the model: what a text comes to ===== -/
/-- the pile's first places hold the stack, its lowest at 0 -/
def PLs (f : Nu) : List Int32 → Prop
  | [] => True
  | x :: r => f r.length = x ∧ PLs f r
theorem PLs_up {f : Nu} {L : List Int32} {k : Nat} {x : Int32} (h : PLs f L) (hk : L.length ≤ k) : PLs (upd f k x) L := by
  induction L with
  | nil => trivial
  | cons y r ih =>
    have hl : r.length + 1 ≤ k := hk
    refine ⟨?_, ih h.2 (by omega)⟩
    rw [upd_apply, if_neg (by omega)]
    exact h.1
theorem PLs_push {f : Nu} {L : List Int32} {k : Nat} {x : Int32} (h : PLs f L) (hk : L.length = k) : PLs (upd f k x) (x :: L) :=
  ⟨by rw [upd_apply, if_pos hk], PLs_up h (by omega)⟩
theorem depT_le {cs : Nu} {n q : Nat} (h : depT cs n = some q) : q ≤ n := by
  induction n generalizing q with
  | zero => cases h; exact Nat.le_refl _
  | succ n ih =>
    unfold depT at h
    cases hd : depT cs n with
    | none => rw [hd] at h; cases h
    | some p =>
      rw [hd] at h
      have := ih hd
      by_cases h1 : cs n < 10100
      · simp only [h1, if_true] at h; cases h; omega
      · by_cases h2 : cs n = 10107
        · simp only [h2] at h
          by_cases h3 : p = 0
          · simp [h3] at h
          · simp [h3] at h; omega
        · simp only [h1, h2, if_false] at h
          by_cases h3 : p < 2
          · simp [h3] at h
          · simp [h3] at h; omega
theorem depT_back {cs : Nu} {n q : Nat} (h : depT cs n = some q) : ∀ i, i ≤ n → ∃ p, depT cs i = some p := by
  induction n generalizing q with
  | zero => intro i hi; exact ⟨q, by rw [show i = 0 by omega]; exact h⟩
  | succ n ih =>
    intro i hi
    by_cases e : i = n + 1
    · exact ⟨q, by rw [e]; exact h⟩
    · unfold depT at h
      cases hd : depT cs n with
      | none => rw [hd] at h; cases h
      | some p => exact ih hd i (by omega)
theorem runT_s (cs : Nu) (h m k w : Int32) (n : Nat) : runT cs h m k w (n + 1) = stepT (cs n) h m k w (runT cs h m k w n) := rfl
theorem depT_s (cs : Nu) (n : Nat) : depT cs (n + 1) = (match depT cs n with
    | none => none
    | some q => if cs n < 10100 then some (q + 1) else if cs n = 10107 then (if q = 0 then none else some q) else (if q < 2 then none else some (q - 1))) := rfl
theorem nlt_of_le32 {a b : Int32} (h : a ≤ b) : ¬ b < a := Int32.not_lt.mpr h
theorem lt_tr32 {a b c : Int32} (h : a < b) (h2 : b ≤ c) : a < c := Int32.lt_of_lt_of_le h h2
theorem stepT_num {s h m k w : Int32} {L : List Int32} (hs : ¬ 10000 ≤ s) : stepT s h m k w L = s :: L := by unfold stepT; rw [if_pos (Int32.not_le.mp hs)]
theorem stepT_name {s h m k w : Int32} {L : List Int32} (h1 : 10000 ≤ s) (h2 : ¬ 10100 ≤ s) : stepT s h m k w L = (if s = 10000 then h else if s = 10001 then m else if s = 10002 then k else w) :: L := by
  unfold stepT; rw [if_neg (nlt_of_le32 h1), if_pos (Int32.not_le.mp h2)]
theorem le100 {s : Int32} (h : 10100 ≤ s) : 10000 ≤ s := Int32.le_trans (show (10000 : Int32) ≤ 10100 by decide) h
theorem stepT_not {s h m k w x : Int32} {r : List Int32} (h2 : 10100 ≤ s) (h3 : s = 10107) : stepT s h m k w (x :: r) = (if x = 0 then 1 else 0) :: r := by
  unfold stepT; rw [if_neg (nlt_of_le32 (le100 h2)), if_neg (nlt_of_le32 h2), if_pos h3]
theorem stepT_op {s h m k w x y : Int32} {r : List Int32} (h2 : 10100 ≤ s) (h3 : ¬ s = 10107) : stepT s h m k w (y :: x :: r) = opK s x y :: r := by
  unfold stepT; rw [if_neg (nlt_of_le32 (le100 h2)), if_neg (nlt_of_le32 h2), if_neg h3]
theorem depT_push {cs : Nu} {i q : Nat} (h : depT cs i = some q) (hs : ¬ 10100 ≤ cs i) : depT cs (i + 1) = some (q + 1) := by rw [depT_s, h]; simp only [Int32.not_le.mp hs, if_true]
theorem depT_not {cs : Nu} {i q : Nat} (h : depT cs i = some q) (hs : 10100 ≤ cs i) (h3 : cs i = 10107) (hx : ∃ p, depT cs (i + 1) = some p) : 1 ≤ q ∧ depT cs (i + 1) = some q := by
  obtain ⟨p, hp⟩ := hx
  rw [depT_s, h] at hp ⊢
  simp only [nlt_of_le32 hs, if_false, h3, if_true] at hp ⊢
  by_cases hq : q = 0
  · simp [hq] at hp
  · simp [hq]; omega
theorem depT_op {cs : Nu} {i q : Nat} (h : depT cs i = some q) (hs : 10100 ≤ cs i) (h3 : ¬ cs i = 10107) (hx : ∃ p, depT cs (i + 1) = some p) : 2 ≤ q ∧ depT cs (i + 1) = some (q - 1) := by
  obtain ⟨p, hp⟩ := hx
  rw [depT_s, h] at hp ⊢
  simp only [nlt_of_le32 hs, if_false, h3] at hp ⊢
  by_cases hq : q < 2
  · simp [hq] at hp
  · simp [hq]; omega
theorem lp_X12_worked {μ : Mx} {ω : Om} {d : Nat} (hd : 2 ≤ d) (C : Cx μ ω "TowFieldModel" cX12_worked 9 d) (hr : (mH μ).sig.returnType = some .int) (σ : Sg) {t len : Nat} (ht : t < 6) (hn : σ 136 (346 + 104 * t + 1) = nI len) (hl : len ≤ 100) (hdep : depT (codes (σ 136) t) len = some 1) (h m k : Int32) : ∀ (f i : Nat) (τ : Sg) (q : Nat) (l8 : Option Value), i + f = len → (Eqx [143] σ τ) → (depT (codes (σ 136) t) i = some q) → (PLs (τ 143) (runT (codes (σ 136) t) h m k (σ 136 1) i)) → ((runT (codes (σ 136) t) h m k (σ 136 1) i).length = q) → G μ ω (RQ μ ω (pP (fun v τ => v = worth (σ 136) t h m k ∧ Eqx [143] σ τ))) 16 [some (.ref 135), some (.int (nI t)), some (.int h), some (.int m), some (.int k), some (.int (nI (346 + 104 * t))), some (.int (nI q)), some (.int (nI i)), l8] [] (mk τ) 0 0 := by
  intro f
  induction f with
  | zero =>
    intro i τ q l8 hif hv hv1 hv2 hv3
    have hin : i = len := by omega
    have e136 : τ 136 = σ 136 := hv 136 (by decide)
    have hqi := depT_le hv1
    refine g_il7 (pc := 16) C dX12_worked_16 ?_
    refine g_al0n (pc := 18) C dX12_worked_18 ?_
    refine s_getR (pc := 19) C fX12_9 h135 rfl dX12_worked_19 ?_
    refine g_il5 (pc := 22) C dX12_worked_22 ?_
    refine g_iconst (pc := 24) (v := 1) C dX12_worked_24 (by decide) ?_
    refine g_iadd (pc := 25) C dX12_worked_25 ?_
    refine s_iald (pc := 26) (q := 346 + 104 * t + 1) C h136 (by first | (simp only [ixl, nI_add, pk_mul]; done) | rfl | decide) (by omega) (Nat.le_of_ble_eq_true rfl) dX12_worked_26 ?_
    refine g_icmp_ge (pc := 27) (tgt := 207) C dX12_worked_27 (by decide) (fun c_27 => ?_) (fun c_27 => absurd (by rw [e136, hn]; exact nI_le (by omega) (by omega)) c_27)
    refine g_al0n (pc := 207) C dX12_worked_207 ?_
    refine s_getR (pc := 208) C fX12_42 h135 rfl dX12_worked_208 ?_
    refine g_iconst (pc := 211) (v := 0) C dX12_worked_211 (by decide) ?_
    refine s_iald (pc := 212) (q := 0) C h143 rfl (by omega) (Nat.le_of_ble_eq_true rfl) dX12_worked_212 ?_
    exact r_P C hr dX12_worked_213 ⟨by
      rw [hin] at hv1 hv2 hv3
      rw [hdep] at hv1
      cases hv1
      unfold worth
      rw [show lenT (σ 136) t = len by unfold lenT; rw [hn, nI_clamp (by omega)]]
      cases hz : runT (codes (σ 136) t) h m k (σ 136 1) len with
      | nil => rw [hz] at hv3; simp at hv3
      | cons x r =>
        rw [hz] at hv2 hv3
        have hr0 : r.length = 0 := by simpa using hv3
        have e := hv2.1
        rw [hr0] at e
        exact e, hv⟩
  | succ f ih =>
    intro i τ q l8 hif hv hv1 hv2 hv3
    have e136 : τ 136 = σ 136 := hv 136 (by decide)
    have hqi := depT_le hv1
    have hc : codes (σ 136) t i = τ 136 (346 + 104 * t + 2 + i) := by rw [e136]; rfl
    refine g_il7 (pc := 16) C dX12_worked_16 ?_
    refine g_al0n (pc := 18) C dX12_worked_18 ?_
    refine s_getR (pc := 19) C fX12_9 h135 rfl dX12_worked_19 ?_
    refine g_il5 (pc := 22) C dX12_worked_22 ?_
    refine g_iconst (pc := 24) (v := 1) C dX12_worked_24 (by decide) ?_
    refine g_iadd (pc := 25) C dX12_worked_25 ?_
    refine s_iald (pc := 26) (q := 346 + 104 * t + 1) C h136 (by first | (simp only [ixl, nI_add, pk_mul]; done) | rfl | decide) (by omega) (Nat.le_of_ble_eq_true rfl) dX12_worked_26 ?_
    refine g_icmp_ge (pc := 27) (tgt := 207) C dX12_worked_27 (by decide) (fun c_27 => absurd c_27 (by rw [e136, hn]; exact nI_ge (by omega) (by omega))) (fun c_27 => ?_)
    refine g_al0n (pc := 30) C dX12_worked_30 ?_
    refine s_getR (pc := 31) C fX12_9 h135 rfl dX12_worked_31 ?_
    refine g_il5 (pc := 34) C dX12_worked_34 ?_
    refine g_iconst (pc := 36) (v := 2) C dX12_worked_36 (by decide) ?_
    refine g_iadd (pc := 37) C dX12_worked_37 ?_
    refine g_il7 (pc := 38) C dX12_worked_38 ?_
    refine g_iadd (pc := 40) C dX12_worked_40 ?_
    refine s_iald (pc := 41) (q := 346 + 104 * t + 2 + i) C h136 (by first | (simp only [ixl, nI_add, pk_mul]; done) | rfl | decide) (by omega) (Nat.le_of_ble_eq_true rfl) dX12_worked_41 ?_
    refine g_is8 (pc := 42) C dX12_worked_42 ?_
    refine g_il8 (pc := 44) C dX12_worked_44 ?_
    refine g_sipush (pc := 46) (v := 10000) C dX12_worked_46 (by decide) ?_
    refine g_icmp_ge (pc := 49) (tgt := 67) C dX12_worked_49 (by decide) (fun c_49 => ?_) (fun c_49 => ?_)
    · refine g_il8 (pc := 67) C dX12_worked_67 ?_
      refine g_sipush (pc := 69) (v := 10100) C dX12_worked_69 (by decide) ?_
      refine g_icmp_ge (pc := 72) (tgt := 131) C dX12_worked_72 (by decide) (fun c_72 => ?_) (fun c_72 => ?_)
      · refine g_il8 (pc := 131) C dX12_worked_131 ?_
        refine g_sipush (pc := 133) (v := 10107) C dX12_worked_133 (by decide) ?_
        refine g_icmp_ne (pc := 136) (tgt := 168) C dX12_worked_136 (by decide) (fun c_136 => ?_) (fun c_136 => ?_)
        · obtain ⟨hq1, hq2⟩ := depT_op hv1 (by rw [hc]; exact c_72) (by rw [hc]; exact c_136) (depT_back hdep (i + 1) (by omega))
          obtain ⟨y, x, r, hrr⟩ : ∃ y x r, runT (codes (σ 136) t) h m k (σ 136 1) i = y :: x :: r := by
            cases hz : runT (codes (σ 136) t) h m k (σ 136 1) i with
            | nil => rw [hz] at hv3; simp at hv3; omega
            | cons y r0 => cases r0 with
              | nil => rw [hz] at hv3; simp at hv3; omega
              | cons x r => exact ⟨y, x, r, rfl⟩
          have hqr : q = r.length + 1 + 1 := by rw [← hv3, hrr]; rfl
          subst hqr
          have hq2 : depT (codes (σ 136) t) (i + 1) = some (r.length + 1) := hq2
          refine g_ii6 (pc := 168) (v := nI (r.length + 1)) C dX12_worked_168 (nI_dec _) ?_
          refine g_al0n (pc := 171) C dX12_worked_171 ?_
          refine s_getR (pc := 172) C fX12_42 h135 rfl dX12_worked_172 ?_
          refine g_il6 (pc := 175) C dX12_worked_175 ?_
          refine g_iconst (pc := 177) (v := 1) C dX12_worked_177 (by decide) ?_
          refine g_isub (pc := 178) C dX12_worked_178 ?_
          refine g_il8 (pc := 179) C dX12_worked_179 ?_
          refine g_al0n (pc := 181) C dX12_worked_181 ?_
          refine s_getR (pc := 182) C fX12_42 h135 rfl dX12_worked_182 ?_
          refine g_il6 (pc := 185) C dX12_worked_185 ?_
          refine g_iconst (pc := 187) (v := 1) C dX12_worked_187 (by decide) ?_
          refine g_isub (pc := 188) C dX12_worked_188 ?_
          refine s_iald (pc := 189) (q := r.length) C h143 (nI_pred _) (by omega) (Nat.le_of_ble_eq_true rfl) dX12_worked_189 ?_
          refine g_al0n (pc := 190) C dX12_worked_190 ?_
          refine s_getR (pc := 191) C fX12_42 h135 rfl dX12_worked_191 ?_
          refine g_il6 (pc := 194) C dX12_worked_194 ?_
          refine s_iald (pc := 196) (q := r.length + 1) C h143 rfl (by omega) (Nat.le_of_ble_eq_true rfl) dX12_worked_196 ?_
          refine s_SI (pc := 197) (st := [(.int ((nI (r.length + 1)) - 1)), (.ref 143)]) C (c_X12_done (d := d - 1) (by omega) τ (τ 136 (346 + 104 * t + 2 + i)) (τ 143 r.length) (τ 143 (r.length + 1))) (by omega) lX12_291 dX12_worked_197 rfl (Nat.le_of_ble_eq_true rfl) rfl ?_
          refine s_iast (pc := 200) (q := r.length) C h143 (nI_pred _) (by omega) (Nat.le_of_ble_eq_true rfl) dX12_worked_200 ?_
          refine g_ii7 (pc := 201) (v := nI (i + 1)) C dX12_worked_201 (nI_inc1 _) ?_
          refine g_goto (pc := 204) (tgt := 16) C dX12_worked_204 (by decide) ?_
          exact ih (i + 1) (up τ 143 r.length (opK (τ 136 (346 + 104 * t + 2 + i)) (τ 143 r.length) (τ 143 (r.length + 1)))) (r.length + 1) _ (by omega) (hv.tr (Eqx.up (by decide))) hq2
            (by rw [runT_s, hrr, stepT_op (by rw [hc]; exact c_72) (by rw [hc]; exact c_136), hc]; rw [hrr] at hv2; have e := hv2.1; have e2 := hv2.2.1; have e3 : τ 143 (r.length + 1) = y := e; rw [← e3, ← e2]; exact PLs_push hv2.2.2 rfl) (by rw [runT_s, hrr, stepT_op (by rw [hc]; exact c_72) (by rw [hc]; exact c_136)]; rfl)
        · obtain ⟨hq1, hq2⟩ := depT_not hv1 (by rw [hc]; exact c_72) (by rw [hc]; exact c_136) (depT_back hdep (i + 1) (by omega))
          obtain ⟨x, r, hrr⟩ : ∃ x r, runT (codes (σ 136) t) h m k (σ 136 1) i = x :: r := by
            cases hz : runT (codes (σ 136) t) h m k (σ 136 1) i with
            | nil => rw [hz] at hv3; simp at hv3; omega
            | cons x r => exact ⟨x, r, rfl⟩
          have hqr : q = r.length + 1 := by rw [← hv3, hrr]; rfl
          subst hqr
          refine g_al0n (pc := 139) C dX12_worked_139 ?_
          refine s_getR (pc := 140) C fX12_42 h135 rfl dX12_worked_140 ?_
          refine g_il6 (pc := 143) C dX12_worked_143 ?_
          refine g_iconst (pc := 145) (v := 1) C dX12_worked_145 (by decide) ?_
          refine g_isub (pc := 146) C dX12_worked_146 ?_
          refine g_al0n (pc := 147) C dX12_worked_147 ?_
          refine s_getR (pc := 148) C fX12_42 h135 rfl dX12_worked_148 ?_
          refine g_il6 (pc := 151) C dX12_worked_151 ?_
          refine g_iconst (pc := 153) (v := 1) C dX12_worked_153 (by decide) ?_
          refine g_isub (pc := 154) C dX12_worked_154 ?_
          refine s_iald (pc := 155) (q := r.length) C h143 (nI_pred _) (by omega) (Nat.le_of_ble_eq_true rfl) dX12_worked_155 ?_
          refine g_if_ne (pc := 156) (tgt := 163) C dX12_worked_156 (by decide) (fun c_156 => ?_) (fun c_156 => ?_)
          · refine g_iconst (pc := 163) (v := 0) C dX12_worked_163 (by decide) ?_
            refine s_iast (pc := 164) (q := r.length) C h143 (nI_pred _) (by omega) (Nat.le_of_ble_eq_true rfl) dX12_worked_164 ?_
            refine g_goto (pc := 165) (tgt := 201) C dX12_worked_165 (by decide) ?_
            refine g_ii7 (pc := 201) (v := nI (i + 1)) C dX12_worked_201 (nI_inc1 _) ?_
            refine g_goto (pc := 204) (tgt := 16) C dX12_worked_204 (by decide) ?_
            exact ih (i + 1) (up τ 143 r.length 0) (r.length + 1) _ (by omega) (hv.tr (Eqx.up (by decide))) hq2
              (by rw [runT_s, hrr, stepT_not (by rw [hc]; exact c_72) (by rw [hc]; exact c_136)]; rw [hrr] at hv2; have e := hv2.1; rw [← e]; simp only [c_156, if_true, if_false]; exact PLs_push hv2.2 rfl) (by rw [runT_s, hrr, stepT_not (by rw [hc]; exact c_72) (by rw [hc]; exact c_136)]; rfl)
          · refine g_iconst (pc := 159) (v := 1) C dX12_worked_159 (by decide) ?_
            refine g_goto (pc := 160) (tgt := 164) C dX12_worked_160 (by decide) ?_
            refine s_iast (pc := 164) (q := r.length) C h143 (nI_pred _) (by omega) (Nat.le_of_ble_eq_true rfl) dX12_worked_164 ?_
            refine g_goto (pc := 165) (tgt := 201) C dX12_worked_165 (by decide) ?_
            refine g_ii7 (pc := 201) (v := nI (i + 1)) C dX12_worked_201 (nI_inc1 _) ?_
            refine g_goto (pc := 204) (tgt := 16) C dX12_worked_204 (by decide) ?_
            exact ih (i + 1) (up τ 143 r.length 1) (r.length + 1) _ (by omega) (hv.tr (Eqx.up (by decide))) hq2
              (by rw [runT_s, hrr, stepT_not (by rw [hc]; exact c_72) (by rw [hc]; exact c_136)]; rw [hrr] at hv2; have e := hv2.1; rw [← e]; simp only [c_156, if_true, if_false]; exact PLs_push hv2.2 rfl) (by rw [runT_s, hrr, stepT_not (by rw [hc]; exact c_72) (by rw [hc]; exact c_136)]; rfl)
      · refine g_al0n (pc := 75) C dX12_worked_75 ?_
        refine s_getR (pc := 76) C fX12_42 h135 rfl dX12_worked_76 ?_
        refine g_il6 (pc := 79) C dX12_worked_79 ?_
        refine g_il8 (pc := 81) C dX12_worked_81 ?_
        refine g_sipush (pc := 83) (v := 10000) C dX12_worked_83 (by decide) ?_
        refine g_icmp_ne (pc := 86) (tgt := 93) C dX12_worked_86 (by decide) (fun c_86 => ?_) (fun c_86 => ?_)
        · refine g_il8 (pc := 93) C dX12_worked_93 ?_
          refine g_sipush (pc := 95) (v := 10001) C dX12_worked_95 (by decide) ?_
          refine g_icmp_ne (pc := 98) (tgt := 105) C dX12_worked_98 (by decide) (fun c_98 => ?_) (fun c_98 => ?_)
          · refine g_il8 (pc := 105) C dX12_worked_105 ?_
            refine g_sipush (pc := 107) (v := 10002) C dX12_worked_107 (by decide) ?_
            refine g_icmp_ne (pc := 110) (tgt := 118) C dX12_worked_110 (by decide) (fun c_110 => ?_) (fun c_110 => ?_)
            · refine g_al0n (pc := 118) C dX12_worked_118 ?_
              refine s_getR (pc := 119) C fX12_9 h135 rfl dX12_worked_119 ?_
              refine g_iconst (pc := 122) (v := 1) C dX12_worked_122 (by decide) ?_
              refine s_iald (pc := 123) (q := 1) C h136 rfl (by omega) (Nat.le_of_ble_eq_true rfl) dX12_worked_123 ?_
              refine s_iast (pc := 124) (q := q) C h143 rfl (by omega) (Nat.le_of_ble_eq_true rfl) dX12_worked_124 ?_
              refine g_ii6 (pc := 125) (v := nI (q + 1)) C dX12_worked_125 (nI_inc1 _) ?_
              refine g_goto (pc := 128) (tgt := 201) C dX12_worked_128 (by decide) ?_
              refine g_ii7 (pc := 201) (v := nI (i + 1)) C dX12_worked_201 (nI_inc1 _) ?_
              refine g_goto (pc := 204) (tgt := 16) C dX12_worked_204 (by decide) ?_
              exact ih (i + 1) (up τ 143 q (τ 136 1)) (q + 1) _ (by omega) (hv.tr (Eqx.up (by decide))) (depT_push hv1 (by rw [hc]; exact c_72))
                (by rw [runT_s, stepT_name (by rw [hc]; exact c_49) (by rw [hc]; exact c_72), hc]; simp only [c_86, c_98, c_110,  if_true, if_false]; first | exact PLs_push hv2 hv3 | (rw [show σ 136 1 = τ 136 1 by rw [e136]] at hv2 ⊢; exact PLs_push hv2 (by rw [show τ 136 1 = σ 136 1 by rw [e136]]; exact hv3))) (by rw [runT_s, stepT_name (by rw [hc]; exact c_49) (by rw [hc]; exact c_72)]; simp [hv3])
            · refine g_il4 (pc := 113) C dX12_worked_113 ?_
              refine g_goto (pc := 115) (tgt := 124) C dX12_worked_115 (by decide) ?_
              refine s_iast (pc := 124) (q := q) C h143 rfl (by omega) (Nat.le_of_ble_eq_true rfl) dX12_worked_124 ?_
              refine g_ii6 (pc := 125) (v := nI (q + 1)) C dX12_worked_125 (nI_inc1 _) ?_
              refine g_goto (pc := 128) (tgt := 201) C dX12_worked_128 (by decide) ?_
              refine g_ii7 (pc := 201) (v := nI (i + 1)) C dX12_worked_201 (nI_inc1 _) ?_
              refine g_goto (pc := 204) (tgt := 16) C dX12_worked_204 (by decide) ?_
              exact ih (i + 1) (up τ 143 q k) (q + 1) _ (by omega) (hv.tr (Eqx.up (by decide))) (depT_push hv1 (by rw [hc]; exact c_72))
                (by rw [runT_s, stepT_name (by rw [hc]; exact c_49) (by rw [hc]; exact c_72), hc]; simp only [c_86, c_98, c_110,  if_true, if_false]; first | exact PLs_push hv2 hv3 | (rw [show σ 136 1 = τ 136 1 by rw [e136]] at hv2 ⊢; exact PLs_push hv2 (by rw [show τ 136 1 = σ 136 1 by rw [e136]]; exact hv3))) (by rw [runT_s, stepT_name (by rw [hc]; exact c_49) (by rw [hc]; exact c_72)]; simp [hv3])
          · refine g_il3n (pc := 101) C dX12_worked_101 ?_
            refine g_goto (pc := 102) (tgt := 124) C dX12_worked_102 (by decide) ?_
            refine s_iast (pc := 124) (q := q) C h143 rfl (by omega) (Nat.le_of_ble_eq_true rfl) dX12_worked_124 ?_
            refine g_ii6 (pc := 125) (v := nI (q + 1)) C dX12_worked_125 (nI_inc1 _) ?_
            refine g_goto (pc := 128) (tgt := 201) C dX12_worked_128 (by decide) ?_
            refine g_ii7 (pc := 201) (v := nI (i + 1)) C dX12_worked_201 (nI_inc1 _) ?_
            refine g_goto (pc := 204) (tgt := 16) C dX12_worked_204 (by decide) ?_
            exact ih (i + 1) (up τ 143 q m) (q + 1) _ (by omega) (hv.tr (Eqx.up (by decide))) (depT_push hv1 (by rw [hc]; exact c_72))
              (by rw [runT_s, stepT_name (by rw [hc]; exact c_49) (by rw [hc]; exact c_72), hc]; simp only [c_86, c_98,  if_true, if_false]; first | exact PLs_push hv2 hv3 | (rw [show σ 136 1 = τ 136 1 by rw [e136]] at hv2 ⊢; exact PLs_push hv2 (by rw [show τ 136 1 = σ 136 1 by rw [e136]]; exact hv3))) (by rw [runT_s, stepT_name (by rw [hc]; exact c_49) (by rw [hc]; exact c_72)]; simp [hv3])
        · refine g_il2n (pc := 89) C dX12_worked_89 ?_
          refine g_goto (pc := 90) (tgt := 124) C dX12_worked_90 (by decide) ?_
          refine s_iast (pc := 124) (q := q) C h143 rfl (by omega) (Nat.le_of_ble_eq_true rfl) dX12_worked_124 ?_
          refine g_ii6 (pc := 125) (v := nI (q + 1)) C dX12_worked_125 (nI_inc1 _) ?_
          refine g_goto (pc := 128) (tgt := 201) C dX12_worked_128 (by decide) ?_
          refine g_ii7 (pc := 201) (v := nI (i + 1)) C dX12_worked_201 (nI_inc1 _) ?_
          refine g_goto (pc := 204) (tgt := 16) C dX12_worked_204 (by decide) ?_
          exact ih (i + 1) (up τ 143 q h) (q + 1) _ (by omega) (hv.tr (Eqx.up (by decide))) (depT_push hv1 (by rw [hc]; exact c_72))
            (by rw [runT_s, stepT_name (by rw [hc]; exact c_49) (by rw [hc]; exact c_72), hc]; simp only [c_86,  if_true, if_false]; first | exact PLs_push hv2 hv3 | (rw [show σ 136 1 = τ 136 1 by rw [e136]] at hv2 ⊢; exact PLs_push hv2 (by rw [show τ 136 1 = σ 136 1 by rw [e136]]; exact hv3))) (by rw [runT_s, stepT_name (by rw [hc]; exact c_49) (by rw [hc]; exact c_72)]; simp [hv3])
    · refine g_al0n (pc := 52) C dX12_worked_52 ?_
      refine s_getR (pc := 53) C fX12_42 h135 rfl dX12_worked_53 ?_
      refine g_il6 (pc := 56) C dX12_worked_56 ?_
      refine g_il8 (pc := 58) C dX12_worked_58 ?_
      refine s_iast (pc := 60) (q := q) C h143 rfl (by omega) (Nat.le_of_ble_eq_true rfl) dX12_worked_60 ?_
      refine g_ii6 (pc := 61) (v := nI (q + 1)) C dX12_worked_61 (nI_inc1 _) ?_
      refine g_goto (pc := 64) (tgt := 201) C dX12_worked_64 (by decide) ?_
      refine g_ii7 (pc := 201) (v := nI (i + 1)) C dX12_worked_201 (nI_inc1 _) ?_
      refine g_goto (pc := 204) (tgt := 16) C dX12_worked_204 (by decide) ?_
      exact ih (i + 1) (up τ 143 q (τ 136 (346 + 104 * t + 2 + i))) (q + 1) _ (by omega) (hv.tr (Eqx.up (by decide))) (depT_push hv1 (by rw [hc]; exact fun z => c_49 (le100 z)))
        (by rw [runT_s, stepT_num (by rw [hc]; exact c_49), hc]; exact PLs_push hv2 hv3) (by rw [runT_s, stepT_num (by rw [hc]; exact c_49)]; simp [hv3])

theorem c_X12_worked {d : Nat} (hd : 2 ≤ d) (σ : Sg) (hI : INV (σ 136)) {t : Nat} (ht : t < cnt (σ 136) 8) (h m k : Int32) : CP d mX12_worked [.ref 135, .int (nI t), .int h, .int m, .int k] σ (fun v τ => v = worth (σ 136) t h m k ∧ Eqx [143] σ τ) := by
  have h8 := hI.n8.2
  obtain ⟨-, ⟨len, hl1, hl2, hl3⟩, hdep⟩ := hI.2.2.2.2.2.2.2.1 t ht
  have hlen : lenT (σ 136) t = len := by unfold lenT; rw [hl3, nI_clamp (by omega)]
  rw [hlen] at hdep
  refine con_of (by decide) (catL rfl) (Nat.le_of_ble_eq_true rfl) ?_
  intro μ ω C hr
  have C : Cx μ ω "TowFieldModel" cX12_worked 9 d := C
  have hr : (mH μ).sig.returnType = some .int := hr
  show G μ ω (RQ μ ω (pP (fun v τ => v = worth (σ 136) t h m k ∧ Eqx [143] σ τ))) 0 [some (.ref 135), some (.int (nI t)), some (.int h), some (.int m), some (.int k), none, none, none, none] [] (mk σ) 0 0
  refine g_sipush (pc := 0) (v := 346) C dX12_worked_0 (by decide) ?_
  refine g_bipush (pc := 3) (v := 104) C dX12_worked_3 (by decide) ?_
  refine g_il1n (pc := 5) C dX12_worked_5 ?_
  refine g_imul (pc := 6) C dX12_worked_6 ?_
  refine g_iadd (pc := 7) C dX12_worked_7 ?_
  refine g_is5 (pc := 8) C dX12_worked_8 ?_
  refine g_iconst (pc := 10) (v := 0) C dX12_worked_10 (by decide) ?_
  refine g_is6 (pc := 11) C dX12_worked_11 ?_
  refine g_iconst (pc := 13) (v := 0) C dX12_worked_13 (by decide) ?_
  refine g_is7 (pc := 14) C dX12_worked_14 ?_
  rw [show (346 : Int32) + 104 * nI t = nI (346 + 104 * t) by simp only [ixl, nI_add, pk_mul]]
  exact lp_X12_worked hd C hr σ (by omega) hl3 hl2 hdep h m k len 0 σ 0 _ (by omega) Eqx.rf rfl trivial rfl

