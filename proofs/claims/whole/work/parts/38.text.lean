/-! ===== the model: text ===== -/
def putP (f : Nu) (b : Nat) (s : List Int32) (i : Nat) : Nu := fun j => if b ≤ j ∧ j < b + i then s.getD (j - b) 0 else f j
/-- a text put down -/
def textS (ν : Nu) (u : Int32) (s : List Int32) : Nu :=
  let c := 346 + 104 * cnt ν 8
  upd (putP (upd (upd ν c u) (c + 1) (nI s.length)) (c + 2) s s.length) 8 (ν 8 + 1)
def wipA (α : Al) : Al := (α.1, α.2.1, α.2.2.1, α.2.2.2.1, α.2.2.2.2.1, 0, α.2.2.2.2.2.2)
def sp_text (α : Al) (u : Int32) : Int32 × Al := if ¬ (0 ≤ u ∧ u ≤ 1) then FB α else if aN α 8 = 6 then FF α else
  match readT (aT α) (aS α).toNatClampNeg with
  | .inl (_, s) => (aN α 8, sN (wipA α) (textS (aN α) u s))
  | .inr q => (-1 - nI (stS (aT α) (aS α).toNatClampNeg q), wipA α)
theorem putP_0 (f : Nu) (b : Nat) (s : List Int32) : putP f b s 0 = f := by
  funext j
  exact if_neg (by omega)
theorem putP_s (f : Nu) (b : Nat) (s : List Int32) (i : Nat) (x : Int32) (hx : x = s.getD i 0) : upd (putP f b s i) (b + i) x = putP f b s (i + 1) := by
  subst hx
  funext j
  rw [upd_apply]
  unfold putP
  by_cases h : j = b + i
  · rw [if_pos h, if_pos (by omega), h]; congr 1; omega
  · rw [if_neg h]
    by_cases h2 : b ≤ j ∧ j < b + i
    · rw [if_pos h2, if_pos (by omega)]
    · rw [if_neg h2, if_neg (by omega)]
theorem mst_0 (σ : Sg) (n : Nat) : ntk (up (up (up (up σ 135 14 0) 135 15 0) 135 16 0) 135 18 0) n 0 = mst σ n 0 0 0 [] :=
  mst_of (fun k h1 h2 => by unfold ntk; rw [sup_apply, if_neg h1]; simp only [up_ne _ _ _ h1]) (by funext j; exact (if_neg (by simp)).symm) rfl rfl rfl rfl rfl rfl (fun j h1 h2 h3 h4 h5 h6 => by
    unfold ntk; rw [sup_apply, if_pos rfl, if_neg h1, if_neg h2, if_neg h3]; simp only [up_at, upd_apply, h1, h2, h3, h4, h5, h6, if_false])
theorem lp_text {μ : Mx} {ω : Om} {d : Nat} (hd : 1 ≤ d) (C : Cx μ ω "TowFieldModel" cX12_text 5 d) (hr : (mH μ).sig.returnType = some .int) (σ : Sg) {n c : Nat} {q' : Nat} {s : List Int32} (hs : s.length ≤ 100) (hc : c < 6) {ν : Nu} (e8 : putP ν (346 + 104 * c + 2) s s.length 8 = σ 136 8) (Φ : Int32 → Sg → Prop) (hΦ : ∀ τ', τ' 136 = upd (putP ν (346 + 104 * c + 2) s s.length) 8 (σ 136 8 + 1) → Eqx [136] (up (mst σ n 0 0 q' s) 135 6 0) τ' → Φ (σ 136 8) τ') (l1 l2 : Option Value) : ∀ (f i : Nat) (τ : Sg), i + f = s.length → (τ 136 = putP ν (346 + 104 * c + 2) s i) → (Eqx [136] (up (mst σ n 0 0 q' s) 135 6 0) τ) → G μ ω (RQ μ ω (pP Φ)) 144 [some (.ref 135), l1, l2, some (.int (nI (346 + 104 * c))), some (.int (nI i))] [] (mk τ) 0 0 := by
  intro f
  induction f with
  | zero =>
    intro i τ hif hv hv1
    have hin : i = s.length := by omega
    subst hin
    refine g_il4 (pc := 144) C dX12_text_144 ?_
    refine g_al0n (pc := 146) C dX12_text_146 ?_
    refine s_getIv (pc := 147) (v := nI s.length) C fX12_252 h135 rfl (by rw [hv1 135 (by decide)]; rfl) dX12_text_147 ?_
    refine g_icmp_geL (pc := 150) (tgt := 177) C dX12_text_150 (by decide) (fun c_150 => ?_) (fun c_150 => absurd c_150 (nI_nlt (by omega) (by omega)))
    refine g_al0n (pc := 177) C dX12_text_177 ?_
    refine s_getR (pc := 178) C fX12_9 h135 rfl dX12_text_178 ?_
    refine g_bipush (pc := 181) (v := 8) C dX12_text_181 (by decide) ?_
    refine g_dup2 (pc := 183) C dX12_text_183 rfl rfl ?_
    refine s_ialdv (pc := 184) (q := 8) (v := σ 136 8) C h136 rfl (by omega) (Nat.le_of_ble_eq_true rfl) (by rw [hv]; exact e8) dX12_text_184 ?_
    refine g_iconst (pc := 185) (v := 1) C dX12_text_185 (by decide) ?_
    refine g_iadd (pc := 186) C dX12_text_186 ?_
    refine s_iast (pc := 187) (q := 8) C h136 rfl (by omega) (Nat.le_of_ble_eq_true rfl) dX12_text_187 ?_
    refine g_al0n (pc := 188) C dX12_text_188 ?_
    refine s_getR (pc := 189) C fX12_9 h135 rfl dX12_text_189 ?_
    refine g_bipush (pc := 192) (v := 8) C dX12_text_192 (by decide) ?_
    refine s_ialdv (pc := 194) (q := 8) (v := σ 136 8 + 1) C h136 rfl (by omega) (Nat.le_of_ble_eq_true rfl) (by rw [up_at, upd_at]) dX12_text_194 ?_
    refine g_iconst (pc := 195) (v := 1) C dX12_text_195 (by decide) ?_
    refine g_isub (pc := 196) C dX12_text_196 ?_
    rw [Int32.add_sub_cancel]
    exact r_P C hr dX12_text_197 (hΦ _ (by rw [up_at, hv]) (hv1.tr (Eqx.up (by decide))))
  | succ f ih =>
    intro i τ hif hv hv1
    refine g_il4 (pc := 144) C dX12_text_144 ?_
    refine g_al0n (pc := 146) C dX12_text_146 ?_
    refine s_getIv (pc := 147) (v := nI s.length) C fX12_252 h135 rfl (by rw [hv1 135 (by decide)]; rfl) dX12_text_147 ?_
    refine g_icmp_geL (pc := 150) (tgt := 177) C dX12_text_150 (by decide) (fun c_150 => absurd (nI_lt (by omega) (by omega)) c_150) (fun c_150 => ?_)
    refine g_al0n (pc := 153) C dX12_text_153 ?_
    refine s_getR (pc := 154) C fX12_9 h135 rfl dX12_text_154 ?_
    refine g_il3n (pc := 157) C dX12_text_157 ?_
    refine g_iconst (pc := 158) (v := 2) C dX12_text_158 (by decide) ?_
    refine g_iadd (pc := 159) C dX12_text_159 ?_
    refine g_il4 (pc := 160) C dX12_text_160 ?_
    refine g_iadd (pc := 162) C dX12_text_162 ?_
    refine g_al0n (pc := 163) C dX12_text_163 ?_
    refine s_getR (pc := 164) C fX12_39 h135 rfl dX12_text_164 ?_
    refine g_il4 (pc := 167) C dX12_text_167 ?_
    refine s_ialdv (pc := 169) (q := i) (v := s.getD i 0) C h142 rfl (by omega) (Nat.le_of_ble_eq_true rfl) (by rw [hv1 142 (by decide)]; show putL (σ 142) s i = _; exact if_pos (by omega)) dX12_text_169 ?_
    refine s_iast (pc := 170) (q := 346 + 104 * c + 2 + i) C h136 (by first | (simp only [ixl, nI_add, pk_mul]; done) | rfl | decide) (by omega) (Nat.le_of_ble_eq_true rfl) dX12_text_170 ?_
    refine g_ii4 (pc := 171) (v := nI (i + 1)) C dX12_text_171 (nI_inc1 _) ?_
    refine g_goto (pc := 174) (tgt := 144) C dX12_text_174 (by decide) ?_
    exact ih (i + 1) _ (by omega) (by rw [up_at, hv]; exact putP_s _ _ _ _ _ rfl) (hv1.tr (Eqx.up (by decide)))

theorem m_text {d : Nat} (hd : 570 ≤ d) (σ : Sg) (hI : INV (σ 136)) (h6 : ∃ t, t ≤ 100 ∧ σ 135 6 = nI t) (u : Int32) : CP d mX12_text [.ref 135, .int u] σ (MPo σ (sp_text (mv σ) u)) := by
  obtain ⟨n, hn1, hn⟩ := h6
  obtain ⟨c, hcc⟩ : ∃ c, cnt (σ 136) 8 = c := ⟨_, rfl⟩
  have h8 : σ 136 8 = nI c := by rw [← hcc]; exact hI.n8.1
  have hc8 : c ≤ 6 := by rw [← hcc]; exact hI.n8.2
  refine con_of (by decide) (catL rfl) (Nat.le_of_ble_eq_true rfl) ?_
  intro μ ω C hr
  have C : Cx μ ω "TowFieldModel" cX12_text 5 d := C
  have hr : (mH μ).sig.returnType = some .int := hr
  show G μ ω (RQ μ ω (pP (MPo σ (sp_text (mv σ) u)))) 0 [some (.ref 135), some (.int u), none, none, none] [] (mk σ) 0 0
  refine g_il1n (pc := 0) C dX12_text_0 ?_
  refine g_iconst (pc := 1) (v := 0) C dX12_text_1 (by decide) ?_
  refine g_iconst (pc := 2) (v := 1) C dX12_text_2 (by decide) ?_
  refine s_SB (pc := 3) (st := []) C (c_X12_within (d := d - 1) (by omega) σ u 0 1) (by omega) lX12_58 dX12_text_3 rfl (Nat.le_of_ble_eq_true rfl) rfl (fun b_3 => ?_) (fun b_3 => ?_)
  · refine g_if_ne (pc := 6) (tgt := 16) C dX12_text_6 (by decide) (fun _ => ?_) (fun c => absurd c (by decide))
    refine g_al0n (pc := 16) C dX12_text_16 ?_
    refine s_getR (pc := 17) C fX12_9 h135 rfl dX12_text_17 ?_
    refine g_bipush (pc := 20) (v := 8) C dX12_text_20 (by decide) ?_
    refine s_iald (pc := 22) (q := 8) C h136 rfl (by omega) (Nat.le_of_ble_eq_true rfl) dX12_text_22 ?_
    refine g_bipush (pc := 23) (v := 6) C dX12_text_23 (by decide) ?_
    refine g_icmp_ne (pc := 25) (tgt := 35) C dX12_text_25 (by decide) (fun c_25 => ?_) (fun c_25 => ?_)
    · refine g_al0n (pc := 35) C dX12_text_35 ?_
      refine g_iconst (pc := 36) (v := 0) C dX12_text_36 (by decide) ?_
      refine s_putI (pc := 37) C pX12_226 h135 rfl dX12_text_37 ?_
      refine g_al0n (pc := 40) C dX12_text_40 ?_
      refine g_iconst (pc := 41) (v := 0) C dX12_text_41 (by decide) ?_
      refine s_putZ (pc := 42) C (by decide) pX12_238 h135 rfl dX12_text_42 ?_
      refine g_al0n (pc := 45) C dX12_text_45 ?_
      refine g_iconst (pc := 46) (v := 0) C dX12_text_46 (by decide) ?_
      refine s_putI (pc := 47) C pX12_271 h135 rfl dX12_text_47 ?_
      refine g_al0n (pc := 50) C dX12_text_50 ?_
      refine g_iconst (pc := 51) (v := 0) C dX12_text_51 (by decide) ?_
      refine s_putI (pc := 52) C pX12_252 h135 rfl dX12_text_52 ?_
      refine g_al0n (pc := 55) C dX12_text_55 ?_
      refine s_VQ (pc := 56) (st := []) C h135 rfl (c_X12_nextToken (d := d - 1) (by omega) (up (up (up (up σ 135 14 0) 135 15 0) 135 16 0) 135 18 0) (n := n) (q := 0) hn hn1 rfl (Nat.zero_le n)) (by omega) lX12_242 dX12_text_56 rfl (Nat.le_of_ble_eq_true rfl) rfl (fun ρ hρ => ?_)
      rw [mst_0] at hρ
      subst hρ
      refine g_al0n (pc := 59) C dX12_text_59 ?_
      refine s_VQ (pc := 60) (st := []) C h135 rfl ((c_levels σ hn hn1 6 0 rfl).1 (d - 1) 0 [] (by omega) (Nat.zero_le n) (by simp)) (by omega) lX12_287 dX12_text_60 rfl (Nat.le_of_ble_eq_true rfl) rfl (fun τ hτ => ?_)
      rcases hr2 : eitP (σ 140) n (lvl (σ 140) n 6).1 (lvl (σ 140) n 6).2 0 with ⟨q', s'⟩ | q'
      · have hτ2 : τ = mst σ n 0 0 q' ([] ++ s') := by have z := hτ; rw [hr2] at z; exact z
        have hg := (eit_good (t := σ 140) (lvl_good (t := σ 140) 6).1 (lvl_good (t := σ 140) 6).2) 0 (Nat.zero_le n)
        rw [hr2] at hg
        obtain ⟨g1, g2, g3⟩ := hg
        have g4 := g3.2.1
        subst hτ2
        refine g_al0n (pc := 63) C dX12_text_63 ?_
        refine g_al0n (pc := 64) C dX12_text_64 ?_
        refine s_getIv (pc := 65) (v := 0) C fX12_238 h135 rfl rfl dX12_text_65 ?_
        refine g_if_ne (pc := 68) (tgt := 78) C dX12_text_68 (by decide) (fun c => absurd c (by decide)) (fun _ => ?_)
        refine g_al0n (pc := 71) C dX12_text_71 ?_
        refine s_getIv (pc := 72) (v := sortS (σ 140) n q') C fX12_232 h135 rfl rfl dX12_text_72 ?_
        refine g_if_eq (pc := 75) (tgt := 82) C dX12_text_75 (by decide) (fun c_75 => ?_) (fun c_75 => ?_)
        · refine g_iconst (pc := 82) (v := 0) C dX12_text_82 (by decide) ?_
          refine s_putZv (pc := 83) (σ' := (mst σ n 0 0 q' ([] ++ s'))) C (by decide) pX12_238 h135 rfl (mst_w ..) dX12_text_83 ?_
          refine g_al0n (pc := 86) C dX12_text_86 ?_
          refine s_getIv (pc := 87) (v := nI ((stS (σ 140) n q'))) C fX12_229 h135 rfl rfl dX12_text_87 ?_
          refine g_is2n (pc := 90) C dX12_text_90 ?_
          refine g_al0n (pc := 91) C dX12_text_91 ?_
          refine g_iconst (pc := 92) (v := 0) C dX12_text_92 (by decide) ?_
          refine s_putI (pc := 93) C pX12_223 h135 rfl dX12_text_93 ?_
          refine g_al0n (pc := 96) C dX12_text_96 ?_
          refine s_getIv (pc := 97) (v := 0) C fX12_238 h135 rfl rfl dX12_text_97 ?_
          refine g_if_eq (pc := 100) (tgt := 107) C dX12_text_100 (by decide) (fun _ => ?_) (fun c => absurd c (by decide))
          have hc6 : c < 6 := by rcases Nat.lt_or_ge c 6 with z | z; exact z; exact absurd (by rw [h8, show c = 6 by omega]; rfl) c_25
          refine g_sipush (pc := 107) (v := 346) C dX12_text_107 (by decide) ?_
          refine g_bipush (pc := 110) (v := 104) C dX12_text_110 (by decide) ?_
          refine g_al0n (pc := 112) C dX12_text_112 ?_
          refine s_getR (pc := 113) C fX12_9 h135 rfl dX12_text_113 ?_
          refine g_bipush (pc := 116) (v := 8) C dX12_text_116 (by decide) ?_
          refine s_ialdv (pc := 118) (q := 8) (v := nI c) C h136 rfl (by omega) (Nat.le_of_ble_eq_true rfl) h8 dX12_text_118 ?_
          refine g_imul (pc := 119) C dX12_text_119 ?_
          refine g_iadd (pc := 120) C dX12_text_120 ?_
          refine g_is3n (pc := 121) C dX12_text_121 ?_
          refine g_al0n (pc := 122) C dX12_text_122 ?_
          refine s_getR (pc := 123) C fX12_9 h135 rfl dX12_text_123 ?_
          refine g_il3n (pc := 126) C dX12_text_126 ?_
          refine g_il1n (pc := 127) C dX12_text_127 ?_
          refine s_iast (pc := 128) (q := 346 + (104 * c)) C h136 (by first | (simp only [ixl, nI_add, pk_mul]; done) | rfl | decide) (by omega) (Nat.le_of_ble_eq_true rfl) dX12_text_128 ?_
          refine g_al0n (pc := 129) C dX12_text_129 ?_
          refine s_getR (pc := 130) C fX12_9 h135 rfl dX12_text_130 ?_
          refine g_il3n (pc := 133) C dX12_text_133 ?_
          refine g_iconst (pc := 134) (v := 1) C dX12_text_134 (by decide) ?_
          refine g_iadd (pc := 135) C dX12_text_135 ?_
          refine g_al0n (pc := 136) C dX12_text_136 ?_
          refine s_getI (pc := 137) C fX12_252 h135 rfl dX12_text_137 ?_
          refine s_iast (pc := 140) (q := (346 + (104 * c)) + 1) C h136 (by first | (simp only [ixl, nI_add, pk_mul]; done) | rfl | decide) (by omega) (Nat.le_of_ble_eq_true rfl) dX12_text_140 ?_
          refine g_iconst (pc := 141) (v := 0) C dX12_text_141 (by decide) ?_
          refine g_is4 (pc := 142) C dX12_text_142 ?_
          have er : readT (σ 140) n = .inl (q', s') := by unfold readT; rw [hr2]; exact if_pos c_75
          have e : sp_text (mv σ) u = (σ 136 8, sN (wipA (mv σ)) (textS (σ 136) u s')) := by
            unfold sp_text
            rw [if_neg (not_not_intro b_3), if_neg (show ¬ aN (mv σ) 8 = 6 from c_25), show (aS (mv σ)).toNatClampNeg = n from by show (σ 135 6).toNatClampNeg = n; rw [hn, nI_clamp (by omega)], show aT (mv σ) = σ 140 from rfl, er]
            rfl
          rw [e]
          have e8 : putP (upd (upd (σ 136) (346 + 104 * c) u) (346 + 104 * c + 1) (nI s'.length)) (346 + 104 * c + 2) s' s'.length 8 = σ 136 8 := by
            unfold putP; rw [if_neg (by omega), upd_ne _ _ (by omega), upd_ne _ _ (by omega)]
          rw [show (346 : Int32) + 104 * nI c = nI (346 + 104 * c) from by simp only [ixl, nI_add, pk_mul]]
          refine lp_text (by omega) C hr σ (n := n) (q' := q') (s := s') (by omega) hc6 e8 (MPo σ (σ 136 8, sN (wipA (mv σ)) (textS (σ 136) u s'))) (fun τ' z1 z2 => ⟨rfl, ?_, fun k hk => ?_, fun z j hj => ?_⟩) _ _ s'.length 0 (up (up (up (mst σ n 0 0 q' s') 135 6 0) 136 (346 + 104 * c) u) 136 (346 + 104 * c + 1) (nI s'.length)) (by omega) ((putP_0 _ _ _).symm) (fun k hk => by simp only [List.mem_singleton] at hk; rw [up_ne _ _ _ hk, up_ne _ _ _ hk])
          · unfold mv sN wipA textS
            rw [z1, z2 137 (by decide), z2 135 (by decide), z2 139 (by decide), z2 140 (by decide), z2 144 (by decide), z2 145 (by decide), z2 146 (by decide), hcc]
            rfl
          · rw [z2 k (by simp; omega), up_ne _ _ _ (by omega)]
            exact mst_ne (by omega) (by omega)
          · rw [z2 138 (by decide)]
            exact z j hj
        · refine g_iconst (pc := 78) (v := 1) C dX12_text_78 (by decide) ?_
          refine g_goto (pc := 79) (tgt := 83) C dX12_text_79 (by decide) ?_
          refine s_putZv (pc := 83) (σ' := (mst σ n 1 0 q' ([] ++ s'))) C (by decide) pX12_238 h135 rfl (mst_w ..) dX12_text_83 ?_
          refine g_al0n (pc := 86) C dX12_text_86 ?_
          refine s_getIv (pc := 87) (v := nI ((stS (σ 140) n q'))) C fX12_229 h135 rfl rfl dX12_text_87 ?_
          refine g_is2n (pc := 90) C dX12_text_90 ?_
          refine g_al0n (pc := 91) C dX12_text_91 ?_
          refine g_iconst (pc := 92) (v := 0) C dX12_text_92 (by decide) ?_
          refine s_putI (pc := 93) C pX12_223 h135 rfl dX12_text_93 ?_
          refine g_al0n (pc := 96) C dX12_text_96 ?_
          refine s_getIv (pc := 97) (v := 1) C fX12_238 h135 rfl rfl dX12_text_97 ?_
          refine g_if_eq (pc := 100) (tgt := 107) C dX12_text_100 (by decide) (fun c => absurd c (by decide)) (fun _ => ?_)
          refine g_iconst (pc := 103) (v := (-1)) C dX12_text_103 (by decide) ?_
          refine g_il2n (pc := 104) C dX12_text_104 ?_
          refine g_isub (pc := 105) C dX12_text_105 ?_
          have er : readT (σ 140) n = .inr q' := by unfold readT; rw [hr2]; exact if_neg c_75
          have e : sp_text (mv σ) u = (-1 - nI (stS (σ 140) n q'), wipA (mv σ)) := by
            unfold sp_text
            rw [if_neg (not_not_intro b_3), if_neg (show ¬ aN (mv σ) 8 = 6 from c_25), show (aS (mv σ)).toNatClampNeg = n from by show (σ 135 6).toNatClampNeg = n; rw [hn, nI_clamp (by omega)], show aT (mv σ) = σ 140 from rfl, er]
          rw [e]
          exact r_P C hr dX12_text_106 ⟨rfl, rfl, frU (by decide) (fun k hk => mst_ne (by omega) (by omega)), mtU (by decide) (fun z j hj => by rw [mst_ne (by decide) (by decide)]; exact z j hj)⟩
      · obtain ⟨s', hτ2⟩ : ∃ s', τ = mst σ n 1 0 q' s' := by have z := hτ; rw [hr2] at z; exact z
        subst hτ2
        refine g_al0n (pc := 63) C dX12_text_63 ?_
        refine g_al0n (pc := 64) C dX12_text_64 ?_
        refine s_getIv (pc := 65) (v := 1) C fX12_238 h135 rfl rfl dX12_text_65 ?_
        refine g_if_ne (pc := 68) (tgt := 78) C dX12_text_68 (by decide) (fun _ => ?_) (fun c => absurd c (by decide))
        refine g_iconst (pc := 78) (v := 1) C dX12_text_78 (by decide) ?_
        refine g_goto (pc := 79) (tgt := 83) C dX12_text_79 (by decide) ?_
        refine s_putZv (pc := 83) (σ' := (mst σ n 1 0 q' s')) C (by decide) pX12_238 h135 rfl (mst_w ..) dX12_text_83 ?_
        refine g_al0n (pc := 86) C dX12_text_86 ?_
        refine s_getIv (pc := 87) (v := nI ((stS (σ 140) n q'))) C fX12_229 h135 rfl rfl dX12_text_87 ?_
        refine g_is2n (pc := 90) C dX12_text_90 ?_
        refine g_al0n (pc := 91) C dX12_text_91 ?_
        refine g_iconst (pc := 92) (v := 0) C dX12_text_92 (by decide) ?_
        refine s_putI (pc := 93) C pX12_223 h135 rfl dX12_text_93 ?_
        refine g_al0n (pc := 96) C dX12_text_96 ?_
        refine s_getIv (pc := 97) (v := 1) C fX12_238 h135 rfl rfl dX12_text_97 ?_
        refine g_if_eq (pc := 100) (tgt := 107) C dX12_text_100 (by decide) (fun c => absurd c (by decide)) (fun _ => ?_)
        refine g_iconst (pc := 103) (v := (-1)) C dX12_text_103 (by decide) ?_
        refine g_il2n (pc := 104) C dX12_text_104 ?_
        refine g_isub (pc := 105) C dX12_text_105 ?_
        have er : readT (σ 140) n = .inr q' := by unfold readT; rw [hr2]; rfl
        have e : sp_text (mv σ) u = (-1 - nI (stS (σ 140) n q'), wipA (mv σ)) := by
          unfold sp_text
          rw [if_neg (not_not_intro b_3), if_neg (show ¬ aN (mv σ) 8 = 6 from c_25), show (aS (mv σ)).toNatClampNeg = n from by show (σ 135 6).toNatClampNeg = n; rw [hn, nI_clamp (by omega)], show aT (mv σ) = σ 140 from rfl, er]
        rw [e]
        exact r_P C hr dX12_text_106 ⟨rfl, rfl, frU (by decide) (fun k hk => mst_ne (by omega) (by omega)), mtU (by decide) (fun z j hj => by rw [mst_ne (by decide) (by decide)]; exact z j hj)⟩
    · refine g_al0n (pc := 28) C dX12_text_28 ?_
      refine g_ldc (pc := 29) C dX12_text_29 kX12_66 ?_
      refine s_VI (pc := 31) (st := []) C h135 rfl (c_X12_finding (d := d - 1) (by omega) σ (i := 1) (by decide) (w := ((-1000002))) (by decide)) (by omega) lX12_62 dX12_text_31 rfl (Nat.le_of_ble_eq_true rfl) rfl ?_
      have e : sp_text (mv σ) u = FF (mv σ) := (if_neg (not_not_intro b_3)).trans (if_pos c_25)
      rw [e]
      exact r_P C hr dX12_text_34 ⟨rfl, rfl, frU (by decide) (fun _ _ => rfl), mtU (by decide) id⟩
  · refine g_if_ne (pc := 6) (tgt := 16) C dX12_text_6 (by decide) (fun c => absurd c (by decide)) (fun _ => ?_)
    refine g_al0n (pc := 9) C dX12_text_9 ?_
    refine g_ldc (pc := 10) C dX12_text_10 kX12_57 ?_
    refine s_VI (pc := 12) (st := []) C h135 rfl (c_X12_finding (d := d - 1) (by omega) σ (i := 0) (by decide) (w := ((-1000001))) (by decide)) (by omega) lX12_62 dX12_text_12 rfl (Nat.le_of_ble_eq_true rfl) rfl ?_
    have e : sp_text (mv σ) u = FB (mv σ) := if_pos b_3
    rw [e]
    exact r_P C hr dX12_text_15 ⟨rfl, rfl, frU (by decide) (fun _ _ => rfl), mtU (by decide) id⟩

