/-! ===== the model reads a text: single parts, negations ===== -/
theorem wd_len {t : Nu} {n q : Nat} {a b : List Int32} (h : isWd t n q a = true) (h2 : isWd t n q b = true) : a.length = b.length := by
  rw [← (isWd_i.mp h).2.1, ← (isWd_i.mp h2).2.1]
theorem wd_01 {t : Nu} {n q : Nat} (h : isWd t n q wHeight = true) : ¬ isWd t n q wMinutes = true := fun z => absurd (wd_len h z) (by decide)
theorem wd_02 {t : Nu} {n q : Nat} (h : isWd t n q wHeight = true) : ¬ isWd t n q wKind = true := fun z => absurd (wd_len h z) (by decide)
theorem wd_03 {t : Nu} {n q : Nat} (h : isWd t n q wHeight = true) : ¬ isWd t n q wWind = true := fun z => absurd (wd_len h z) (by decide)
theorem wd_12 {t : Nu} {n q : Nat} (h : isWd t n q wMinutes = true) : ¬ isWd t n q wKind = true := fun z => absurd (wd_len h z) (by decide)
theorem wd_13 {t : Nu} {n q : Nat} (h : isWd t n q wMinutes = true) : ¬ isWd t n q wWind = true := fun z => absurd (wd_len h z) (by decide)
theorem wd_23 {t : Nu} {n q : Nat} (h : isWd t n q wKind = true) : ¬ isWd t n q wWind = true := fun z => by
  have e1 := (wdB_iff _ _ _).mp (isWd_i.mp h).2.2 0 (by decide)
  have e2 := (wdB_iff _ _ _).mp (isWd_i.mp z).2.2 0 (by decide)
  rw [e1] at e2
  exact absurd e2 (by decide)
section SGL
variable {t : Nu} {n q : Nat} {E : Option (Nat → PR)}
theorem sgl_num (h : isNum t n q = true) : sglP t n E q = pOk (enS t n q) [numS t n q] := if_pos h
theorem sgl_name {i : Nat} (h : ¬ isNum t n q = true) (h2 : nameS t n q = some i) : sglP t n E q = pOk (enS t n q) [10000 + nI i] := by
  unfold sglP; rw [if_neg h, h2]
theorem sgl_no (h : ¬ isNum t n q = true) (h2 : nameS t n q = none) (h3 : ¬ sg t n q = 40) : sglP t n E q = pNo q := by
  unfold sglP; rw [if_neg h, h2]; exact if_neg h3
theorem sgl_E0 (h : ¬ isNum t n q = true) (h2 : nameS t n q = none) (h3 : sg t n q = 40) (hE : E = none) : sglP t n E q = pNo q := by
  subst hE
  unfold sglP; rw [if_neg h, h2]; exact if_pos h3
theorem sgl_E1 {e : Nat → PR} (h : ¬ isNum t n q = true) (h2 : nameS t n q = none) (h3 : sg t n q = 40) (hE : E = some e) : sglP t n E q = parP t n e q := by
  subst hE
  unfold sglP; rw [if_neg h, h2]; exact if_pos h3
end SGL
theorem lp_part_num {μ : Mx} {ω : Om} {d : Nat} {D : Nat} (hd : D + 8 ≤ d) (C : Cx μ ω "TowFieldModel" cX12_part 4 d) (hr : (mH μ).sig.returnType = none) (σ : Sg) {n : Nat} (hn : σ 135 6 = nI n) (hn1 : n ≤ 100) (o : Nat) (ho : o ≤ 6) {q : Nat} (hq : q ≤ n) {s : List Int32} (hs : s.length ≤ q) (hN : isNum (σ 140) n q = true) {E : Option (Nat → PR)} (hE0 : E = none → o = 6) (hE : ∀ e, E = some e → o < 6 ∧ GoodP n e ∧ ∀ d' q s, D ≤ d' → q ≤ n → s.length ≤ q → CQ d' mX12_either [.ref 135] (mst σ n 0 (o + 1) q s) (RSm σ n (o + 1) s (e q))) {nm : Int32} : ∀ (f i : Nat) (v : Int32), i + f = enS (σ 140) n q → (v = numL (σ 140) (stS (σ 140) n q) (i - stS (σ 140) n q)) → (stS (σ 140) n q ≤ i) → G μ ω (RQ μ ω (pQ (RSm σ n o s (sglP (σ 140) n E q)))) 73 [some (.ref 135), some (.int nm), some (.int v), some (.int (nI i))] [] (mk ((mst σ n 0 o q s))) 0 0 := by
  intro f
  induction f with
  | zero =>
    intro i v hif hv hv1
    have hin : i = enS (σ 140) n q := by omega
    have he1 := enS_le (t := σ 140) hq
    have hs1 := stS_le (t := σ 140) hq
    have hlen : nI (enS (σ 140) n q) - nI (stS (σ 140) n q) = nI (enS (σ 140) n q - stS (σ 140) n q) := nI_sub he1.1
    have hv2 : v = numS (σ 140) n q := by rw [hv, hin]; rfl
    refine g_il3n (pc := 73) C dX12_part_73 ?_
    refine g_al0n (pc := 74) C dX12_part_74 ?_
    refine s_getIv (pc := 75) (v := nI ((enS (σ 140) n q))) C fX12_226 h135 rfl rfl dX12_part_75 ?_
    refine g_icmp_geL (pc := 78) (tgt := 102) C dX12_part_78 (by decide) (fun c_78 => ?_) (fun c_78 => absurd c_78 (nI_nlt (by omega) (by omega)))
    refine g_al0n (pc := 102) C dX12_part_102 ?_
    refine g_il2n (pc := 103) C dX12_part_103 ?_
    refine s_VU (pc := 104) (st := []) C h135 rfl (c_emit0 (d := d - 1) (by omega) σ n o q s (by omega) v) (by omega) lX12_265 dX12_part_104 rfl (Nat.le_of_ble_eq_true rfl) rfl ?_
    refine g_al0n (pc := 107) C dX12_part_107 ?_
    refine g_iconst (pc := 108) (v := 1) C dX12_part_108 (by decide) ?_
    refine s_VQ (pc := 109) (st := []) C h135 rfl (c_need1 (d := d - 1) (by omega) σ hn hn1 o (q := q) (by omega) (s ++ [v])) (by omega) lX12_261 dX12_part_109 rfl (Nat.le_of_ble_eq_true rfl) rfl (fun τ hτ => ?_)
    subst hτ
    refine g_goto (pc := 112) (tgt := 204) C dX12_part_112 (by decide) ?_
    rw [sgl_num hN]
    exact r_Q C hr dX12_part_204 (by rw [← hv2]; rfl)
  | succ f ih =>
    intro i v hif hv hv1
    have he1 := enS_le (t := σ 140) hq
    have hs1 := stS_le (t := σ 140) hq
    have hlen : nI (enS (σ 140) n q) - nI (stS (σ 140) n q) = nI (enS (σ 140) n q - stS (σ 140) n q) := nI_sub he1.1
    refine g_il3n (pc := 73) C dX12_part_73 ?_
    refine g_al0n (pc := 74) C dX12_part_74 ?_
    refine s_getIv (pc := 75) (v := nI ((enS (σ 140) n q))) C fX12_226 h135 rfl rfl dX12_part_75 ?_
    refine g_icmp_geL (pc := 78) (tgt := 102) C dX12_part_78 (by decide) (fun c_78 => absurd (nI_lt (by omega) (by omega)) c_78) (fun c_78 => ?_)
    refine g_bipush (pc := 81) (v := 10) C dX12_part_81 (by decide) ?_
    refine g_il2n (pc := 83) C dX12_part_83 ?_
    refine g_imul (pc := 84) C dX12_part_84 ?_
    refine g_al0n (pc := 85) C dX12_part_85 ?_
    refine s_getR (pc := 86) C fX12_22 h135 rfl dX12_part_86 ?_
    refine g_il3n (pc := 89) C dX12_part_89 ?_
    refine s_ialdv (pc := 90) (q := i) (v := σ 140 i) C h140 rfl (by omega) (Nat.le_of_ble_eq_true rfl) rfl dX12_part_90 ?_
    refine g_iadd (pc := 91) C dX12_part_91 ?_
    refine g_bipush (pc := 92) (v := 48) C dX12_part_92 (by decide) ?_
    refine g_isub (pc := 94) C dX12_part_94 ?_
    refine g_is2n (pc := 95) C dX12_part_95 ?_
    refine g_ii3 (pc := 96) (v := nI (i + 1)) C dX12_part_96 (nI_inc1 _) ?_
    refine g_goto (pc := 99) (tgt := 73) C dX12_part_99 (by decide) ?_
    exact ih (i + 1) _ (by omega) (by rw [show i + 1 - stS (σ 140) n q = i - stS (σ 140) n q + 1 by omega, hv]; show _ = 10 * numL (σ 140) (stS (σ 140) n q) (i - stS (σ 140) n q) + σ 140 (stS (σ 140) n q + (i - stS (σ 140) n q)) - 48; rw [show stS (σ 140) n q + (i - stS (σ 140) n q) = i by omega]) (by omega)

theorem y_part_115 {μ : Mx} {ω : Om} {d : Nat} {D : Nat} (hd : D + 8 ≤ d) (C : Cx μ ω "TowFieldModel" cX12_part 4 d) (hr : (mH μ).sig.returnType = none) (σ : Sg) {n : Nat} (hn : σ 135 6 = nI n) (hn1 : n ≤ 100) (o : Nat) (ho : o ≤ 6) {q : Nat} (hq : q ≤ n) {s : List Int32} (hs : s.length ≤ q) (hN : ¬ isNum (σ 140) n q = true) {E : Option (Nat → PR)} (hE0 : E = none → o = 6) (hE : ∀ e, E = some e → o < 6 ∧ GoodP n e ∧ ∀ d' q s, D ≤ d' → q ≤ n → s.length ≤ q → CQ d' mX12_either [.ref 135] (mst σ n 0 (o + 1) q s) (RSm σ n (o + 1) s (e q))) {nm : Option Nat} (hnm : nameS (σ 140) n q = nm) (l2 l3 : Option Value) : G μ ω (RQ μ ω (pQ (RSm σ n o s (sglP (σ 140) n E q)))) 115 [some (.ref 135), some (.int (o2i nm)), l2, l3] [] (mk ((mst σ n 0 o q s))) 0 0 := by
  have he1 := enS_le (t := σ 140) hq
  have hs1 := stS_le (t := σ 140) hq
  have hlen : nI (enS (σ 140) n q) - nI (stS (σ 140) n q) = nI (enS (σ 140) n q - stS (σ 140) n q) := nI_sub he1.1
  refine g_il1n (pc := 115) C dX12_part_115 ?_
  refine g_if_lt (pc := 116) (tgt := 136) C dX12_part_116 (by decide) (fun c_116 => ?_) (fun c_116 => ?_)
  · have hnm0 : nm = none := (o2i_neg (fun k e => by have := (name_sort (hnm.trans e)).2; omega)).mp c_116
    refine g_al0n (pc := 136) C dX12_part_136 ?_
    refine g_al0n (pc := 137) C dX12_part_137 ?_
    refine g_bipush (pc := 138) (v := 40) C dX12_part_138 (by decide) ?_
    refine s_VB (pc := 140) (st := [(.ref 135)]) C h135 rfl (c_isSign0 (d := d - 1) (by omega) σ hn hn1 o (q := q) (by omega) s (c := 40) (by decide)) (by omega) lX12_258 dX12_part_140 rfl (Nat.le_of_ble_eq_true rfl) rfl (fun b_140 => ?_) (fun b_140 => ?_)
    · refine g_if_eq (pc := 143) (tgt := 159) C dX12_part_143 (by decide) (fun c => absurd c (by decide)) (fun _ => ?_)
      obtain hEe | ⟨e, hEe⟩ : E = none ∨ ∃ e, E = some e := by cases E with | none => exact Or.inl rfl | some e => exact Or.inr ⟨e, rfl⟩
      · have ho6 := hE0 hEe
        refine g_al0n (pc := 146) C dX12_part_146 ?_
        refine s_getIv (pc := 147) (v := nI o) C fX12_271 h135 rfl rfl dX12_part_147 ?_
        refine g_bipush (pc := 150) (v := 6) C dX12_part_150 (by decide) ?_
        refine g_icmp_geL (pc := 152) (tgt := 159) C dX12_part_152 (by decide) (fun c_152 => ?_) (fun c_152 => absurd c_152 (by rw [ho6]; decide))
        refine g_iconst (pc := 159) (v := 0) C dX12_part_159 (by decide) ?_
        refine s_VU (pc := 160) (st := []) C h135 rfl (c_need0 (d := d - 1) (by omega) σ n o q s) (by omega) lX12_261 dX12_part_160 rfl (Nat.le_of_ble_eq_true rfl) rfl ?_
        refine g_al0n (pc := 163) C dX12_part_163 ?_
        refine g_dup (pc := 164) C dX12_part_164 rfl ?_
        refine s_getIv (pc := 165) (v := nI o) C fX12_271 h135 rfl rfl dX12_part_165 ?_
        refine g_iconst (pc := 168) (v := 1) C dX12_part_168 (by decide) ?_
        refine g_iadd (pc := 169) C dX12_part_169 ?_
        refine s_putIv (pc := 170) (σ' := (mst σ n 1 (o + 1) q s)) C pX12_271 h135 rfl (mst_o (by first | rfl | exact nI_1 _)) dX12_part_170 ?_
        refine g_al0n (pc := 173) C dX12_part_173 ?_
        refine s_getIv (pc := 174) (v := 1) C fX12_238 h135 rfl rfl dX12_part_174 ?_
        refine g_if_ne (pc := 177) (tgt := 184) C dX12_part_177 (by decide) (fun _ => ?_) (fun c => absurd c (by decide))
        refine g_al0n (pc := 184) C dX12_part_184 ?_
        refine g_al0n (pc := 185) C dX12_part_185 ?_
        refine g_bipush (pc := 186) (v := 41) C dX12_part_186 (by decide) ?_
        refine s_VB (pc := 188) (st := [(.ref 135)]) C h135 rfl (c_isSign1 (d := d - 1) (by omega) σ n (o + 1) q s 41) (by omega) lX12_258 dX12_part_188 rfl (Nat.le_of_ble_eq_true rfl) rfl (fun bw_188 => bw_188.elim) (fun bw_188 => ?_)
        refine s_VU (pc := 191) (st := []) C h135 rfl (c_needW0 (d := d - 1) (by omega) σ n (o + 1) q s) (by omega) lX12_261 dX12_part_191 rfl (Nat.le_of_ble_eq_true rfl) rfl ?_
        refine g_al0n (pc := 194) C dX12_part_194 ?_
        refine g_dup (pc := 195) C dX12_part_195 rfl ?_
        refine s_getIv (pc := 196) (v := nI (o + 1)) C fX12_271 h135 rfl rfl dX12_part_196 ?_
        refine g_iconst (pc := 199) (v := 1) C dX12_part_199 (by decide) ?_
        refine g_isub (pc := 200) C dX12_part_200 ?_
        refine s_putIv (pc := 201) (σ' := (mst σ n 1 o q s)) C pX12_271 h135 rfl (mst_o (nI_pred _)) dX12_part_201 ?_
        rw [sgl_E0 hN (hnm.trans hnm0) b_140 hEe]
        exact r_Q C hr dX12_part_204 ⟨_, rfl⟩
      · have ho6 := (hE e hEe).1
        have hG := (hE e hEe).2.1
        refine g_al0n (pc := 146) C dX12_part_146 ?_
        refine s_getIv (pc := 147) (v := nI o) C fX12_271 h135 rfl rfl dX12_part_147 ?_
        refine g_bipush (pc := 150) (v := 6) C dX12_part_150 (by decide) ?_
        refine g_icmp_geL (pc := 152) (tgt := 159) C dX12_part_152 (by decide) (fun c_152 => absurd (nI_lt (b := 6) ho6 (by decide)) c_152) (fun c_152 => ?_)
        refine g_iconst (pc := 155) (v := 1) C dX12_part_155 (by decide) ?_
        refine g_goto (pc := 156) (tgt := 160) C dX12_part_156 (by decide) ?_
        refine s_VQ (pc := 160) (st := []) C h135 rfl (c_need1 (d := d - 1) (by omega) σ hn hn1 o (q := q) (by omega) s) (by omega) lX12_261 dX12_part_160 rfl (Nat.le_of_ble_eq_true rfl) rfl (fun τ hτ => ?_)
        subst hτ
        refine g_al0n (pc := 163) C dX12_part_163 ?_
        refine g_dup (pc := 164) C dX12_part_164 rfl ?_
        refine s_getIv (pc := 165) (v := nI o) C fX12_271 h135 rfl rfl dX12_part_165 ?_
        refine g_iconst (pc := 168) (v := 1) C dX12_part_168 (by decide) ?_
        refine g_iadd (pc := 169) C dX12_part_169 ?_
        refine s_putIv (pc := 170) (σ' := (mst σ n 0 (o + 1) (enS (σ 140) n q) s)) C pX12_271 h135 rfl (mst_o (by first | rfl | exact nI_1 _)) dX12_part_170 ?_
        refine g_al0n (pc := 173) C dX12_part_173 ?_
        refine s_getIv (pc := 174) (v := 0) C fX12_238 h135 rfl rfl dX12_part_174 ?_
        refine g_if_ne (pc := 177) (tgt := 184) C dX12_part_177 (by decide) (fun c => absurd c (by decide)) (fun _ => ?_)
        refine g_al0n (pc := 180) C dX12_part_180 ?_
        refine s_VQ (pc := 181) (st := []) C h135 rfl ((hE e hEe).2.2 (d - 1) (enS (σ 140) n q) s (by omega) he1.2.1 (by omega)) (by omega) lX12_287 dX12_part_181 rfl (Nat.le_of_ble_eq_true rfl) rfl (fun τ hτ => ?_)
        rcases hr2 : e (enS (σ 140) n q) with ⟨q', s'⟩ | q'
        · have hτ2 : τ = mst σ n 0 (o + 1) q' (s ++ s') := by have z := hτ; rw [hr2] at z; exact z
          have hg := hG (enS (σ 140) n q) he1.2.1
          rw [hr2] at hg
          obtain ⟨g1, g2, g3⟩ := hg
          have g4 := g3.2.1
          subst hτ2
          refine g_al0n (pc := 184) C dX12_part_184 ?_
          refine g_al0n (pc := 185) C dX12_part_185 ?_
          refine g_bipush (pc := 186) (v := 41) C dX12_part_186 (by decide) ?_
          refine s_VB (pc := 188) (st := [(.ref 135)]) C h135 rfl (c_isSign0 (d := d - 1) (by omega) σ hn hn1 (o + 1) (q := q') g2 (s ++ s') (c := 41) (by decide)) (by omega) lX12_258 dX12_part_188 rfl (Nat.le_of_ble_eq_true rfl) rfl (fun b_188 => ?_) (fun b_188 => ?_)
          · refine s_VQ (pc := 191) (st := []) C h135 rfl (c_need1 (d := d - 1) (by omega) σ hn hn1 (o + 1) (q := q') g2 (s ++ s')) (by omega) lX12_261 dX12_part_191 rfl (Nat.le_of_ble_eq_true rfl) rfl (fun τ hτ => ?_)
            subst hτ
            refine g_al0n (pc := 194) C dX12_part_194 ?_
            refine g_dup (pc := 195) C dX12_part_195 rfl ?_
            refine s_getIv (pc := 196) (v := nI (o + 1)) C fX12_271 h135 rfl rfl dX12_part_196 ?_
            refine g_iconst (pc := 199) (v := 1) C dX12_part_199 (by decide) ?_
            refine g_isub (pc := 200) C dX12_part_200 ?_
            refine s_putIv (pc := 201) (σ' := (mst σ n 0 o (enS (σ 140) n q') (s ++ s'))) C pX12_271 h135 rfl (mst_o (nI_pred _)) dX12_part_201 ?_
            have ef : sglP (σ 140) n E q = pOk (enS (σ 140) n q') s' := by
              rw [sgl_E1 hN (hnm.trans hnm0) b_140 hEe]
              unfold parP
              rw [hr2]
              exact if_pos b_188
            rw [ef]
            exact r_Q C hr dX12_part_204 rfl
          · refine s_VU (pc := 191) (st := []) C h135 rfl (c_need0 (d := d - 1) (by omega) σ n (o + 1) q' (s ++ s')) (by omega) lX12_261 dX12_part_191 rfl (Nat.le_of_ble_eq_true rfl) rfl ?_
            refine g_al0n (pc := 194) C dX12_part_194 ?_
            refine g_dup (pc := 195) C dX12_part_195 rfl ?_
            refine s_getIv (pc := 196) (v := nI (o + 1)) C fX12_271 h135 rfl rfl dX12_part_196 ?_
            refine g_iconst (pc := 199) (v := 1) C dX12_part_199 (by decide) ?_
            refine g_isub (pc := 200) C dX12_part_200 ?_
            refine s_putIv (pc := 201) (σ' := (mst σ n 1 o q' (s ++ s'))) C pX12_271 h135 rfl (mst_o (nI_pred _)) dX12_part_201 ?_
            have ef : sglP (σ 140) n E q = pNo q' := by
              rw [sgl_E1 hN (hnm.trans hnm0) b_140 hEe]
              unfold parP
              rw [hr2]
              exact if_neg b_188
            rw [ef]
            exact r_Q C hr dX12_part_204 ⟨_, rfl⟩
        · obtain ⟨s', hτ2⟩ : ∃ s', τ = mst σ n 1 (o + 1) q' s' := by have z := hτ; rw [hr2] at z; exact z
          subst hτ2
          refine g_al0n (pc := 184) C dX12_part_184 ?_
          refine g_al0n (pc := 185) C dX12_part_185 ?_
          refine g_bipush (pc := 186) (v := 41) C dX12_part_186 (by decide) ?_
          refine s_VB (pc := 188) (st := [(.ref 135)]) C h135 rfl (c_isSign1 (d := d - 1) (by omega) σ n (o + 1) q' s' 41) (by omega) lX12_258 dX12_part_188 rfl (Nat.le_of_ble_eq_true rfl) rfl (fun bw_188 => bw_188.elim) (fun bw_188 => ?_)
          refine s_VU (pc := 191) (st := []) C h135 rfl (c_needW0 (d := d - 1) (by omega) σ n (o + 1) q' s') (by omega) lX12_261 dX12_part_191 rfl (Nat.le_of_ble_eq_true rfl) rfl ?_
          refine g_al0n (pc := 194) C dX12_part_194 ?_
          refine g_dup (pc := 195) C dX12_part_195 rfl ?_
          refine s_getIv (pc := 196) (v := nI (o + 1)) C fX12_271 h135 rfl rfl dX12_part_196 ?_
          refine g_iconst (pc := 199) (v := 1) C dX12_part_199 (by decide) ?_
          refine g_isub (pc := 200) C dX12_part_200 ?_
          refine s_putIv (pc := 201) (σ' := (mst σ n 1 o q' s')) C pX12_271 h135 rfl (mst_o (nI_pred _)) dX12_part_201 ?_
          have ef : sglP (σ 140) n E q = pNo q' := by
            rw [sgl_E1 hN (hnm.trans hnm0) b_140 hEe]
            unfold parP
            rw [hr2]
            rfl
          rw [ef]
          exact r_Q C hr dX12_part_204 ⟨_, rfl⟩
    · refine g_if_eq (pc := 143) (tgt := 159) C dX12_part_143 (by decide) (fun _ => ?_) (fun c => absurd c (by decide))
      refine g_iconst (pc := 159) (v := 0) C dX12_part_159 (by decide) ?_
      refine s_VU (pc := 160) (st := []) C h135 rfl (c_need0 (d := d - 1) (by omega) σ n o q s) (by omega) lX12_261 dX12_part_160 rfl (Nat.le_of_ble_eq_true rfl) rfl ?_
      refine g_al0n (pc := 163) C dX12_part_163 ?_
      refine g_dup (pc := 164) C dX12_part_164 rfl ?_
      refine s_getIv (pc := 165) (v := nI o) C fX12_271 h135 rfl rfl dX12_part_165 ?_
      refine g_iconst (pc := 168) (v := 1) C dX12_part_168 (by decide) ?_
      refine g_iadd (pc := 169) C dX12_part_169 ?_
      refine s_putIv (pc := 170) (σ' := (mst σ n 1 (o + 1) q s)) C pX12_271 h135 rfl (mst_o (by first | rfl | exact nI_1 _)) dX12_part_170 ?_
      refine g_al0n (pc := 173) C dX12_part_173 ?_
      refine s_getIv (pc := 174) (v := 1) C fX12_238 h135 rfl rfl dX12_part_174 ?_
      refine g_if_ne (pc := 177) (tgt := 184) C dX12_part_177 (by decide) (fun _ => ?_) (fun c => absurd c (by decide))
      refine g_al0n (pc := 184) C dX12_part_184 ?_
      refine g_al0n (pc := 185) C dX12_part_185 ?_
      refine g_bipush (pc := 186) (v := 41) C dX12_part_186 (by decide) ?_
      refine s_VB (pc := 188) (st := [(.ref 135)]) C h135 rfl (c_isSign1 (d := d - 1) (by omega) σ n (o + 1) q s 41) (by omega) lX12_258 dX12_part_188 rfl (Nat.le_of_ble_eq_true rfl) rfl (fun bw_188 => bw_188.elim) (fun bw_188 => ?_)
      refine s_VU (pc := 191) (st := []) C h135 rfl (c_needW0 (d := d - 1) (by omega) σ n (o + 1) q s) (by omega) lX12_261 dX12_part_191 rfl (Nat.le_of_ble_eq_true rfl) rfl ?_
      refine g_al0n (pc := 194) C dX12_part_194 ?_
      refine g_dup (pc := 195) C dX12_part_195 rfl ?_
      refine s_getIv (pc := 196) (v := nI (o + 1)) C fX12_271 h135 rfl rfl dX12_part_196 ?_
      refine g_iconst (pc := 199) (v := 1) C dX12_part_199 (by decide) ?_
      refine g_isub (pc := 200) C dX12_part_200 ?_
      refine s_putIv (pc := 201) (σ' := (mst σ n 1 o q s)) C pX12_271 h135 rfl (mst_o (nI_pred _)) dX12_part_201 ?_
      rw [sgl_no hN (hnm.trans hnm0) b_140]
      exact r_Q C hr dX12_part_204 ⟨_, rfl⟩
  · have hnmS : ∃ i, nm = some i := by
      cases nm with
      | none => exact absurd (by decide) c_116
      | some i => exact ⟨i, rfl⟩
    refine g_al0n (pc := 119) C dX12_part_119 ?_
    refine g_sipush (pc := 120) (v := 10000) C dX12_part_120 (by decide) ?_
    refine g_il1n (pc := 123) C dX12_part_123 ?_
    refine g_iadd (pc := 124) C dX12_part_124 ?_
    refine s_VU (pc := 125) (st := []) C h135 rfl (c_emit0 (d := d - 1) (by omega) σ n o q s (by omega) (10000 + (o2i nm))) (by omega) lX12_265 dX12_part_125 rfl (Nat.le_of_ble_eq_true rfl) rfl ?_
    refine g_al0n (pc := 128) C dX12_part_128 ?_
    refine g_iconst (pc := 129) (v := 1) C dX12_part_129 (by decide) ?_
    refine s_VQ (pc := 130) (st := []) C h135 rfl (c_need1 (d := d - 1) (by omega) σ hn hn1 o (q := q) (by omega) (s ++ [10000 + (o2i nm)])) (by omega) lX12_261 dX12_part_130 rfl (Nat.le_of_ble_eq_true rfl) rfl (fun τ hτ => ?_)
    subst hτ
    refine g_goto (pc := 133) (tgt := 204) C dX12_part_133 (by decide) ?_
    obtain ⟨i, hi⟩ := hnmS
    rw [sgl_name hN (hnm.trans hi)]
    exact r_Q C hr dX12_part_204 (by rw [hi]; rfl)

theorem y_part_38 {μ : Mx} {ω : Om} {d : Nat} {D : Nat} (hd : D + 8 ≤ d) (C : Cx μ ω "TowFieldModel" cX12_part 4 d) (hr : (mH μ).sig.returnType = none) (σ : Sg) {n : Nat} (hn : σ 135 6 = nI n) (hn1 : n ≤ 100) (o : Nat) (ho : o ≤ 6) {q : Nat} (hq : q ≤ n) {s : List Int32} (hs : s.length ≤ q) {E : Option (Nat → PR)} (hE0 : E = none → o = 6) (hE : ∀ e, E = some e → o < 6 ∧ GoodP n e ∧ ∀ d' q s, D ≤ d' → q ≤ n → s.length ≤ q → CQ d' mX12_either [.ref 135] (mst σ n 0 (o + 1) q s) (RSm σ n (o + 1) s (e q))) {nm : Option Nat} (hnm : nameS (σ 140) n q = nm) (l2 : Option Value) : G μ ω (RQ μ ω (pQ (RSm σ n o s (sglP (σ 140) n E q)))) 38 [some (.ref 135), some (.int (o2i nm)), l2, none] [] (mk ((mst σ n 0 o q s))) 0 0 := by
  have he1 := enS_le (t := σ 140) hq
  have hs1 := stS_le (t := σ 140) hq
  have hlen : nI (enS (σ 140) n q) - nI (stS (σ 140) n q) = nI (enS (σ 140) n q - stS (σ 140) n q) := nI_sub he1.1
  refine g_al0n (pc := 38) C dX12_part_38 ?_
  refine s_getIv (pc := 39) (v := 0) C fX12_238 h135 rfl rfl dX12_part_39 ?_
  refine g_if_ne (pc := 42) (tgt := 115) C dX12_part_42 (by decide) (fun c => absurd c (by decide)) (fun _ => ?_)
  refine g_al0n (pc := 45) C dX12_part_45 ?_
  refine s_getIv (pc := 46) (v := sortS (σ 140) n q) C fX12_232 h135 rfl rfl dX12_part_46 ?_
  refine g_iconst (pc := 49) (v := 2) C dX12_part_49 (by decide) ?_
  refine g_icmp_ne (pc := 50) (tgt := 115) C dX12_part_50 (by decide) (fun c_50 => ?_) (fun c_50 => ?_)
  · have hN : ¬ isNum (σ 140) n q = true := fun z => c_50 (isNum_i.mp z).1
    exact y_part_115 hd C hr σ hn hn1 o ho hq hs hN hE0 hE hnm _ _
  · refine g_al0n (pc := 53) C dX12_part_53 ?_
    refine s_getIv (pc := 54) (v := nI ((enS (σ 140) n q))) C fX12_226 h135 rfl rfl dX12_part_54 ?_
    refine g_al0n (pc := 57) C dX12_part_57 ?_
    refine s_getIv (pc := 58) (v := nI ((stS (σ 140) n q))) C fX12_229 h135 rfl rfl dX12_part_58 ?_
    refine g_isub (pc := 61) C dX12_part_61 ?_
    refine g_iconst (pc := 62) (v := 4) C dX12_part_62 (by decide) ?_
    refine g_icmp_gt (pc := 63) (tgt := 115) C dX12_part_63 (by decide) (fun c_63 => ?_) (fun c_63 => ?_)
    · have hN : ¬ isNum (σ 140) n q = true := fun z => by rw [hlen] at c_63; have := (nI_ltI (a := 4) (by decide) (by omega)).mp c_63; have := (isNum_i.mp z).2; omega
      exact y_part_115 hd C hr σ hn hn1 o ho hq hs hN hE0 hE hnm _ _
    · refine g_iconst (pc := 66) (v := 0) C dX12_part_66 (by decide) ?_
      refine g_is2n (pc := 67) C dX12_part_67 ?_
      refine g_al0n (pc := 68) C dX12_part_68 ?_
      refine s_getIv (pc := 69) (v := nI ((stS (σ 140) n q))) C fX12_229 h135 rfl rfl dX12_part_69 ?_
      refine g_is3n (pc := 72) C dX12_part_72 ?_
      exact lp_part_num hd C hr σ hn hn1 o ho hq hs (isNum_i.mpr ⟨c_50, by rw [hlen] at c_63; have := Int32.not_lt.mp c_63; exact (nI_leI (by omega) (by decide)).mp this⟩) hE0 hE (enS (σ 140) n q - stS (σ 140) n q) (stS (σ 140) n q) _ (by omega) (by rw [Nat.sub_self]; rfl) (Nat.le_refl _)

theorem c_part {d : Nat} {D : Nat} (hd : D + 8 ≤ d) (σ : Sg) {n : Nat} (hn : σ 135 6 = nI n) (hn1 : n ≤ 100) (o : Nat) (ho : o ≤ 6) {q : Nat} (hq : q ≤ n) {s : List Int32} (hs : s.length ≤ q) {E : Option (Nat → PR)} (hE0 : E = none → o = 6) (hE : ∀ e, E = some e → o < 6 ∧ GoodP n e ∧ ∀ d' q s, D ≤ d' → q ≤ n → s.length ≤ q → CQ d' mX12_either [.ref 135] (mst σ n 0 (o + 1) q s) (RSm σ n (o + 1) s (e q))) : CQ d mX12_part [.ref 135] ((mst σ n 0 o q s)) (RSm σ n o s (sglP (σ 140) n E q)) := by
  refine con_of (by decide) (catL rfl) (Nat.le_of_ble_eq_true rfl) ?_
  intro μ ω C hr
  have C : Cx μ ω "TowFieldModel" cX12_part 4 d := C
  have hr : (mH μ).sig.returnType = none := hr
  show G μ ω (RQ μ ω (pQ (RSm σ n o s (sglP (σ 140) n E q)))) 0 [some (.ref 135), none, none, none] [] (mk ((mst σ n 0 o q s))) 0 0
  refine g_iconst (pc := 0) (v := (-1)) C dX12_part_0 (by decide) ?_
  refine g_is1n (pc := 1) C dX12_part_1 ?_
  refine g_iconst (pc := 2) (v := 0) C dX12_part_2 (by decide) ?_
  refine g_is2n (pc := 3) C dX12_part_3 ?_
  refine g_il2n (pc := 4) C dX12_part_4 ?_
  refine g_al0n (pc := 5) C dX12_part_5 ?_
  refine s_getR (pc := 6) C fX12_35 h135 rfl dX12_part_6 ?_
  refine s_alenR (pc := 9) C h141 (by decide) dX12_part_9 ?_
  refine g_icmp_geL (pc := 10) (tgt := 38) C dX12_part_10 (by decide) (fun c_10 => absurd (by decide) c_10) (fun c_10 => ?_)
  refine g_al0n (pc := 13) C dX12_part_13 ?_
  refine g_al0n (pc := 14) C dX12_part_14 ?_
  refine s_getR (pc := 15) C fX12_35 h135 rfl dX12_part_15 ?_
  refine g_il2n (pc := 18) C dX12_part_18 ?_
  refine s_aald (pc := 19) (q := 0) C h141 (by decide) rfl rfl (by decide) dX12_part_19 ?_
  refine s_VB (pc := 20) (st := []) C h135 rfl (c_isWord0 (d := d - 1) (by omega) σ hn hn1 o (q := q) hq s (j := 5) rfl) (by omega) lX12_283 dX12_part_20 rfl (Nat.le_of_ble_eq_true rfl) rfl (fun b_20 => ?_) (fun b_20 => ?_)
  · refine g_if_eq (pc := 23) (tgt := 30) C dX12_part_23 (by decide) (fun c => absurd c (by decide)) (fun _ => ?_)
    refine g_il2n (pc := 26) C dX12_part_26 ?_
    refine g_goto (pc := 27) (tgt := 31) C dX12_part_27 (by decide) ?_
    refine g_is1n (pc := 31) C dX12_part_31 ?_
    refine g_ii2 (pc := 32) (v := 1) C dX12_part_32 (by decide) ?_
    refine g_goto (pc := 35) (tgt := 4) C dX12_part_35 (by decide) ?_
    refine g_il2n (pc := 4) C dX12_part_4 ?_
    refine g_al0n (pc := 5) C dX12_part_5 ?_
    refine s_getR (pc := 6) C fX12_35 h135 rfl dX12_part_6 ?_
    refine s_alenR (pc := 9) C h141 (by decide) dX12_part_9 ?_
    refine g_icmp_geL (pc := 10) (tgt := 38) C dX12_part_10 (by decide) (fun c_10_2 => absurd (by decide) c_10_2) (fun c_10_2 => ?_)
    refine g_al0n (pc := 13) C dX12_part_13 ?_
    refine g_al0n (pc := 14) C dX12_part_14 ?_
    refine s_getR (pc := 15) C fX12_35 h135 rfl dX12_part_15 ?_
    refine g_il2n (pc := 18) C dX12_part_18 ?_
    refine s_aald (pc := 19) (q := 1) C h141 (by decide) rfl rfl (by decide) dX12_part_19 ?_
    refine s_VB (pc := 20) (st := []) C h135 rfl (c_isWord0 (d := d - 1) (by omega) σ hn hn1 o (q := q) hq s (j := 6) rfl) (by omega) lX12_283 dX12_part_20 rfl (Nat.le_of_ble_eq_true rfl) rfl (fun b_20_2 => absurd b_20_2 (wd_01 b_20)) (fun b_20_2 => ?_)
    refine g_if_eq (pc := 23) (tgt := 30) C dX12_part_23 (by decide) (fun _ => ?_) (fun c => absurd c (by decide))
    refine g_il1n (pc := 30) C dX12_part_30 ?_
    refine g_is1n (pc := 31) C dX12_part_31 ?_
    refine g_ii2 (pc := 32) (v := 2) C dX12_part_32 (by decide) ?_
    refine g_goto (pc := 35) (tgt := 4) C dX12_part_35 (by decide) ?_
    refine g_il2n (pc := 4) C dX12_part_4 ?_
    refine g_al0n (pc := 5) C dX12_part_5 ?_
    refine s_getR (pc := 6) C fX12_35 h135 rfl dX12_part_6 ?_
    refine s_alenR (pc := 9) C h141 (by decide) dX12_part_9 ?_
    refine g_icmp_geL (pc := 10) (tgt := 38) C dX12_part_10 (by decide) (fun c_10_3 => absurd (by decide) c_10_3) (fun c_10_3 => ?_)
    refine g_al0n (pc := 13) C dX12_part_13 ?_
    refine g_al0n (pc := 14) C dX12_part_14 ?_
    refine s_getR (pc := 15) C fX12_35 h135 rfl dX12_part_15 ?_
    refine g_il2n (pc := 18) C dX12_part_18 ?_
    refine s_aald (pc := 19) (q := 2) C h141 (by decide) rfl rfl (by decide) dX12_part_19 ?_
    refine s_VB (pc := 20) (st := []) C h135 rfl (c_isWord0 (d := d - 1) (by omega) σ hn hn1 o (q := q) hq s (j := 7) rfl) (by omega) lX12_283 dX12_part_20 rfl (Nat.le_of_ble_eq_true rfl) rfl (fun b_20_3 => absurd b_20_3 (wd_02 b_20)) (fun b_20_3 => ?_)
    refine g_if_eq (pc := 23) (tgt := 30) C dX12_part_23 (by decide) (fun _ => ?_) (fun c => absurd c (by decide))
    refine g_il1n (pc := 30) C dX12_part_30 ?_
    refine g_is1n (pc := 31) C dX12_part_31 ?_
    refine g_ii2 (pc := 32) (v := 3) C dX12_part_32 (by decide) ?_
    refine g_goto (pc := 35) (tgt := 4) C dX12_part_35 (by decide) ?_
    refine g_il2n (pc := 4) C dX12_part_4 ?_
    refine g_al0n (pc := 5) C dX12_part_5 ?_
    refine s_getR (pc := 6) C fX12_35 h135 rfl dX12_part_6 ?_
    refine s_alenR (pc := 9) C h141 (by decide) dX12_part_9 ?_
    refine g_icmp_geL (pc := 10) (tgt := 38) C dX12_part_10 (by decide) (fun c_10_4 => absurd (by decide) c_10_4) (fun c_10_4 => ?_)
    refine g_al0n (pc := 13) C dX12_part_13 ?_
    refine g_al0n (pc := 14) C dX12_part_14 ?_
    refine s_getR (pc := 15) C fX12_35 h135 rfl dX12_part_15 ?_
    refine g_il2n (pc := 18) C dX12_part_18 ?_
    refine s_aald (pc := 19) (q := 3) C h141 (by decide) rfl rfl (by decide) dX12_part_19 ?_
    refine s_VB (pc := 20) (st := []) C h135 rfl (c_isWord0 (d := d - 1) (by omega) σ hn hn1 o (q := q) hq s (j := 8) rfl) (by omega) lX12_283 dX12_part_20 rfl (Nat.le_of_ble_eq_true rfl) rfl (fun b_20_4 => absurd b_20_4 (wd_03 b_20)) (fun b_20_4 => ?_)
    refine g_if_eq (pc := 23) (tgt := 30) C dX12_part_23 (by decide) (fun _ => ?_) (fun c => absurd c (by decide))
    refine g_il1n (pc := 30) C dX12_part_30 ?_
    refine g_is1n (pc := 31) C dX12_part_31 ?_
    refine g_ii2 (pc := 32) (v := 4) C dX12_part_32 (by decide) ?_
    refine g_goto (pc := 35) (tgt := 4) C dX12_part_35 (by decide) ?_
    refine g_il2n (pc := 4) C dX12_part_4 ?_
    refine g_al0n (pc := 5) C dX12_part_5 ?_
    refine s_getR (pc := 6) C fX12_35 h135 rfl dX12_part_6 ?_
    refine s_alenR (pc := 9) C h141 (by decide) dX12_part_9 ?_
    refine g_icmp_geL (pc := 10) (tgt := 38) C dX12_part_10 (by decide) (fun c_10_5 => ?_) (fun c_10_5 => absurd c_10_5 (by decide))
    exact y_part_38 hd C hr σ hn hn1 o ho hq hs hE0 hE (nm := some 0) (by unfold nameS; rw [if_pos (show isWd (σ 140) n q wHeight = true from b_20)]) _
  · refine g_if_eq (pc := 23) (tgt := 30) C dX12_part_23 (by decide) (fun _ => ?_) (fun c => absurd c (by decide))
    refine g_il1n (pc := 30) C dX12_part_30 ?_
    refine g_is1n (pc := 31) C dX12_part_31 ?_
    refine g_ii2 (pc := 32) (v := 1) C dX12_part_32 (by decide) ?_
    refine g_goto (pc := 35) (tgt := 4) C dX12_part_35 (by decide) ?_
    refine g_il2n (pc := 4) C dX12_part_4 ?_
    refine g_al0n (pc := 5) C dX12_part_5 ?_
    refine s_getR (pc := 6) C fX12_35 h135 rfl dX12_part_6 ?_
    refine s_alenR (pc := 9) C h141 (by decide) dX12_part_9 ?_
    refine g_icmp_geL (pc := 10) (tgt := 38) C dX12_part_10 (by decide) (fun c_10_2 => absurd (by decide) c_10_2) (fun c_10_2 => ?_)
    refine g_al0n (pc := 13) C dX12_part_13 ?_
    refine g_al0n (pc := 14) C dX12_part_14 ?_
    refine s_getR (pc := 15) C fX12_35 h135 rfl dX12_part_15 ?_
    refine g_il2n (pc := 18) C dX12_part_18 ?_
    refine s_aald (pc := 19) (q := 1) C h141 (by decide) rfl rfl (by decide) dX12_part_19 ?_
    refine s_VB (pc := 20) (st := []) C h135 rfl (c_isWord0 (d := d - 1) (by omega) σ hn hn1 o (q := q) hq s (j := 6) rfl) (by omega) lX12_283 dX12_part_20 rfl (Nat.le_of_ble_eq_true rfl) rfl (fun b_20_2 => ?_) (fun b_20_2 => ?_)
    · refine g_if_eq (pc := 23) (tgt := 30) C dX12_part_23 (by decide) (fun c => absurd c (by decide)) (fun _ => ?_)
      refine g_il2n (pc := 26) C dX12_part_26 ?_
      refine g_goto (pc := 27) (tgt := 31) C dX12_part_27 (by decide) ?_
      refine g_is1n (pc := 31) C dX12_part_31 ?_
      refine g_ii2 (pc := 32) (v := 2) C dX12_part_32 (by decide) ?_
      refine g_goto (pc := 35) (tgt := 4) C dX12_part_35 (by decide) ?_
      refine g_il2n (pc := 4) C dX12_part_4 ?_
      refine g_al0n (pc := 5) C dX12_part_5 ?_
      refine s_getR (pc := 6) C fX12_35 h135 rfl dX12_part_6 ?_
      refine s_alenR (pc := 9) C h141 (by decide) dX12_part_9 ?_
      refine g_icmp_geL (pc := 10) (tgt := 38) C dX12_part_10 (by decide) (fun c_10_3 => absurd (by decide) c_10_3) (fun c_10_3 => ?_)
      refine g_al0n (pc := 13) C dX12_part_13 ?_
      refine g_al0n (pc := 14) C dX12_part_14 ?_
      refine s_getR (pc := 15) C fX12_35 h135 rfl dX12_part_15 ?_
      refine g_il2n (pc := 18) C dX12_part_18 ?_
      refine s_aald (pc := 19) (q := 2) C h141 (by decide) rfl rfl (by decide) dX12_part_19 ?_
      refine s_VB (pc := 20) (st := []) C h135 rfl (c_isWord0 (d := d - 1) (by omega) σ hn hn1 o (q := q) hq s (j := 7) rfl) (by omega) lX12_283 dX12_part_20 rfl (Nat.le_of_ble_eq_true rfl) rfl (fun b_20_3 => absurd b_20_3 (wd_12 b_20_2)) (fun b_20_3 => ?_)
      refine g_if_eq (pc := 23) (tgt := 30) C dX12_part_23 (by decide) (fun _ => ?_) (fun c => absurd c (by decide))
      refine g_il1n (pc := 30) C dX12_part_30 ?_
      refine g_is1n (pc := 31) C dX12_part_31 ?_
      refine g_ii2 (pc := 32) (v := 3) C dX12_part_32 (by decide) ?_
      refine g_goto (pc := 35) (tgt := 4) C dX12_part_35 (by decide) ?_
      refine g_il2n (pc := 4) C dX12_part_4 ?_
      refine g_al0n (pc := 5) C dX12_part_5 ?_
      refine s_getR (pc := 6) C fX12_35 h135 rfl dX12_part_6 ?_
      refine s_alenR (pc := 9) C h141 (by decide) dX12_part_9 ?_
      refine g_icmp_geL (pc := 10) (tgt := 38) C dX12_part_10 (by decide) (fun c_10_4 => absurd (by decide) c_10_4) (fun c_10_4 => ?_)
      refine g_al0n (pc := 13) C dX12_part_13 ?_
      refine g_al0n (pc := 14) C dX12_part_14 ?_
      refine s_getR (pc := 15) C fX12_35 h135 rfl dX12_part_15 ?_
      refine g_il2n (pc := 18) C dX12_part_18 ?_
      refine s_aald (pc := 19) (q := 3) C h141 (by decide) rfl rfl (by decide) dX12_part_19 ?_
      refine s_VB (pc := 20) (st := []) C h135 rfl (c_isWord0 (d := d - 1) (by omega) σ hn hn1 o (q := q) hq s (j := 8) rfl) (by omega) lX12_283 dX12_part_20 rfl (Nat.le_of_ble_eq_true rfl) rfl (fun b_20_4 => absurd b_20_4 (wd_13 b_20_2)) (fun b_20_4 => ?_)
      refine g_if_eq (pc := 23) (tgt := 30) C dX12_part_23 (by decide) (fun _ => ?_) (fun c => absurd c (by decide))
      refine g_il1n (pc := 30) C dX12_part_30 ?_
      refine g_is1n (pc := 31) C dX12_part_31 ?_
      refine g_ii2 (pc := 32) (v := 4) C dX12_part_32 (by decide) ?_
      refine g_goto (pc := 35) (tgt := 4) C dX12_part_35 (by decide) ?_
      refine g_il2n (pc := 4) C dX12_part_4 ?_
      refine g_al0n (pc := 5) C dX12_part_5 ?_
      refine s_getR (pc := 6) C fX12_35 h135 rfl dX12_part_6 ?_
      refine s_alenR (pc := 9) C h141 (by decide) dX12_part_9 ?_
      refine g_icmp_geL (pc := 10) (tgt := 38) C dX12_part_10 (by decide) (fun c_10_5 => ?_) (fun c_10_5 => absurd c_10_5 (by decide))
      exact y_part_38 hd C hr σ hn hn1 o ho hq hs hE0 hE (nm := some 1) (by unfold nameS; rw [if_neg (show ¬ isWd (σ 140) n q wHeight = true from b_20), if_pos (show isWd (σ 140) n q wMinutes = true from b_20_2)]) _
    · refine g_if_eq (pc := 23) (tgt := 30) C dX12_part_23 (by decide) (fun _ => ?_) (fun c => absurd c (by decide))
      refine g_il1n (pc := 30) C dX12_part_30 ?_
      refine g_is1n (pc := 31) C dX12_part_31 ?_
      refine g_ii2 (pc := 32) (v := 2) C dX12_part_32 (by decide) ?_
      refine g_goto (pc := 35) (tgt := 4) C dX12_part_35 (by decide) ?_
      refine g_il2n (pc := 4) C dX12_part_4 ?_
      refine g_al0n (pc := 5) C dX12_part_5 ?_
      refine s_getR (pc := 6) C fX12_35 h135 rfl dX12_part_6 ?_
      refine s_alenR (pc := 9) C h141 (by decide) dX12_part_9 ?_
      refine g_icmp_geL (pc := 10) (tgt := 38) C dX12_part_10 (by decide) (fun c_10_3 => absurd (by decide) c_10_3) (fun c_10_3 => ?_)
      refine g_al0n (pc := 13) C dX12_part_13 ?_
      refine g_al0n (pc := 14) C dX12_part_14 ?_
      refine s_getR (pc := 15) C fX12_35 h135 rfl dX12_part_15 ?_
      refine g_il2n (pc := 18) C dX12_part_18 ?_
      refine s_aald (pc := 19) (q := 2) C h141 (by decide) rfl rfl (by decide) dX12_part_19 ?_
      refine s_VB (pc := 20) (st := []) C h135 rfl (c_isWord0 (d := d - 1) (by omega) σ hn hn1 o (q := q) hq s (j := 7) rfl) (by omega) lX12_283 dX12_part_20 rfl (Nat.le_of_ble_eq_true rfl) rfl (fun b_20_3 => ?_) (fun b_20_3 => ?_)
      · refine g_if_eq (pc := 23) (tgt := 30) C dX12_part_23 (by decide) (fun c => absurd c (by decide)) (fun _ => ?_)
        refine g_il2n (pc := 26) C dX12_part_26 ?_
        refine g_goto (pc := 27) (tgt := 31) C dX12_part_27 (by decide) ?_
        refine g_is1n (pc := 31) C dX12_part_31 ?_
        refine g_ii2 (pc := 32) (v := 3) C dX12_part_32 (by decide) ?_
        refine g_goto (pc := 35) (tgt := 4) C dX12_part_35 (by decide) ?_
        refine g_il2n (pc := 4) C dX12_part_4 ?_
        refine g_al0n (pc := 5) C dX12_part_5 ?_
        refine s_getR (pc := 6) C fX12_35 h135 rfl dX12_part_6 ?_
        refine s_alenR (pc := 9) C h141 (by decide) dX12_part_9 ?_
        refine g_icmp_geL (pc := 10) (tgt := 38) C dX12_part_10 (by decide) (fun c_10_4 => absurd (by decide) c_10_4) (fun c_10_4 => ?_)
        refine g_al0n (pc := 13) C dX12_part_13 ?_
        refine g_al0n (pc := 14) C dX12_part_14 ?_
        refine s_getR (pc := 15) C fX12_35 h135 rfl dX12_part_15 ?_
        refine g_il2n (pc := 18) C dX12_part_18 ?_
        refine s_aald (pc := 19) (q := 3) C h141 (by decide) rfl rfl (by decide) dX12_part_19 ?_
        refine s_VB (pc := 20) (st := []) C h135 rfl (c_isWord0 (d := d - 1) (by omega) σ hn hn1 o (q := q) hq s (j := 8) rfl) (by omega) lX12_283 dX12_part_20 rfl (Nat.le_of_ble_eq_true rfl) rfl (fun b_20_4 => absurd b_20_4 (wd_23 b_20_3)) (fun b_20_4 => ?_)
        refine g_if_eq (pc := 23) (tgt := 30) C dX12_part_23 (by decide) (fun _ => ?_) (fun c => absurd c (by decide))
        refine g_il1n (pc := 30) C dX12_part_30 ?_
        refine g_is1n (pc := 31) C dX12_part_31 ?_
        refine g_ii2 (pc := 32) (v := 4) C dX12_part_32 (by decide) ?_
        refine g_goto (pc := 35) (tgt := 4) C dX12_part_35 (by decide) ?_
        refine g_il2n (pc := 4) C dX12_part_4 ?_
        refine g_al0n (pc := 5) C dX12_part_5 ?_
        refine s_getR (pc := 6) C fX12_35 h135 rfl dX12_part_6 ?_
        refine s_alenR (pc := 9) C h141 (by decide) dX12_part_9 ?_
        refine g_icmp_geL (pc := 10) (tgt := 38) C dX12_part_10 (by decide) (fun c_10_5 => ?_) (fun c_10_5 => absurd c_10_5 (by decide))
        exact y_part_38 hd C hr σ hn hn1 o ho hq hs hE0 hE (nm := some 2) (by unfold nameS; rw [if_neg (show ¬ isWd (σ 140) n q wHeight = true from b_20), if_neg (show ¬ isWd (σ 140) n q wMinutes = true from b_20_2), if_pos (show isWd (σ 140) n q wKind = true from b_20_3)]) _
      · refine g_if_eq (pc := 23) (tgt := 30) C dX12_part_23 (by decide) (fun _ => ?_) (fun c => absurd c (by decide))
        refine g_il1n (pc := 30) C dX12_part_30 ?_
        refine g_is1n (pc := 31) C dX12_part_31 ?_
        refine g_ii2 (pc := 32) (v := 3) C dX12_part_32 (by decide) ?_
        refine g_goto (pc := 35) (tgt := 4) C dX12_part_35 (by decide) ?_
        refine g_il2n (pc := 4) C dX12_part_4 ?_
        refine g_al0n (pc := 5) C dX12_part_5 ?_
        refine s_getR (pc := 6) C fX12_35 h135 rfl dX12_part_6 ?_
        refine s_alenR (pc := 9) C h141 (by decide) dX12_part_9 ?_
        refine g_icmp_geL (pc := 10) (tgt := 38) C dX12_part_10 (by decide) (fun c_10_4 => absurd (by decide) c_10_4) (fun c_10_4 => ?_)
        refine g_al0n (pc := 13) C dX12_part_13 ?_
        refine g_al0n (pc := 14) C dX12_part_14 ?_
        refine s_getR (pc := 15) C fX12_35 h135 rfl dX12_part_15 ?_
        refine g_il2n (pc := 18) C dX12_part_18 ?_
        refine s_aald (pc := 19) (q := 3) C h141 (by decide) rfl rfl (by decide) dX12_part_19 ?_
        refine s_VB (pc := 20) (st := []) C h135 rfl (c_isWord0 (d := d - 1) (by omega) σ hn hn1 o (q := q) hq s (j := 8) rfl) (by omega) lX12_283 dX12_part_20 rfl (Nat.le_of_ble_eq_true rfl) rfl (fun b_20_4 => ?_) (fun b_20_4 => ?_)
        · refine g_if_eq (pc := 23) (tgt := 30) C dX12_part_23 (by decide) (fun c => absurd c (by decide)) (fun _ => ?_)
          refine g_il2n (pc := 26) C dX12_part_26 ?_
          refine g_goto (pc := 27) (tgt := 31) C dX12_part_27 (by decide) ?_
          refine g_is1n (pc := 31) C dX12_part_31 ?_
          refine g_ii2 (pc := 32) (v := 4) C dX12_part_32 (by decide) ?_
          refine g_goto (pc := 35) (tgt := 4) C dX12_part_35 (by decide) ?_
          refine g_il2n (pc := 4) C dX12_part_4 ?_
          refine g_al0n (pc := 5) C dX12_part_5 ?_
          refine s_getR (pc := 6) C fX12_35 h135 rfl dX12_part_6 ?_
          refine s_alenR (pc := 9) C h141 (by decide) dX12_part_9 ?_
          refine g_icmp_geL (pc := 10) (tgt := 38) C dX12_part_10 (by decide) (fun c_10_5 => ?_) (fun c_10_5 => absurd c_10_5 (by decide))
          exact y_part_38 hd C hr σ hn hn1 o ho hq hs hE0 hE (nm := some 3) (by unfold nameS; rw [if_neg (show ¬ isWd (σ 140) n q wHeight = true from b_20), if_neg (show ¬ isWd (σ 140) n q wMinutes = true from b_20_2), if_neg (show ¬ isWd (σ 140) n q wKind = true from b_20_3), if_pos (show isWd (σ 140) n q wWind = true from b_20_4)]) _
        · refine g_if_eq (pc := 23) (tgt := 30) C dX12_part_23 (by decide) (fun _ => ?_) (fun c => absurd c (by decide))
          refine g_il1n (pc := 30) C dX12_part_30 ?_
          refine g_is1n (pc := 31) C dX12_part_31 ?_
          refine g_ii2 (pc := 32) (v := 4) C dX12_part_32 (by decide) ?_
          refine g_goto (pc := 35) (tgt := 4) C dX12_part_35 (by decide) ?_
          refine g_il2n (pc := 4) C dX12_part_4 ?_
          refine g_al0n (pc := 5) C dX12_part_5 ?_
          refine s_getR (pc := 6) C fX12_35 h135 rfl dX12_part_6 ?_
          refine s_alenR (pc := 9) C h141 (by decide) dX12_part_9 ?_
          refine g_icmp_geL (pc := 10) (tgt := 38) C dX12_part_10 (by decide) (fun c_10_5 => ?_) (fun c_10_5 => absurd c_10_5 (by decide))
          exact y_part_38 hd C hr σ hn hn1 o ho hq hs hE0 hE (nm := none) (by unfold nameS; rw [if_neg (show ¬ isWd (σ 140) n q wHeight = true from b_20), if_neg (show ¬ isWd (σ 140) n q wMinutes = true from b_20_2), if_neg (show ¬ isWd (σ 140) n q wKind = true from b_20_3), if_neg (show ¬ isWd (σ 140) n q wWind = true from b_20_4)]) _

