/-! ===== the model: why ===== -/
theorem laneA_ok {ν : Nu} (h : INV ν) (a : Nat) : laneA ν a = nI (laneA ν a).toNatClampNeg ∧ (laneA ν a).toNatClampNeg < 6 := by
  unfold laneA
  exact h.lane (by split <;> decide)
theorem y_279 {μ : Mx} {ω : Om} {d : Nat} (hd : 5 ≤ d) (C : Cx μ ω "TowFieldModel" cX12_whyNot 11 d) (hr : (mH μ).sig.returnType = some .int) (σ : Sg) (hI : INV (σ 136)) {a : Nat} (ha : a < cnt (σ 136) 7) (τ : Sg) (hE : Eqx [143] σ τ) (t6 w7 l8 l9 l10 : Option Value) {w : Int32} (hw : w = why10 (σ 136) a) : G μ ω (RQ μ ω (pP (fun v τ' => v = w ∧ Eqx [143] σ τ'))) 279 [some (.ref 135), some (.int (nI a)), some (.int (σ 136 (146 + 10 * a + 0))), some (.int (σ 136 (146 + 10 * a + 1))), some (.int (σ 136 (146 + 10 * a + 2))), some (.int (σ 136 (146 + 10 * a + 3))), t6, w7, l8, l9, l10] [] (mk τ) 0 0 := by
  have hk := hI.kind ha
  have hna := hI.n7.2
  have e136 : τ 136 = σ 136 := hE 136 (by decide)
  have hI : INV (τ 136) := by rw [e136]; exact hI
  refine g_al0n (pc := 279) C dX12_whyNot_279 ?_
  refine g_il5 (pc := 280) C dX12_whyNot_280 ?_
  refine s_VB (pc := 282) (st := []) C h135 rfl (c_X12_hasHelp (d := d - 1) (by omega) τ hI (σ 136 (146 + 10 * a + 3)) (by assumption)) (by omega) lX12_147 dX12_whyNot_282 rfl (Nat.le_of_ble_eq_true rfl) rfl (fun b_282 => ?_) (fun b_282 => ?_)
  · refine g_if_ne (pc := 285) (tgt := 291) C dX12_whyNot_285 (by decide) (fun _ => ?_) (fun c => absurd c (by decide))
    refine g_al0n (pc := 291) C dX12_whyNot_291 ?_
    refine g_al0n (pc := 292) C dX12_whyNot_292 ?_
    refine g_il1n (pc := 293) C dX12_whyNot_293 ?_
    refine s_VI (pc := 294) (st := [(.ref 135)]) C h135 rfl (c_X12_laneOf (d := d - 1) (by omega) τ hI (by rw [e136]; exact ha)) (by omega) lX12_150 dX12_whyNot_294 rfl (Nat.le_of_ble_eq_true rfl) rfl ?_
    refine g_al0n (pc := 297) C dX12_whyNot_297 ?_
    refine g_il1n (pc := 298) C dX12_whyNot_298 ?_
    refine s_VI (pc := 299) (st := [(.int (laneA (τ 136) a)), (.ref 135)]) C h135 rfl (c_X12_spanOfAsk (d := d - 1) (by omega) τ hI (by rw [e136]; exact ha)) (by omega) lX12_153 dX12_whyNot_299 rfl (Nat.le_of_ble_eq_true rfl) rfl ?_
    refine s_VB (pc := 302) (st := []) C h135 rfl (by have := c_X12_isClear (d := d - 1) (by omega) τ (l := (laneA (τ 136) a).toNatClampNeg) (laneA_ok hI a).2 (spanA (τ 136) a); rw [← (laneA_ok hI a).1] at this; exact this) (by omega) lX12_156 dX12_whyNot_302 rfl (Nat.le_of_ble_eq_true rfl) rfl (fun b_302 => ?_) (fun b_302 => ?_)
    · refine g_if_eq (pc := 305) (tgt := 312) C dX12_whyNot_305 (by decide) (fun c => absurd c (by decide)) (fun _ => ?_)
      refine g_iconst (pc := 308) (v := 0) C dX12_whyNot_308 (by decide) ?_
      refine g_goto (pc := 309) (tgt := 314) C dX12_whyNot_309 (by decide) ?_
      exact r_P C hr dX12_whyNot_314 ⟨by rw [hw]; rw [e136] at *; simp only [why10, aA, b_282, b_302, eq_self, ne_eq, not_true_eq_false, not_false_eq_true, Classical.not_not, decide_true, decide_false, and_true, true_and, and_false, false_and, and_self, or_true, true_or, or_false, false_or, or_self, if_true, if_false, ite_true, ite_false, Bool.eq_false_iff, Bool.not_eq_eq_eq_not, Bool.true_eq_false, Bool.false_eq_true, reduceCtorEq], hE⟩
    · refine g_if_eq (pc := 305) (tgt := 312) C dX12_whyNot_305 (by decide) (fun _ => ?_) (fun c => absurd c (by decide))
      refine g_bipush (pc := 312) (v := 11) C dX12_whyNot_312 (by decide) ?_
      exact r_P C hr dX12_whyNot_314 ⟨by rw [hw]; rw [e136] at *; simp only [why10, aA, b_282, b_302, eq_self, ne_eq, not_true_eq_false, not_false_eq_true, Classical.not_not, decide_true, decide_false, and_true, true_and, and_false, false_and, and_self, or_true, true_or, or_false, false_or, or_self, if_true, if_false, ite_true, ite_false, Bool.eq_false_iff, Bool.not_eq_eq_eq_not, Bool.true_eq_false, Bool.false_eq_true, reduceCtorEq], hE⟩
  · refine g_if_ne (pc := 285) (tgt := 291) C dX12_whyNot_285 (by decide) (fun c => absurd c (by decide)) (fun _ => ?_)
    refine g_bipush (pc := 288) (v := 10) C dX12_whyNot_288 (by decide) ?_
    exact r_P C hr dX12_whyNot_290 ⟨by rw [hw]; rw [e136] at *; simp only [why10, aA, b_282, eq_self, ne_eq, not_true_eq_false, not_false_eq_true, Classical.not_not, decide_true, decide_false, and_true, true_and, and_false, false_and, and_self, or_true, true_or, or_false, false_or, or_self, if_true, if_false, ite_true, ite_false, Bool.eq_false_iff, Bool.not_eq_eq_eq_not, Bool.true_eq_false, Bool.false_eq_true, reduceCtorEq], hE⟩

theorem y_241 {μ : Mx} {ω : Om} {d : Nat} (hd : 5 ≤ d) (C : Cx μ ω "TowFieldModel" cX12_whyNot 11 d) (hr : (mH μ).sig.returnType = some .int) (σ : Sg) (hI : INV (σ 136)) {a : Nat} (ha : a < cnt (σ 136) 7) (t6 w7 l8 l9 l10 : Option Value) {w : Int32} (hw : w = why9 (σ 136) a) : G μ ω (RQ μ ω (pP (fun v τ' => v = w ∧ Eqx [143] σ τ'))) 241 [some (.ref 135), some (.int (nI a)), some (.int (σ 136 (146 + 10 * a + 0))), some (.int (σ 136 (146 + 10 * a + 1))), some (.int (σ 136 (146 + 10 * a + 2))), some (.int (σ 136 (146 + 10 * a + 3))), t6, w7, l8, l9, l10] [] (mk σ) 0 0 := by
  have hna := hI.n7.2
  refine g_al0n (pc := 241) C dX12_whyNot_241 ?_
  refine g_iconst (pc := 242) (v := 0) C dX12_whyNot_242 (by decide) ?_
  refine s_VI (pc := 243) (st := []) C h135 rfl (c_X12_textOf (d := d - 1) (by omega) σ hI 0) (by omega) lX12_140 dX12_whyNot_243 rfl (Nat.le_of_ble_eq_true rfl) rfl ?_
  refine g_is10 (pc := 246) C dX12_whyNot_246 ?_
  rcases hz : textU (σ 136) 0 with _ | t
  · simp only [o2i]
    refine g_il10 (pc := 248) C dX12_whyNot_248 ?_
    refine g_if_lt (pc := 250) (tgt := 279) C dX12_whyNot_250 (by decide) (fun _ => ?_) (fun c => absurd c (by decide))
    exact y_279 hd C hr σ hI ha σ Eqx.rf _ _ _ _ _ (by rw [hw, why9, barA, hz]; rfl)
  · simp only [o2i]
    have htl := lstL_lt hz
    have ht8 := hI.n8.2
    refine g_il10 (pc := 248) C dX12_whyNot_248 ?_
    refine g_if_lt (pc := 250) (tgt := 279) C dX12_whyNot_250 (by decide) (fun c_250 => absurd c_250 (nI_pos (by omega))) (fun c_250 => ?_)
    refine g_al0n (pc := 253) C dX12_whyNot_253 ?_
    refine g_il10 (pc := 254) C dX12_whyNot_254 ?_
    refine g_al0n (pc := 256) C dX12_whyNot_256 ?_
    refine g_il1n (pc := 257) C dX12_whyNot_257 ?_
    refine g_iconst (pc := 258) (v := 4) C dX12_whyNot_258 (by decide) ?_
    refine s_VI (pc := 259) (st := [(.int (nI t)), (.ref 135)]) C h135 rfl (c_X12_askOf (d := d - 1) (by omega) σ (a := a) (f := 4) (by omega) (by omega) rfl rfl) (by omega) lX12_67 dX12_whyNot_259 rfl (Nat.le_of_ble_eq_true rfl) rfl ?_
    refine g_al0n (pc := 262) C dX12_whyNot_262 ?_
    refine g_il1n (pc := 263) C dX12_whyNot_263 ?_
    refine g_iconst (pc := 264) (v := 5) C dX12_whyNot_264 (by decide) ?_
    refine s_VI (pc := 265) (st := [(.int (σ 136 (146 + 10 * a + 4))), (.int (nI t)), (.ref 135)]) C h135 rfl (c_X12_askOf (d := d - 1) (by omega) σ (a := a) (f := 5) (by omega) (by omega) rfl rfl) (by omega) lX12_67 dX12_whyNot_265 rfl (Nat.le_of_ble_eq_true rfl) rfl ?_
    refine g_il5 (pc := 268) C dX12_whyNot_268 ?_
    refine s_VP (pc := 270) (st := []) C h135 rfl (c_X12_worked (d := d - 1) (by omega) σ hI (t := t) htl.1 (σ 136 (146 + 10 * a + 4)) (σ 136 (146 + 10 * a + 5)) (σ 136 (146 + 10 * a + 3))) (by omega) lX12_143 dX12_whyNot_270 rfl (Nat.le_of_ble_eq_true rfl) rfl (fun v_270 τ hw_270 => ?_)
    obtain ⟨hv_270, hE⟩ := hw_270
    refine g_if_eq (pc := 273) (tgt := 279) C dX12_whyNot_273 (by decide) (fun c_273 => ?_) (fun c_273 => ?_)
    · exact y_279 hd C hr σ hI ha τ hE _ _ _ _ _ (by rw [hw, why9, barA, hz]; simp only [aA, ← hv_270, c_273, decide_not, decide_true, Bool.not_true, eq_self, ne_eq, not_true_eq_false, not_false_eq_true, Classical.not_not, decide_true, decide_false, and_true, true_and, and_false, false_and, and_self, or_true, true_or, or_false, false_or, or_self, if_true, if_false, ite_true, ite_false, Bool.eq_false_iff, Bool.not_eq_eq_eq_not, Bool.true_eq_false, Bool.false_eq_true, reduceCtorEq])
    · refine g_bipush (pc := 276) (v := 9) C dX12_whyNot_276 (by decide) ?_
      exact r_P C hr dX12_whyNot_278 ⟨by rw [hw, why9, barA, hz]; simp only [aA, ← hv_270, c_273, decide_not, decide_false, Bool.not_false, eq_self, ne_eq, not_true_eq_false, not_false_eq_true, Classical.not_not, decide_true, decide_false, and_true, true_and, and_false, false_and, and_self, or_true, true_or, or_false, false_or, or_self, if_true, if_false, ite_true, ite_false, Bool.eq_false_iff, Bool.not_eq_eq_eq_not, Bool.true_eq_false, Bool.false_eq_true, reduceCtorEq], hE⟩

theorem y_196 {μ : Mx} {ω : Om} {d : Nat} (hd : 5 ≤ d) (C : Cx μ ω "TowFieldModel" cX12_whyNot 11 d) (hr : (mH μ).sig.returnType = some .int) (σ : Sg) (hI : INV (σ 136)) {a : Nat} (ha : a < cnt (σ 136) 7) (t6 w7 l8 l9 l10 : Option Value) {w : Int32} (hw : w = why7 (σ 136) a) : G μ ω (RQ μ ω (pP (fun v τ' => v = w ∧ Eqx [143] σ τ'))) 196 [some (.ref 135), some (.int (nI a)), some (.int (σ 136 (146 + 10 * a + 0))), some (.int (σ 136 (146 + 10 * a + 1))), some (.int (σ 136 (146 + 10 * a + 2))), some (.int (σ 136 (146 + 10 * a + 3))), t6, w7, l8, l9, l10] [] (mk σ) 0 0 := by
  have hna := hI.n7.2
  have hk := hI.kind ha
  have h4 := hI.n4.2
  have h3 := hI.n3.2
  obtain ⟨hw1, hw2⟩ := hI.who ha
  have hw2 : (σ 136 (146 + 10 * a + 0)).toNatClampNeg < 14 := by omega
  obtain ⟨hg1, hg2⟩ := hI.gld ha
  have hg2 : (σ 136 (146 + 10 * a + 2)).toNatClampNeg < 10 := by omega
  refine g_al0n (pc := 196) C dX12_whyNot_196 ?_
  refine s_getR (pc := 197) C fX12_9 h135 rfl dX12_whyNot_197 ?_
  refine g_iconst (pc := 200) (v := 2) C dX12_whyNot_200 (by decide) ?_
  refine s_iald (pc := 201) (q := 2) C h136 rfl (by omega) (Nat.le_of_ble_eq_true rfl) dX12_whyNot_201 ?_
  refine g_al0n (pc := 202) C dX12_whyNot_202 ?_
  refine g_il4 (pc := 203) C dX12_whyNot_203 ?_
  refine g_iconst (pc := 205) (v := 2) C dX12_whyNot_205 (by decide) ?_
  refine s_VI (pc := 206) (st := [(.int (σ 136 2))]) C h135 rfl (c_X12_gliderOf (d := d - 1) (by omega) σ (a := (σ 136 (146 + 10 * a + 2)).toNatClampNeg) (f := 2) hg2 (by omega) hg1 rfl) (by omega) lX12_75 dX12_whyNot_206 rfl (Nat.le_of_ble_eq_true rfl) rfl ?_
  refine s_SB (pc := 209) (st := []) C (c_X12_has (d := d - 1) (by omega) σ (σ 136 2) (σ 136 (50 + 4 * ((σ 136 (146 + 10 * a + 2)).toNatClampNeg) + 2))) (by omega) lX12_127 dX12_whyNot_209 rfl (Nat.le_of_ble_eq_true rfl) rfl (fun b_209 => ?_) (fun b_209 => ?_)
  · refine g_if_ne (pc := 212) (tgt := 218) C dX12_whyNot_212 (by decide) (fun _ => ?_) (fun c => absurd c (by decide))
    refine g_al0n (pc := 218) C dX12_whyNot_218 ?_
    refine g_il2n (pc := 219) C dX12_whyNot_219 ?_
    refine s_VB (pc := 220) (st := []) C h135 rfl (c_X12_isInAir (d := d - 1) (by omega) σ hI.n7.1 hI.n7.2 (σ 136 (146 + 10 * a + 0))) (by omega) lX12_85 dX12_whyNot_220 rfl (Nat.le_of_ble_eq_true rfl) rfl (fun b_220 => ?_) (fun b_220 => ?_)
    · refine g_if_ne (pc := 223) (tgt := 238) C dX12_whyNot_223 (by decide) (fun _ => ?_) (fun c => absurd c (by decide))
      refine g_bipush (pc := 238) (v := 8) C dX12_whyNot_238 (by decide) ?_
      exact r_P C hr dX12_whyNot_240 ⟨by rw [hw]; simp only [why7, why8, aA, aG, b_209, b_220, eq_self, ne_eq, not_true_eq_false, not_false_eq_true, Classical.not_not, decide_true, decide_false, and_true, true_and, and_false, false_and, and_self, or_true, true_or, or_false, false_or, or_self, if_true, if_false, ite_true, ite_false, Bool.eq_false_iff, Bool.not_eq_eq_eq_not, Bool.true_eq_false, Bool.false_eq_true, reduceCtorEq], Eqx.rf⟩
    · refine g_if_ne (pc := 223) (tgt := 238) C dX12_whyNot_223 (by decide) (fun c => absurd c (by decide)) (fun _ => ?_)
      refine g_il3n (pc := 226) C dX12_whyNot_226 ?_
      refine g_if_lt (pc := 227) (tgt := 241) C dX12_whyNot_227 (by decide) (fun c_227 => ?_) (fun c_227 => ?_)
      · exact y_241 hd C hr σ hI ha _ _ _ _ _ (by rw [hw]; simp only [why7, why8, aA, aG, b_209, b_220, c_227, eq_self, ne_eq, not_true_eq_false, not_false_eq_true, Classical.not_not, decide_true, decide_false, and_true, true_and, and_false, false_and, and_self, or_true, true_or, or_false, false_or, or_self, if_true, if_false, ite_true, ite_false, Bool.eq_false_iff, Bool.not_eq_eq_eq_not, Bool.true_eq_false, Bool.false_eq_true, reduceCtorEq])
      · refine g_al0n (pc := 230) C dX12_whyNot_230 ?_
        refine g_il3n (pc := 231) C dX12_whyNot_231 ?_
        refine s_VB (pc := 232) (st := []) C h135 rfl (c_X12_isInAir (d := d - 1) (by omega) σ hI.n7.1 hI.n7.2 (σ 136 (146 + 10 * a + 1))) (by omega) lX12_85 dX12_whyNot_232 rfl (Nat.le_of_ble_eq_true rfl) rfl (fun b_232 => ?_) (fun b_232 => ?_)
        · refine g_if_eq (pc := 235) (tgt := 241) C dX12_whyNot_235 (by decide) (fun c => absurd c (by decide)) (fun _ => ?_)
          refine g_bipush (pc := 238) (v := 8) C dX12_whyNot_238 (by decide) ?_
          exact r_P C hr dX12_whyNot_240 ⟨by rw [hw]; simp only [why7, why8, aA, aG, b_209, b_220, c_227, b_232, eq_self, ne_eq, not_true_eq_false, not_false_eq_true, Classical.not_not, decide_true, decide_false, and_true, true_and, and_false, false_and, and_self, or_true, true_or, or_false, false_or, or_self, if_true, if_false, ite_true, ite_false, Bool.eq_false_iff, Bool.not_eq_eq_eq_not, Bool.true_eq_false, Bool.false_eq_true, reduceCtorEq], Eqx.rf⟩
        · refine g_if_eq (pc := 235) (tgt := 241) C dX12_whyNot_235 (by decide) (fun _ => ?_) (fun c => absurd c (by decide))
          exact y_241 hd C hr σ hI ha _ _ _ _ _ (by rw [hw]; simp only [why7, why8, aA, aG, b_209, b_220, c_227, b_232, eq_self, ne_eq, not_true_eq_false, not_false_eq_true, Classical.not_not, decide_true, decide_false, and_true, true_and, and_false, false_and, and_self, or_true, true_or, or_false, false_or, or_self, if_true, if_false, ite_true, ite_false, Bool.eq_false_iff, Bool.not_eq_eq_eq_not, Bool.true_eq_false, Bool.false_eq_true, reduceCtorEq])
  · refine g_if_ne (pc := 212) (tgt := 218) C dX12_whyNot_212 (by decide) (fun c => absurd c (by decide)) (fun _ => ?_)
    refine g_bipush (pc := 215) (v := 7) C dX12_whyNot_215 (by decide) ?_
    exact r_P C hr dX12_whyNot_217 ⟨by rw [hw]; simp only [why7, why8, aA, aG, b_209, eq_self, ne_eq, not_true_eq_false, not_false_eq_true, Classical.not_not, decide_true, decide_false, and_true, true_and, and_false, false_and, and_self, or_true, true_or, or_false, false_or, or_self, if_true, if_false, ite_true, ite_false, Bool.eq_false_iff, Bool.not_eq_eq_eq_not, Bool.true_eq_false, Bool.false_eq_true, reduceCtorEq], Eqx.rf⟩

theorem y_179 {μ : Mx} {ω : Om} {d : Nat} (hd : 5 ≤ d) (C : Cx μ ω "TowFieldModel" cX12_whyNot 11 d) (hr : (mH μ).sig.returnType = some .int) (σ : Sg) (hI : INV (σ 136)) {a : Nat} (ha : a < cnt (σ 136) 7) (t6 w7 l8 l9 l10 : Option Value) {w : Int32} (hw : w = why6 (σ 136) a) : G μ ω (RQ μ ω (pP (fun v τ' => v = w ∧ Eqx [143] σ τ'))) 179 [some (.ref 135), some (.int (nI a)), some (.int (σ 136 (146 + 10 * a + 0))), some (.int (σ 136 (146 + 10 * a + 1))), some (.int (σ 136 (146 + 10 * a + 2))), some (.int (σ 136 (146 + 10 * a + 3))), t6, w7, l8, l9, l10] [] (mk σ) 0 0 := by
  have hna := hI.n7.2
  have hk := hI.kind ha
  have h4 := hI.n4.2
  have h3 := hI.n3.2
  obtain ⟨hw1, hw2⟩ := hI.who ha
  have hw2 : (σ 136 (146 + 10 * a + 0)).toNatClampNeg < 14 := by omega
  obtain ⟨hg1, hg2⟩ := hI.gld ha
  have hg2 : (σ 136 (146 + 10 * a + 2)).toNatClampNeg < 10 := by omega
  refine g_al0n (pc := 179) C dX12_whyNot_179 ?_
  refine s_getR (pc := 180) C fX12_9 h135 rfl dX12_whyNot_180 ?_
  refine g_iconst (pc := 183) (v := 1) C dX12_whyNot_183 (by decide) ?_
  refine s_iald (pc := 184) (q := 1) C h136 rfl (by omega) (Nat.le_of_ble_eq_true rfl) dX12_whyNot_184 ?_
  refine g_il5 (pc := 185) C dX12_whyNot_185 ?_
  refine s_SI (pc := 187) (st := [(.int (σ 136 1))]) C (c_X12_boundOf (d := d - 1) (by omega) σ (σ 136 (146 + 10 * a + 3))) (by omega) lX12_106 dX12_whyNot_187 rfl (Nat.le_of_ble_eq_true rfl) rfl ?_
  refine g_icmp_leL (pc := 190) (tgt := 196) C dX12_whyNot_190 (by decide) (fun c_190 => ?_) (fun c_190 => ?_)
  · exact y_196 hd C hr σ hI ha _ _ _ _ _ (by rw [hw, why6]; exact if_neg c_190)
  · refine g_bipush (pc := 193) (v := 6) C dX12_whyNot_193 (by decide) ?_
    exact r_P C hr dX12_whyNot_195 ⟨by rw [hw, why6]; exact (if_pos c_190).symm, Eqx.rf⟩

theorem y_148_1 {μ : Mx} {ω : Om} {d : Nat} (hd : 5 ≤ d) (C : Cx μ ω "TowFieldModel" cX12_whyNot 11 d) (hr : (mH μ).sig.returnType = some .int) (σ : Sg) (hI : INV (σ 136)) {a : Nat} (ha : a < cnt (σ 136) 7) (ht6 : papers (σ 136) (σ 136 (146 + 10 * a + 1)) 6 = true) (w7 l10 : Option Value) {w : Int32} (hw : w = why5 (σ 136) a) : G μ ω (RQ μ ω (pP (fun v τ' => v = w ∧ Eqx [143] σ τ'))) 148 [some (.ref 135), some (.int (nI a)), some (.int (σ 136 (146 + 10 * a + 0))), some (.int (σ 136 (146 + 10 * a + 1))), some (.int (σ 136 (146 + 10 * a + 2))), some (.int (σ 136 (146 + 10 * a + 3))), some (.int 1), w7, some (.int (σ 136 (90 + 4 * (σ 136 (146 + 10 * a + 0)).toNatClampNeg + 2))), some (.int (σ 136 27)), l10] [] (mk σ) 0 0 := by
  have hna := hI.n7.2
  have hk := hI.kind ha
  have h4 := hI.n4.2
  have h3 := hI.n3.2
  obtain ⟨hw1, hw2⟩ := hI.who ha
  have hw2 : (σ 136 (146 + 10 * a + 0)).toNatClampNeg < 14 := by omega
  obtain ⟨hg1, hg2⟩ := hI.gld ha
  have hg2 : (σ 136 (146 + 10 * a + 2)).toNatClampNeg < 10 := by omega
  refine g_il9 (pc := 148) C dX12_whyNot_148 ?_
  refine g_if_leL (pc := 150) (tgt := 179) C dX12_whyNot_150 (by decide) (fun c_150 => ?_) (fun c_150 => ?_)
  · exact y_179 hd C hr σ hI ha _ _ _ _ _ (by rw [hw]; simp only [why5, aA, aP, c_150, ht6, eq_self, ne_eq, not_true_eq_false, not_false_eq_true, Classical.not_not, decide_true, decide_false, and_true, true_and, and_false, false_and, and_self, or_true, true_or, or_false, false_or, or_self, if_true, if_false, ite_true, ite_false, Bool.eq_false_iff, Bool.not_eq_eq_eq_not, Bool.true_eq_false, Bool.false_eq_true, reduceCtorEq])
  · refine g_il8 (pc := 153) C dX12_whyNot_153 ?_
    refine g_if_lt (pc := 155) (tgt := 172) C dX12_whyNot_155 (by decide) (fun c_155 => ?_) (fun c_155 => ?_)
    · refine g_il6 (pc := 172) C dX12_whyNot_172 ?_
      refine g_if_ne (pc := 174) (tgt := 179) C dX12_whyNot_174 (by decide) (fun _ => ?_) (fun c => absurd c (by decide))
      exact y_179 hd C hr σ hI ha _ _ _ _ _ (by rw [hw]; simp only [why5, aA, aP, c_150, c_155, ht6, eq_self, ne_eq, not_true_eq_false, not_false_eq_true, Classical.not_not, decide_true, decide_false, and_true, true_and, and_false, false_and, and_self, or_true, true_or, or_false, false_or, or_self, if_true, if_false, ite_true, ite_false, Bool.eq_false_iff, Bool.not_eq_eq_eq_not, Bool.true_eq_false, Bool.false_eq_true, reduceCtorEq])
    · refine g_al0n (pc := 158) C dX12_whyNot_158 ?_
      refine s_getR (pc := 159) C fX12_9 h135 rfl dX12_whyNot_159 ?_
      refine g_iconst (pc := 162) (v := 0) C dX12_whyNot_162 (by decide) ?_
      refine s_iald (pc := 163) (q := 0) C h136 rfl (by omega) (Nat.le_of_ble_eq_true rfl) dX12_whyNot_163 ?_
      refine g_il8 (pc := 164) C dX12_whyNot_164 ?_
      refine g_isub (pc := 166) C dX12_whyNot_166 ?_
      refine g_il9 (pc := 167) C dX12_whyNot_167 ?_
      refine g_icmp_leL (pc := 169) (tgt := 179) C dX12_whyNot_169 (by decide) (fun c_169 => ?_) (fun c_169 => ?_)
      · exact y_179 hd C hr σ hI ha _ _ _ _ _ (by rw [hw]; simp only [why5, aA, aP, c_150, c_155, c_169, ht6, eq_self, ne_eq, not_true_eq_false, not_false_eq_true, Classical.not_not, decide_true, decide_false, and_true, true_and, and_false, false_and, and_self, or_true, true_or, or_false, false_or, or_self, if_true, if_false, ite_true, ite_false, Bool.eq_false_iff, Bool.not_eq_eq_eq_not, Bool.true_eq_false, Bool.false_eq_true, reduceCtorEq])
      · refine g_il6 (pc := 172) C dX12_whyNot_172 ?_
        refine g_if_ne (pc := 174) (tgt := 179) C dX12_whyNot_174 (by decide) (fun _ => ?_) (fun c => absurd c (by decide))
        exact y_179 hd C hr σ hI ha _ _ _ _ _ (by rw [hw]; simp only [why5, aA, aP, c_150, c_155, c_169, ht6, eq_self, ne_eq, not_true_eq_false, not_false_eq_true, Classical.not_not, decide_true, decide_false, and_true, true_and, and_false, false_and, and_self, or_true, true_or, or_false, false_or, or_self, if_true, if_false, ite_true, ite_false, Bool.eq_false_iff, Bool.not_eq_eq_eq_not, Bool.true_eq_false, Bool.false_eq_true, reduceCtorEq])

theorem y_121_1 {μ : Mx} {ω : Om} {d : Nat} (hd : 5 ≤ d) (C : Cx μ ω "TowFieldModel" cX12_whyNot 11 d) (hr : (mH μ).sig.returnType = some .int) (σ : Sg) (hI : INV (σ 136)) {a : Nat} (ha : a < cnt (σ 136) 7) (ht6 : papers (σ 136) (σ 136 (146 + 10 * a + 1)) 6 = true) (w7 l10 : Option Value) {w : Int32} (hw : w = why4 (σ 136) a) : G μ ω (RQ μ ω (pP (fun v τ' => v = w ∧ Eqx [143] σ τ'))) 121 [some (.ref 135), some (.int (nI a)), some (.int (σ 136 (146 + 10 * a + 0))), some (.int (σ 136 (146 + 10 * a + 1))), some (.int (σ 136 (146 + 10 * a + 2))), some (.int (σ 136 (146 + 10 * a + 3))), some (.int 1), w7, some (.int (σ 136 (90 + 4 * (σ 136 (146 + 10 * a + 0)).toNatClampNeg + 2))), some (.int (σ 136 27)), l10] [] (mk σ) 0 0 := by
  have hna := hI.n7.2
  have hk := hI.kind ha
  have h4 := hI.n4.2
  have h3 := hI.n3.2
  obtain ⟨hw1, hw2⟩ := hI.who ha
  have hw2 : (σ 136 (146 + 10 * a + 0)).toNatClampNeg < 14 := by omega
  obtain ⟨hg1, hg2⟩ := hI.gld ha
  have hg2 : (σ 136 (146 + 10 * a + 2)).toNatClampNeg < 10 := by omega
  refine g_al0n (pc := 121) C dX12_whyNot_121 ?_
  refine g_il2n (pc := 122) C dX12_whyNot_122 ?_
  refine g_il5 (pc := 123) C dX12_whyNot_123 ?_
  refine s_VB (pc := 125) (st := []) C h135 rfl (c_X12_hasPapers (d := d - 1) (by omega) σ (σ 136 (146 + 10 * a + 0)) (σ 136 (146 + 10 * a + 3)) (fun _ => ⟨hw1, hw2⟩)) (by omega) lX12_137 dX12_whyNot_125 rfl (Nat.le_of_ble_eq_true rfl) rfl (fun b_125 => ?_) (fun b_125 => ?_)
  · refine g_if_ne (pc := 128) (tgt := 148) C dX12_whyNot_128 (by decide) (fun _ => ?_) (fun c => absurd c (by decide))
    exact y_148_1 hd C hr σ hI ha ht6 _ _ (by rw [hw]; simp only [why4, aA, b_125, ht6, eq_self, ne_eq, not_true_eq_false, not_false_eq_true, Classical.not_not, decide_true, decide_false, and_true, true_and, and_false, false_and, and_self, or_true, true_or, or_false, false_or, or_self, if_true, if_false, ite_true, ite_false, Bool.eq_false_iff, Bool.not_eq_eq_eq_not, Bool.true_eq_false, Bool.false_eq_true, reduceCtorEq])
  · refine g_if_ne (pc := 128) (tgt := 148) C dX12_whyNot_128 (by decide) (fun c => absurd c (by decide)) (fun _ => ?_)
    refine g_il6 (pc := 131) C dX12_whyNot_131 ?_
    refine g_if_eq (pc := 133) (tgt := 146) C dX12_whyNot_133 (by decide) (fun c => absurd c (by decide)) (fun _ => ?_)
    refine g_al0n (pc := 136) C dX12_whyNot_136 ?_
    refine g_il3n (pc := 137) C dX12_whyNot_137 ?_
    refine g_il5 (pc := 138) C dX12_whyNot_138 ?_
    refine s_VB (pc := 140) (st := []) C h135 rfl (c_X12_hasPapers (d := d - 1) (by omega) σ (σ 136 (146 + 10 * a + 1)) (σ 136 (146 + 10 * a + 3)) (fun q => ⟨(hI.wth ha q).1, by have := (hI.wth ha q).2; omega⟩)) (by omega) lX12_137 dX12_whyNot_140 rfl (Nat.le_of_ble_eq_true rfl) rfl (fun b_140 => ?_) (fun b_140 => ?_)
    · refine g_if_ne (pc := 143) (tgt := 148) C dX12_whyNot_143 (by decide) (fun _ => ?_) (fun c => absurd c (by decide))
      exact y_148_1 hd C hr σ hI ha ht6 _ _ (by rw [hw]; simp only [why4, aA, b_125, b_140, ht6, eq_self, ne_eq, not_true_eq_false, not_false_eq_true, Classical.not_not, decide_true, decide_false, and_true, true_and, and_false, false_and, and_self, or_true, true_or, or_false, false_or, or_self, if_true, if_false, ite_true, ite_false, Bool.eq_false_iff, Bool.not_eq_eq_eq_not, Bool.true_eq_false, Bool.false_eq_true, reduceCtorEq])
    · refine g_if_ne (pc := 143) (tgt := 148) C dX12_whyNot_143 (by decide) (fun c => absurd c (by decide)) (fun _ => ?_)
      refine g_iconst (pc := 146) (v := 4) C dX12_whyNot_146 (by decide) ?_
      exact r_P C hr dX12_whyNot_147 ⟨by rw [hw]; simp only [why4, aA, b_125, b_140, ht6, eq_self, ne_eq, not_true_eq_false, not_false_eq_true, Classical.not_not, decide_true, decide_false, and_true, true_and, and_false, false_and, and_self, or_true, true_or, or_false, false_or, or_self, if_true, if_false, ite_true, ite_false, Bool.eq_false_iff, Bool.not_eq_eq_eq_not, Bool.true_eq_false, Bool.false_eq_true, reduceCtorEq], Eqx.rf⟩

theorem y_79_1 {μ : Mx} {ω : Om} {d : Nat} (hd : 5 ≤ d) (C : Cx μ ω "TowFieldModel" cX12_whyNot 11 d) (hr : (mH μ).sig.returnType = some .int) (σ : Sg) (hI : INV (σ 136)) {a : Nat} (ha : a < cnt (σ 136) 7) (ht6 : papers (σ 136) (σ 136 (146 + 10 * a + 1)) 6 = true) {w7 : Int32} (h7 : w7 = weigh (σ 136) a) (l10 : Option Value) : G μ ω (RQ μ ω (pP (fun v τ' => v = whyA (σ 136) a ∧ Eqx [143] σ τ'))) 79 [some (.ref 135), some (.int (nI a)), some (.int (σ 136 (146 + 10 * a + 0))), some (.int (σ 136 (146 + 10 * a + 1))), some (.int (σ 136 (146 + 10 * a + 2))), some (.int (σ 136 (146 + 10 * a + 3))), some (.int 1), some (.int w7), some (.int (σ 136 (90 + 4 * (σ 136 (146 + 10 * a + 0)).toNatClampNeg + 2))), some (.int (σ 136 27)), l10] [] (mk σ) 0 0 := by
  have hna := hI.n7.2
  have hk := hI.kind ha
  have h4 := hI.n4.2
  have h3 := hI.n3.2
  obtain ⟨hw1, hw2⟩ := hI.who ha
  have hw2 : (σ 136 (146 + 10 * a + 0)).toNatClampNeg < 14 := by omega
  obtain ⟨hg1, hg2⟩ := hI.gld ha
  have hg2 : (σ 136 (146 + 10 * a + 2)).toNatClampNeg < 10 := by omega
  refine g_al0n (pc := 79) C dX12_whyNot_79 ?_
  refine g_il4 (pc := 80) C dX12_whyNot_80 ?_
  refine s_VB (pc := 82) (st := []) C h135 rfl (c_X12_isInRow (d := d - 1) (by omega) σ hI.n7.1 hI.n7.2 (σ 136 (146 + 10 * a + 2))) (by omega) lX12_78 dX12_whyNot_82 rfl (Nat.le_of_ble_eq_true rfl) rfl (fun b_82 => ?_) (fun b_82 => ?_)
  · refine g_if_ne (pc := 85) (tgt := 90) C dX12_whyNot_85 (by decide) (fun _ => ?_) (fun c => absurd c (by decide))
    refine g_il3n (pc := 90) C dX12_whyNot_90 ?_
    refine g_if_lt (pc := 91) (tgt := 107) C dX12_whyNot_91 (by decide) (fun c_91 => ?_) (fun c_91 => ?_)
    · refine g_il7 (pc := 107) C dX12_whyNot_107 ?_
      refine g_al0n (pc := 109) C dX12_whyNot_109 ?_
      refine g_il4 (pc := 110) C dX12_whyNot_110 ?_
      refine g_iconst (pc := 112) (v := 1) C dX12_whyNot_112 (by decide) ?_
      refine s_VI (pc := 113) (st := [(.int w7)]) C h135 rfl (c_X12_gliderOf (d := d - 1) (by omega) σ (a := (σ 136 (146 + 10 * a + 2)).toNatClampNeg) (f := 1) hg2 (by omega) hg1 rfl) (by omega) lX12_75 dX12_whyNot_113 rfl (Nat.le_of_ble_eq_true rfl) rfl ?_
      refine g_icmp_leL (pc := 116) (tgt := 121) C dX12_whyNot_116 (by decide) (fun c_116 => ?_) (fun c_116 => ?_)
      · exact y_121_1 hd C hr σ hI ha ht6 _ _ (by rw [h7] at c_116; simp only [whyA, why2, why3, aA, aG, b_82, c_91, c_116, eq_self, ne_eq, not_true_eq_false, not_false_eq_true, Classical.not_not, decide_true, decide_false, and_true, true_and, and_false, false_and, and_self, or_true, true_or, or_false, false_or, or_self, if_true, if_false, ite_true, ite_false, Bool.eq_false_iff, Bool.not_eq_eq_eq_not, Bool.true_eq_false, Bool.false_eq_true, reduceCtorEq])
      · refine g_iconst (pc := 119) (v := 3) C dX12_whyNot_119 (by decide) ?_
        exact r_P C hr dX12_whyNot_120 ⟨by rw [h7] at c_116; simp only [whyA, why2, why3, aA, aG, b_82, c_91, c_116, eq_self, ne_eq, not_true_eq_false, not_false_eq_true, Classical.not_not, decide_true, decide_false, and_true, true_and, and_false, false_and, and_self, or_true, true_or, or_false, false_or, or_self, if_true, if_false, ite_true, ite_false, Bool.eq_false_iff, Bool.not_eq_eq_eq_not, Bool.true_eq_false, Bool.false_eq_true, reduceCtorEq], Eqx.rf⟩
    · refine g_al0n (pc := 94) C dX12_whyNot_94 ?_
      refine g_il4 (pc := 95) C dX12_whyNot_95 ?_
      refine g_iconst (pc := 97) (v := 0) C dX12_whyNot_97 (by decide) ?_
      refine s_VI (pc := 98) (st := []) C h135 rfl (c_X12_gliderOf (d := d - 1) (by omega) σ (a := (σ 136 (146 + 10 * a + 2)).toNatClampNeg) (f := 0) hg2 (by omega) hg1 rfl) (by omega) lX12_75 dX12_whyNot_98 rfl (Nat.le_of_ble_eq_true rfl) rfl ?_
      refine g_iconst (pc := 101) (v := 1) C dX12_whyNot_101 (by decide) ?_
      refine g_icmp_ne (pc := 102) (tgt := 107) C dX12_whyNot_102 (by decide) (fun c_102 => ?_) (fun c_102 => ?_)
      · refine g_il7 (pc := 107) C dX12_whyNot_107 ?_
        refine g_al0n (pc := 109) C dX12_whyNot_109 ?_
        refine g_il4 (pc := 110) C dX12_whyNot_110 ?_
        refine g_iconst (pc := 112) (v := 1) C dX12_whyNot_112 (by decide) ?_
        refine s_VI (pc := 113) (st := [(.int w7)]) C h135 rfl (c_X12_gliderOf (d := d - 1) (by omega) σ (a := (σ 136 (146 + 10 * a + 2)).toNatClampNeg) (f := 1) hg2 (by omega) hg1 rfl) (by omega) lX12_75 dX12_whyNot_113 rfl (Nat.le_of_ble_eq_true rfl) rfl ?_
        refine g_icmp_leL (pc := 116) (tgt := 121) C dX12_whyNot_116 (by decide) (fun c_116 => ?_) (fun c_116 => ?_)
        · exact y_121_1 hd C hr σ hI ha ht6 _ _ (by rw [h7] at c_116; simp only [whyA, why2, why3, aA, aG, b_82, c_91, c_102, c_116, eq_self, ne_eq, not_true_eq_false, not_false_eq_true, Classical.not_not, decide_true, decide_false, and_true, true_and, and_false, false_and, and_self, or_true, true_or, or_false, false_or, or_self, if_true, if_false, ite_true, ite_false, Bool.eq_false_iff, Bool.not_eq_eq_eq_not, Bool.true_eq_false, Bool.false_eq_true, reduceCtorEq])
        · refine g_iconst (pc := 119) (v := 3) C dX12_whyNot_119 (by decide) ?_
          exact r_P C hr dX12_whyNot_120 ⟨by rw [h7] at c_116; simp only [whyA, why2, why3, aA, aG, b_82, c_91, c_102, c_116, eq_self, ne_eq, not_true_eq_false, not_false_eq_true, Classical.not_not, decide_true, decide_false, and_true, true_and, and_false, false_and, and_self, or_true, true_or, or_false, false_or, or_self, if_true, if_false, ite_true, ite_false, Bool.eq_false_iff, Bool.not_eq_eq_eq_not, Bool.true_eq_false, Bool.false_eq_true, reduceCtorEq], Eqx.rf⟩
      · refine g_iconst (pc := 105) (v := 2) C dX12_whyNot_105 (by decide) ?_
        exact r_P C hr dX12_whyNot_106 ⟨by simp only [whyA, why2, why3, aA, aG, b_82, c_91, c_102, eq_self, ne_eq, not_true_eq_false, not_false_eq_true, Classical.not_not, decide_true, decide_false, and_true, true_and, and_false, false_and, and_self, or_true, true_or, or_false, false_or, or_self, if_true, if_false, ite_true, ite_false, Bool.eq_false_iff, Bool.not_eq_eq_eq_not, Bool.true_eq_false, Bool.false_eq_true, reduceCtorEq], Eqx.rf⟩
  · refine g_if_ne (pc := 85) (tgt := 90) C dX12_whyNot_85 (by decide) (fun c => absurd c (by decide)) (fun _ => ?_)
    refine g_iconst (pc := 88) (v := 1) C dX12_whyNot_88 (by decide) ?_
    exact r_P C hr dX12_whyNot_89 ⟨by simp only [whyA, why2, why3, aA, aG, b_82, eq_self, ne_eq, not_true_eq_false, not_false_eq_true, Classical.not_not, decide_true, decide_false, and_true, true_and, and_false, false_and, and_self, or_true, true_or, or_false, false_or, or_self, if_true, if_false, ite_true, ite_false, Bool.eq_false_iff, Bool.not_eq_eq_eq_not, Bool.true_eq_false, Bool.false_eq_true, reduceCtorEq], Eqx.rf⟩

theorem y_148_0 {μ : Mx} {ω : Om} {d : Nat} (hd : 5 ≤ d) (C : Cx μ ω "TowFieldModel" cX12_whyNot 11 d) (hr : (mH μ).sig.returnType = some .int) (σ : Sg) (hI : INV (σ 136)) {a : Nat} (ha : a < cnt (σ 136) 7) (ht6 : papers (σ 136) (σ 136 (146 + 10 * a + 1)) 6 = false) (w7 l10 : Option Value) {w : Int32} (hw : w = why5 (σ 136) a) : G μ ω (RQ μ ω (pP (fun v τ' => v = w ∧ Eqx [143] σ τ'))) 148 [some (.ref 135), some (.int (nI a)), some (.int (σ 136 (146 + 10 * a + 0))), some (.int (σ 136 (146 + 10 * a + 1))), some (.int (σ 136 (146 + 10 * a + 2))), some (.int (σ 136 (146 + 10 * a + 3))), some (.int 0), w7, some (.int (σ 136 (90 + 4 * (σ 136 (146 + 10 * a + 0)).toNatClampNeg + 2))), some (.int (σ 136 27)), l10] [] (mk σ) 0 0 := by
  have hna := hI.n7.2
  have hk := hI.kind ha
  have h4 := hI.n4.2
  have h3 := hI.n3.2
  obtain ⟨hw1, hw2⟩ := hI.who ha
  have hw2 : (σ 136 (146 + 10 * a + 0)).toNatClampNeg < 14 := by omega
  obtain ⟨hg1, hg2⟩ := hI.gld ha
  have hg2 : (σ 136 (146 + 10 * a + 2)).toNatClampNeg < 10 := by omega
  refine g_il9 (pc := 148) C dX12_whyNot_148 ?_
  refine g_if_leL (pc := 150) (tgt := 179) C dX12_whyNot_150 (by decide) (fun c_150 => ?_) (fun c_150 => ?_)
  · exact y_179 hd C hr σ hI ha _ _ _ _ _ (by rw [hw]; simp only [why5, aA, aP, c_150, ht6, eq_self, ne_eq, not_true_eq_false, not_false_eq_true, Classical.not_not, decide_true, decide_false, and_true, true_and, and_false, false_and, and_self, or_true, true_or, or_false, false_or, or_self, if_true, if_false, ite_true, ite_false, Bool.eq_false_iff, Bool.not_eq_eq_eq_not, Bool.true_eq_false, Bool.false_eq_true, reduceCtorEq])
  · refine g_il8 (pc := 153) C dX12_whyNot_153 ?_
    refine g_if_lt (pc := 155) (tgt := 172) C dX12_whyNot_155 (by decide) (fun c_155 => ?_) (fun c_155 => ?_)
    · refine g_il6 (pc := 172) C dX12_whyNot_172 ?_
      refine g_if_ne (pc := 174) (tgt := 179) C dX12_whyNot_174 (by decide) (fun c => absurd c (by decide)) (fun _ => ?_)
      refine g_iconst (pc := 177) (v := 5) C dX12_whyNot_177 (by decide) ?_
      exact r_P C hr dX12_whyNot_178 ⟨by rw [hw]; simp only [why5, aA, aP, c_150, c_155, ht6, eq_self, ne_eq, not_true_eq_false, not_false_eq_true, Classical.not_not, decide_true, decide_false, and_true, true_and, and_false, false_and, and_self, or_true, true_or, or_false, false_or, or_self, if_true, if_false, ite_true, ite_false, Bool.eq_false_iff, Bool.not_eq_eq_eq_not, Bool.true_eq_false, Bool.false_eq_true, reduceCtorEq], Eqx.rf⟩
    · refine g_al0n (pc := 158) C dX12_whyNot_158 ?_
      refine s_getR (pc := 159) C fX12_9 h135 rfl dX12_whyNot_159 ?_
      refine g_iconst (pc := 162) (v := 0) C dX12_whyNot_162 (by decide) ?_
      refine s_iald (pc := 163) (q := 0) C h136 rfl (by omega) (Nat.le_of_ble_eq_true rfl) dX12_whyNot_163 ?_
      refine g_il8 (pc := 164) C dX12_whyNot_164 ?_
      refine g_isub (pc := 166) C dX12_whyNot_166 ?_
      refine g_il9 (pc := 167) C dX12_whyNot_167 ?_
      refine g_icmp_leL (pc := 169) (tgt := 179) C dX12_whyNot_169 (by decide) (fun c_169 => ?_) (fun c_169 => ?_)
      · exact y_179 hd C hr σ hI ha _ _ _ _ _ (by rw [hw]; simp only [why5, aA, aP, c_150, c_155, c_169, ht6, eq_self, ne_eq, not_true_eq_false, not_false_eq_true, Classical.not_not, decide_true, decide_false, and_true, true_and, and_false, false_and, and_self, or_true, true_or, or_false, false_or, or_self, if_true, if_false, ite_true, ite_false, Bool.eq_false_iff, Bool.not_eq_eq_eq_not, Bool.true_eq_false, Bool.false_eq_true, reduceCtorEq])
      · refine g_il6 (pc := 172) C dX12_whyNot_172 ?_
        refine g_if_ne (pc := 174) (tgt := 179) C dX12_whyNot_174 (by decide) (fun c => absurd c (by decide)) (fun _ => ?_)
        refine g_iconst (pc := 177) (v := 5) C dX12_whyNot_177 (by decide) ?_
        exact r_P C hr dX12_whyNot_178 ⟨by rw [hw]; simp only [why5, aA, aP, c_150, c_155, c_169, ht6, eq_self, ne_eq, not_true_eq_false, not_false_eq_true, Classical.not_not, decide_true, decide_false, and_true, true_and, and_false, false_and, and_self, or_true, true_or, or_false, false_or, or_self, if_true, if_false, ite_true, ite_false, Bool.eq_false_iff, Bool.not_eq_eq_eq_not, Bool.true_eq_false, Bool.false_eq_true, reduceCtorEq], Eqx.rf⟩

theorem y_121_0 {μ : Mx} {ω : Om} {d : Nat} (hd : 5 ≤ d) (C : Cx μ ω "TowFieldModel" cX12_whyNot 11 d) (hr : (mH μ).sig.returnType = some .int) (σ : Sg) (hI : INV (σ 136)) {a : Nat} (ha : a < cnt (σ 136) 7) (ht6 : papers (σ 136) (σ 136 (146 + 10 * a + 1)) 6 = false) (w7 l10 : Option Value) {w : Int32} (hw : w = why4 (σ 136) a) : G μ ω (RQ μ ω (pP (fun v τ' => v = w ∧ Eqx [143] σ τ'))) 121 [some (.ref 135), some (.int (nI a)), some (.int (σ 136 (146 + 10 * a + 0))), some (.int (σ 136 (146 + 10 * a + 1))), some (.int (σ 136 (146 + 10 * a + 2))), some (.int (σ 136 (146 + 10 * a + 3))), some (.int 0), w7, some (.int (σ 136 (90 + 4 * (σ 136 (146 + 10 * a + 0)).toNatClampNeg + 2))), some (.int (σ 136 27)), l10] [] (mk σ) 0 0 := by
  have hna := hI.n7.2
  have hk := hI.kind ha
  have h4 := hI.n4.2
  have h3 := hI.n3.2
  obtain ⟨hw1, hw2⟩ := hI.who ha
  have hw2 : (σ 136 (146 + 10 * a + 0)).toNatClampNeg < 14 := by omega
  obtain ⟨hg1, hg2⟩ := hI.gld ha
  have hg2 : (σ 136 (146 + 10 * a + 2)).toNatClampNeg < 10 := by omega
  refine g_al0n (pc := 121) C dX12_whyNot_121 ?_
  refine g_il2n (pc := 122) C dX12_whyNot_122 ?_
  refine g_il5 (pc := 123) C dX12_whyNot_123 ?_
  refine s_VB (pc := 125) (st := []) C h135 rfl (c_X12_hasPapers (d := d - 1) (by omega) σ (σ 136 (146 + 10 * a + 0)) (σ 136 (146 + 10 * a + 3)) (fun _ => ⟨hw1, hw2⟩)) (by omega) lX12_137 dX12_whyNot_125 rfl (Nat.le_of_ble_eq_true rfl) rfl (fun b_125 => ?_) (fun b_125 => ?_)
  · refine g_if_ne (pc := 128) (tgt := 148) C dX12_whyNot_128 (by decide) (fun _ => ?_) (fun c => absurd c (by decide))
    exact y_148_0 hd C hr σ hI ha ht6 _ _ (by rw [hw]; simp only [why4, aA, b_125, ht6, eq_self, ne_eq, not_true_eq_false, not_false_eq_true, Classical.not_not, decide_true, decide_false, and_true, true_and, and_false, false_and, and_self, or_true, true_or, or_false, false_or, or_self, if_true, if_false, ite_true, ite_false, Bool.eq_false_iff, Bool.not_eq_eq_eq_not, Bool.true_eq_false, Bool.false_eq_true, reduceCtorEq])
  · refine g_if_ne (pc := 128) (tgt := 148) C dX12_whyNot_128 (by decide) (fun c => absurd c (by decide)) (fun _ => ?_)
    refine g_il6 (pc := 131) C dX12_whyNot_131 ?_
    refine g_if_eq (pc := 133) (tgt := 146) C dX12_whyNot_133 (by decide) (fun _ => ?_) (fun c => absurd c (by decide))
    refine g_iconst (pc := 146) (v := 4) C dX12_whyNot_146 (by decide) ?_
    exact r_P C hr dX12_whyNot_147 ⟨by rw [hw]; simp only [why4, aA, b_125, ht6, eq_self, ne_eq, not_true_eq_false, not_false_eq_true, Classical.not_not, decide_true, decide_false, and_true, true_and, and_false, false_and, and_self, or_true, true_or, or_false, false_or, or_self, if_true, if_false, ite_true, ite_false, Bool.eq_false_iff, Bool.not_eq_eq_eq_not, Bool.true_eq_false, Bool.false_eq_true, reduceCtorEq], Eqx.rf⟩

theorem y_79_0 {μ : Mx} {ω : Om} {d : Nat} (hd : 5 ≤ d) (C : Cx μ ω "TowFieldModel" cX12_whyNot 11 d) (hr : (mH μ).sig.returnType = some .int) (σ : Sg) (hI : INV (σ 136)) {a : Nat} (ha : a < cnt (σ 136) 7) (ht6 : papers (σ 136) (σ 136 (146 + 10 * a + 1)) 6 = false) {w7 : Int32} (h7 : w7 = weigh (σ 136) a) (l10 : Option Value) : G μ ω (RQ μ ω (pP (fun v τ' => v = whyA (σ 136) a ∧ Eqx [143] σ τ'))) 79 [some (.ref 135), some (.int (nI a)), some (.int (σ 136 (146 + 10 * a + 0))), some (.int (σ 136 (146 + 10 * a + 1))), some (.int (σ 136 (146 + 10 * a + 2))), some (.int (σ 136 (146 + 10 * a + 3))), some (.int 0), some (.int w7), some (.int (σ 136 (90 + 4 * (σ 136 (146 + 10 * a + 0)).toNatClampNeg + 2))), some (.int (σ 136 27)), l10] [] (mk σ) 0 0 := by
  have hna := hI.n7.2
  have hk := hI.kind ha
  have h4 := hI.n4.2
  have h3 := hI.n3.2
  obtain ⟨hw1, hw2⟩ := hI.who ha
  have hw2 : (σ 136 (146 + 10 * a + 0)).toNatClampNeg < 14 := by omega
  obtain ⟨hg1, hg2⟩ := hI.gld ha
  have hg2 : (σ 136 (146 + 10 * a + 2)).toNatClampNeg < 10 := by omega
  refine g_al0n (pc := 79) C dX12_whyNot_79 ?_
  refine g_il4 (pc := 80) C dX12_whyNot_80 ?_
  refine s_VB (pc := 82) (st := []) C h135 rfl (c_X12_isInRow (d := d - 1) (by omega) σ hI.n7.1 hI.n7.2 (σ 136 (146 + 10 * a + 2))) (by omega) lX12_78 dX12_whyNot_82 rfl (Nat.le_of_ble_eq_true rfl) rfl (fun b_82 => ?_) (fun b_82 => ?_)
  · refine g_if_ne (pc := 85) (tgt := 90) C dX12_whyNot_85 (by decide) (fun _ => ?_) (fun c => absurd c (by decide))
    refine g_il3n (pc := 90) C dX12_whyNot_90 ?_
    refine g_if_lt (pc := 91) (tgt := 107) C dX12_whyNot_91 (by decide) (fun c_91 => ?_) (fun c_91 => ?_)
    · refine g_il7 (pc := 107) C dX12_whyNot_107 ?_
      refine g_al0n (pc := 109) C dX12_whyNot_109 ?_
      refine g_il4 (pc := 110) C dX12_whyNot_110 ?_
      refine g_iconst (pc := 112) (v := 1) C dX12_whyNot_112 (by decide) ?_
      refine s_VI (pc := 113) (st := [(.int w7)]) C h135 rfl (c_X12_gliderOf (d := d - 1) (by omega) σ (a := (σ 136 (146 + 10 * a + 2)).toNatClampNeg) (f := 1) hg2 (by omega) hg1 rfl) (by omega) lX12_75 dX12_whyNot_113 rfl (Nat.le_of_ble_eq_true rfl) rfl ?_
      refine g_icmp_leL (pc := 116) (tgt := 121) C dX12_whyNot_116 (by decide) (fun c_116 => ?_) (fun c_116 => ?_)
      · exact y_121_0 hd C hr σ hI ha ht6 _ _ (by rw [h7] at c_116; simp only [whyA, why2, why3, aA, aG, b_82, c_91, c_116, eq_self, ne_eq, not_true_eq_false, not_false_eq_true, Classical.not_not, decide_true, decide_false, and_true, true_and, and_false, false_and, and_self, or_true, true_or, or_false, false_or, or_self, if_true, if_false, ite_true, ite_false, Bool.eq_false_iff, Bool.not_eq_eq_eq_not, Bool.true_eq_false, Bool.false_eq_true, reduceCtorEq])
      · refine g_iconst (pc := 119) (v := 3) C dX12_whyNot_119 (by decide) ?_
        exact r_P C hr dX12_whyNot_120 ⟨by rw [h7] at c_116; simp only [whyA, why2, why3, aA, aG, b_82, c_91, c_116, eq_self, ne_eq, not_true_eq_false, not_false_eq_true, Classical.not_not, decide_true, decide_false, and_true, true_and, and_false, false_and, and_self, or_true, true_or, or_false, false_or, or_self, if_true, if_false, ite_true, ite_false, Bool.eq_false_iff, Bool.not_eq_eq_eq_not, Bool.true_eq_false, Bool.false_eq_true, reduceCtorEq], Eqx.rf⟩
    · refine g_al0n (pc := 94) C dX12_whyNot_94 ?_
      refine g_il4 (pc := 95) C dX12_whyNot_95 ?_
      refine g_iconst (pc := 97) (v := 0) C dX12_whyNot_97 (by decide) ?_
      refine s_VI (pc := 98) (st := []) C h135 rfl (c_X12_gliderOf (d := d - 1) (by omega) σ (a := (σ 136 (146 + 10 * a + 2)).toNatClampNeg) (f := 0) hg2 (by omega) hg1 rfl) (by omega) lX12_75 dX12_whyNot_98 rfl (Nat.le_of_ble_eq_true rfl) rfl ?_
      refine g_iconst (pc := 101) (v := 1) C dX12_whyNot_101 (by decide) ?_
      refine g_icmp_ne (pc := 102) (tgt := 107) C dX12_whyNot_102 (by decide) (fun c_102 => ?_) (fun c_102 => ?_)
      · refine g_il7 (pc := 107) C dX12_whyNot_107 ?_
        refine g_al0n (pc := 109) C dX12_whyNot_109 ?_
        refine g_il4 (pc := 110) C dX12_whyNot_110 ?_
        refine g_iconst (pc := 112) (v := 1) C dX12_whyNot_112 (by decide) ?_
        refine s_VI (pc := 113) (st := [(.int w7)]) C h135 rfl (c_X12_gliderOf (d := d - 1) (by omega) σ (a := (σ 136 (146 + 10 * a + 2)).toNatClampNeg) (f := 1) hg2 (by omega) hg1 rfl) (by omega) lX12_75 dX12_whyNot_113 rfl (Nat.le_of_ble_eq_true rfl) rfl ?_
        refine g_icmp_leL (pc := 116) (tgt := 121) C dX12_whyNot_116 (by decide) (fun c_116 => ?_) (fun c_116 => ?_)
        · exact y_121_0 hd C hr σ hI ha ht6 _ _ (by rw [h7] at c_116; simp only [whyA, why2, why3, aA, aG, b_82, c_91, c_102, c_116, eq_self, ne_eq, not_true_eq_false, not_false_eq_true, Classical.not_not, decide_true, decide_false, and_true, true_and, and_false, false_and, and_self, or_true, true_or, or_false, false_or, or_self, if_true, if_false, ite_true, ite_false, Bool.eq_false_iff, Bool.not_eq_eq_eq_not, Bool.true_eq_false, Bool.false_eq_true, reduceCtorEq])
        · refine g_iconst (pc := 119) (v := 3) C dX12_whyNot_119 (by decide) ?_
          exact r_P C hr dX12_whyNot_120 ⟨by rw [h7] at c_116; simp only [whyA, why2, why3, aA, aG, b_82, c_91, c_102, c_116, eq_self, ne_eq, not_true_eq_false, not_false_eq_true, Classical.not_not, decide_true, decide_false, and_true, true_and, and_false, false_and, and_self, or_true, true_or, or_false, false_or, or_self, if_true, if_false, ite_true, ite_false, Bool.eq_false_iff, Bool.not_eq_eq_eq_not, Bool.true_eq_false, Bool.false_eq_true, reduceCtorEq], Eqx.rf⟩
      · refine g_iconst (pc := 105) (v := 2) C dX12_whyNot_105 (by decide) ?_
        exact r_P C hr dX12_whyNot_106 ⟨by simp only [whyA, why2, why3, aA, aG, b_82, c_91, c_102, eq_self, ne_eq, not_true_eq_false, not_false_eq_true, Classical.not_not, decide_true, decide_false, and_true, true_and, and_false, false_and, and_self, or_true, true_or, or_false, false_or, or_self, if_true, if_false, ite_true, ite_false, Bool.eq_false_iff, Bool.not_eq_eq_eq_not, Bool.true_eq_false, Bool.false_eq_true, reduceCtorEq], Eqx.rf⟩
  · refine g_if_ne (pc := 85) (tgt := 90) C dX12_whyNot_85 (by decide) (fun c => absurd c (by decide)) (fun _ => ?_)
    refine g_iconst (pc := 88) (v := 1) C dX12_whyNot_88 (by decide) ?_
    exact r_P C hr dX12_whyNot_89 ⟨by simp only [whyA, why2, why3, aA, aG, b_82, eq_self, ne_eq, not_true_eq_false, not_false_eq_true, Classical.not_not, decide_true, decide_false, and_true, true_and, and_false, false_and, and_self, or_true, true_or, or_false, false_or, or_self, if_true, if_false, ite_true, ite_false, Bool.eq_false_iff, Bool.not_eq_eq_eq_not, Bool.true_eq_false, Bool.false_eq_true, reduceCtorEq], Eqx.rf⟩

theorem c_X12_whyNot {d : Nat} (hd : 5 ≤ d) (σ : Sg) (hI : INV (σ 136)) {a : Nat} (ha : a < cnt (σ 136) 7) : CP d mX12_whyNot [.ref 135, .int (nI a)] σ (fun v τ => v = whyA (σ 136) a ∧ Eqx [143] σ τ) := by
  have hna := hI.n7.2
  have hk := hI.kind ha
  have h4 := hI.n4.2
  have h3 := hI.n3.2
  obtain ⟨hw1, hw2⟩ := hI.who ha
  have hw2 : (σ 136 (146 + 10 * a + 0)).toNatClampNeg < 14 := by omega
  obtain ⟨hg1, hg2⟩ := hI.gld ha
  have hg2 : (σ 136 (146 + 10 * a + 2)).toNatClampNeg < 10 := by omega
  refine con_of (by decide) (catL rfl) (Nat.le_of_ble_eq_true rfl) ?_
  intro μ ω C hr
  have C : Cx μ ω "TowFieldModel" cX12_whyNot 11 d := C
  have hr : (mH μ).sig.returnType = some .int := hr
  show G μ ω (RQ μ ω (pP (fun v τ => v = whyA (σ 136) a ∧ Eqx [143] σ τ))) 0 [some (.ref 135), some (.int (nI a)), none, none, none, none, none, none, none, none, none] [] (mk σ) 0 0
  refine g_al0n (pc := 0) C dX12_whyNot_0 ?_
  refine g_il1n (pc := 1) C dX12_whyNot_1 ?_
  refine g_iconst (pc := 2) (v := 0) C dX12_whyNot_2 (by decide) ?_
  refine s_VI (pc := 3) (st := []) C h135 rfl (c_X12_askOf (d := d - 1) (by omega) σ (a := a) (f := 0) (by omega) (by omega) rfl rfl) (by omega) lX12_67 dX12_whyNot_3 rfl (Nat.le_of_ble_eq_true rfl) rfl ?_
  refine g_is2n (pc := 6) C dX12_whyNot_6 ?_
  refine g_al0n (pc := 7) C dX12_whyNot_7 ?_
  refine g_il1n (pc := 8) C dX12_whyNot_8 ?_
  refine g_iconst (pc := 9) (v := 1) C dX12_whyNot_9 (by decide) ?_
  refine s_VI (pc := 10) (st := []) C h135 rfl (c_X12_askOf (d := d - 1) (by omega) σ (a := a) (f := 1) (by omega) (by omega) rfl rfl) (by omega) lX12_67 dX12_whyNot_10 rfl (Nat.le_of_ble_eq_true rfl) rfl ?_
  refine g_is3n (pc := 13) C dX12_whyNot_13 ?_
  refine g_al0n (pc := 14) C dX12_whyNot_14 ?_
  refine g_il1n (pc := 15) C dX12_whyNot_15 ?_
  refine g_iconst (pc := 16) (v := 2) C dX12_whyNot_16 (by decide) ?_
  refine s_VI (pc := 17) (st := []) C h135 rfl (c_X12_askOf (d := d - 1) (by omega) σ (a := a) (f := 2) (by omega) (by omega) rfl rfl) (by omega) lX12_67 dX12_whyNot_17 rfl (Nat.le_of_ble_eq_true rfl) rfl ?_
  refine g_is4 (pc := 20) C dX12_whyNot_20 ?_
  refine g_al0n (pc := 22) C dX12_whyNot_22 ?_
  refine g_il1n (pc := 23) C dX12_whyNot_23 ?_
  refine g_iconst (pc := 24) (v := 3) C dX12_whyNot_24 (by decide) ?_
  refine s_VI (pc := 25) (st := []) C h135 rfl (c_X12_askOf (d := d - 1) (by omega) σ (a := a) (f := 3) (by omega) (by omega) rfl rfl) (by omega) lX12_67 dX12_whyNot_25 rfl (Nat.le_of_ble_eq_true rfl) rfl ?_
  refine g_is5 (pc := 28) C dX12_whyNot_28 ?_
  refine g_al0n (pc := 30) C dX12_whyNot_30 ?_
  refine g_il3n (pc := 31) C dX12_whyNot_31 ?_
  refine g_bipush (pc := 32) (v := 6) C dX12_whyNot_32 (by decide) ?_
  refine s_VB (pc := 34) (st := []) C h135 rfl (c_X12_hasPapers (d := d - 1) (by omega) σ (σ 136 (146 + 10 * a + 1)) 6 (fun q => ⟨(hI.wth ha q).1, by have := (hI.wth ha q).2; omega⟩)) (by omega) lX12_137 dX12_whyNot_34 rfl (Nat.le_of_ble_eq_true rfl) rfl (fun b_34 => ?_) (fun b_34 => ?_)
  · refine g_is6 (pc := 37) C dX12_whyNot_37 ?_
    refine g_al0n (pc := 39) C dX12_whyNot_39 ?_
    refine g_il2n (pc := 40) C dX12_whyNot_40 ?_
    refine g_iconst (pc := 41) (v := 0) C dX12_whyNot_41 (by decide) ?_
    refine s_VI (pc := 42) (st := []) C h135 rfl (c_X12_personOf (d := d - 1) (by omega) σ (a := (σ 136 (146 + 10 * a + 0)).toNatClampNeg) (f := 0) hw2 (by omega) hw1 rfl) (by omega) lX12_82 dX12_whyNot_42 rfl (Nat.le_of_ble_eq_true rfl) rfl ?_
    refine g_il3n (pc := 45) C dX12_whyNot_45 ?_
    refine g_if_geL (pc := 46) (tgt := 53) C dX12_whyNot_46 (by decide) (fun c_46 => ?_) (fun c_46 => ?_)
    · refine g_al0n (pc := 53) C dX12_whyNot_53 ?_
      refine g_il3n (pc := 54) C dX12_whyNot_54 ?_
      refine g_iconst (pc := 55) (v := 0) C dX12_whyNot_55 (by decide) ?_
      refine s_VI (pc := 56) (st := [(.int (σ 136 (90 + 4 * ((σ 136 (146 + 10 * a + 0)).toNatClampNeg) + 0)))]) C h135 rfl (c_X12_personOf (d := d - 1) (by omega) σ (a := (σ 136 (146 + 10 * a + 1)).toNatClampNeg) (f := 0) (by have := (hI.wth ha c_46).2; omega) (by omega) (hI.wth ha c_46).1 rfl) (by omega) lX12_82 dX12_whyNot_56 rfl (Nat.le_of_ble_eq_true rfl) rfl ?_
      refine g_iadd (pc := 59) C dX12_whyNot_59 ?_
      refine g_is7 (pc := 60) C dX12_whyNot_60 ?_
      refine g_al0n (pc := 62) C dX12_whyNot_62 ?_
      refine g_il2n (pc := 63) C dX12_whyNot_63 ?_
      refine g_iconst (pc := 64) (v := 2) C dX12_whyNot_64 (by decide) ?_
      refine s_VI (pc := 65) (st := []) C h135 rfl (c_X12_personOf (d := d - 1) (by omega) σ (a := (σ 136 (146 + 10 * a + 0)).toNatClampNeg) (f := 2) hw2 (by omega) hw1 rfl) (by omega) lX12_82 dX12_whyNot_65 rfl (Nat.le_of_ble_eq_true rfl) rfl ?_
      refine g_is8 (pc := 68) C dX12_whyNot_68 ?_
      refine g_al0n (pc := 70) C dX12_whyNot_70 ?_
      refine s_getR (pc := 71) C fX12_9 h135 rfl dX12_whyNot_71 ?_
      refine g_bipush (pc := 74) (v := 27) C dX12_whyNot_74 (by decide) ?_
      refine s_iald (pc := 76) (q := 27) C h136 rfl (by omega) (Nat.le_of_ble_eq_true rfl) dX12_whyNot_76 ?_
      refine g_is9 (pc := 77) C dX12_whyNot_77 ?_
      exact y_79_1 hd C hr σ hI ha (by first | exact b_34 | exact Bool.eq_false_iff.mpr b_34) (by simp only [weigh, aA, aP, b_34, c_46, eq_self, ne_eq, not_true_eq_false, not_false_eq_true, Classical.not_not, decide_true, decide_false, and_true, true_and, and_false, false_and, and_self, or_true, true_or, or_false, false_or, or_self, if_true, if_false, ite_true, ite_false, Bool.eq_false_iff, Bool.not_eq_eq_eq_not, Bool.true_eq_false, Bool.false_eq_true, reduceCtorEq]) _
    · refine g_iconst (pc := 49) (v := 0) C dX12_whyNot_49 (by decide) ?_
      refine g_goto (pc := 50) (tgt := 59) C dX12_whyNot_50 (by decide) ?_
      refine g_iadd (pc := 59) C dX12_whyNot_59 ?_
      refine g_is7 (pc := 60) C dX12_whyNot_60 ?_
      refine g_al0n (pc := 62) C dX12_whyNot_62 ?_
      refine g_il2n (pc := 63) C dX12_whyNot_63 ?_
      refine g_iconst (pc := 64) (v := 2) C dX12_whyNot_64 (by decide) ?_
      refine s_VI (pc := 65) (st := []) C h135 rfl (c_X12_personOf (d := d - 1) (by omega) σ (a := (σ 136 (146 + 10 * a + 0)).toNatClampNeg) (f := 2) hw2 (by omega) hw1 rfl) (by omega) lX12_82 dX12_whyNot_65 rfl (Nat.le_of_ble_eq_true rfl) rfl ?_
      refine g_is8 (pc := 68) C dX12_whyNot_68 ?_
      refine g_al0n (pc := 70) C dX12_whyNot_70 ?_
      refine s_getR (pc := 71) C fX12_9 h135 rfl dX12_whyNot_71 ?_
      refine g_bipush (pc := 74) (v := 27) C dX12_whyNot_74 (by decide) ?_
      refine s_iald (pc := 76) (q := 27) C h136 rfl (by omega) (Nat.le_of_ble_eq_true rfl) dX12_whyNot_76 ?_
      refine g_is9 (pc := 77) C dX12_whyNot_77 ?_
      exact y_79_1 hd C hr σ hI ha (by first | exact b_34 | exact Bool.eq_false_iff.mpr b_34) (by simp only [weigh, aA, aP, b_34, c_46, eq_self, ne_eq, not_true_eq_false, not_false_eq_true, Classical.not_not, decide_true, decide_false, and_true, true_and, and_false, false_and, and_self, or_true, true_or, or_false, false_or, or_self, if_true, if_false, ite_true, ite_false, Bool.eq_false_iff, Bool.not_eq_eq_eq_not, Bool.true_eq_false, Bool.false_eq_true, reduceCtorEq]) _
  · refine g_is6 (pc := 37) C dX12_whyNot_37 ?_
    refine g_al0n (pc := 39) C dX12_whyNot_39 ?_
    refine g_il2n (pc := 40) C dX12_whyNot_40 ?_
    refine g_iconst (pc := 41) (v := 0) C dX12_whyNot_41 (by decide) ?_
    refine s_VI (pc := 42) (st := []) C h135 rfl (c_X12_personOf (d := d - 1) (by omega) σ (a := (σ 136 (146 + 10 * a + 0)).toNatClampNeg) (f := 0) hw2 (by omega) hw1 rfl) (by omega) lX12_82 dX12_whyNot_42 rfl (Nat.le_of_ble_eq_true rfl) rfl ?_
    refine g_il3n (pc := 45) C dX12_whyNot_45 ?_
    refine g_if_geL (pc := 46) (tgt := 53) C dX12_whyNot_46 (by decide) (fun c_46 => ?_) (fun c_46 => ?_)
    · refine g_al0n (pc := 53) C dX12_whyNot_53 ?_
      refine g_il3n (pc := 54) C dX12_whyNot_54 ?_
      refine g_iconst (pc := 55) (v := 0) C dX12_whyNot_55 (by decide) ?_
      refine s_VI (pc := 56) (st := [(.int (σ 136 (90 + 4 * ((σ 136 (146 + 10 * a + 0)).toNatClampNeg) + 0)))]) C h135 rfl (c_X12_personOf (d := d - 1) (by omega) σ (a := (σ 136 (146 + 10 * a + 1)).toNatClampNeg) (f := 0) (by have := (hI.wth ha c_46).2; omega) (by omega) (hI.wth ha c_46).1 rfl) (by omega) lX12_82 dX12_whyNot_56 rfl (Nat.le_of_ble_eq_true rfl) rfl ?_
      refine g_iadd (pc := 59) C dX12_whyNot_59 ?_
      refine g_is7 (pc := 60) C dX12_whyNot_60 ?_
      refine g_al0n (pc := 62) C dX12_whyNot_62 ?_
      refine g_il2n (pc := 63) C dX12_whyNot_63 ?_
      refine g_iconst (pc := 64) (v := 2) C dX12_whyNot_64 (by decide) ?_
      refine s_VI (pc := 65) (st := []) C h135 rfl (c_X12_personOf (d := d - 1) (by omega) σ (a := (σ 136 (146 + 10 * a + 0)).toNatClampNeg) (f := 2) hw2 (by omega) hw1 rfl) (by omega) lX12_82 dX12_whyNot_65 rfl (Nat.le_of_ble_eq_true rfl) rfl ?_
      refine g_is8 (pc := 68) C dX12_whyNot_68 ?_
      refine g_al0n (pc := 70) C dX12_whyNot_70 ?_
      refine s_getR (pc := 71) C fX12_9 h135 rfl dX12_whyNot_71 ?_
      refine g_bipush (pc := 74) (v := 27) C dX12_whyNot_74 (by decide) ?_
      refine s_iald (pc := 76) (q := 27) C h136 rfl (by omega) (Nat.le_of_ble_eq_true rfl) dX12_whyNot_76 ?_
      refine g_is9 (pc := 77) C dX12_whyNot_77 ?_
      exact y_79_0 hd C hr σ hI ha (by first | exact b_34 | exact Bool.eq_false_iff.mpr b_34) (by simp only [weigh, aA, aP, b_34, c_46, eq_self, ne_eq, not_true_eq_false, not_false_eq_true, Classical.not_not, decide_true, decide_false, and_true, true_and, and_false, false_and, and_self, or_true, true_or, or_false, false_or, or_self, if_true, if_false, ite_true, ite_false, Bool.eq_false_iff, Bool.not_eq_eq_eq_not, Bool.true_eq_false, Bool.false_eq_true, reduceCtorEq]) _
    · refine g_iconst (pc := 49) (v := 0) C dX12_whyNot_49 (by decide) ?_
      refine g_goto (pc := 50) (tgt := 59) C dX12_whyNot_50 (by decide) ?_
      refine g_iadd (pc := 59) C dX12_whyNot_59 ?_
      refine g_is7 (pc := 60) C dX12_whyNot_60 ?_
      refine g_al0n (pc := 62) C dX12_whyNot_62 ?_
      refine g_il2n (pc := 63) C dX12_whyNot_63 ?_
      refine g_iconst (pc := 64) (v := 2) C dX12_whyNot_64 (by decide) ?_
      refine s_VI (pc := 65) (st := []) C h135 rfl (c_X12_personOf (d := d - 1) (by omega) σ (a := (σ 136 (146 + 10 * a + 0)).toNatClampNeg) (f := 2) hw2 (by omega) hw1 rfl) (by omega) lX12_82 dX12_whyNot_65 rfl (Nat.le_of_ble_eq_true rfl) rfl ?_
      refine g_is8 (pc := 68) C dX12_whyNot_68 ?_
      refine g_al0n (pc := 70) C dX12_whyNot_70 ?_
      refine s_getR (pc := 71) C fX12_9 h135 rfl dX12_whyNot_71 ?_
      refine g_bipush (pc := 74) (v := 27) C dX12_whyNot_74 (by decide) ?_
      refine s_iald (pc := 76) (q := 27) C h136 rfl (by omega) (Nat.le_of_ble_eq_true rfl) dX12_whyNot_76 ?_
      refine g_is9 (pc := 77) C dX12_whyNot_77 ?_
      exact y_79_0 hd C hr σ hI ha (by first | exact b_34 | exact Bool.eq_false_iff.mpr b_34) (by simp only [weigh, aA, aP, b_34, c_46, eq_self, ne_eq, not_true_eq_false, not_false_eq_true, Classical.not_not, decide_true, decide_false, and_true, true_and, and_false, false_and, and_self, or_true, true_or, or_false, false_or, or_self, if_true, if_false, ite_true, ite_false, Bool.eq_false_iff, Bool.not_eq_eq_eq_not, Bool.true_eq_false, Bool.false_eq_true, reduceCtorEq]) _

