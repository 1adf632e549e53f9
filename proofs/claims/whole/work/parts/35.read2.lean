/-! ===== the model reads a text: parts of it ===== -/
/-- where a part of a text leaves the model -/
def RSm (σ : Sg) (n o : Nat) (s : List Int32) (r : PR) (τ : Sg) : Prop := match r with
  | .inl (q', s') => τ = mst σ n 0 o q' (s ++ s')
  | .inr q' => ∃ s', τ = mst σ n 1 o q' s'
theorem sg_end {t : Nu} {n q : Nat} (h : n ≤ q) (hq : q ≤ n) : sg t n q = -1 := by
  have e : stS t n q = n := by have := stS_le (t := t) hq; omega
  unfold sg sortS
  rw [if_pos e, if_neg (by decide)]
theorem lp_stop {t : Nu} {n : Nat} {P : Nat → PR} {op : Int32 → Int32} {f q : Nat} {s : List Int32} (h : op (sg t n q) = 0) : lpP t n P op (f + 1) q s = pOk q s := if_pos h
theorem lp_go {t : Nu} {n : Nat} {P : Nat → PR} {op : Int32 → Int32} {f q q' : Nat} {s s' : List Int32} {c : Int32} (h : op (sg t n q) = c) (hc : c ≠ 0) (hr : P (enS t n q) = .inl (q', s')) : lpP t n P op (f + 1) q s = lpP t n P op f q' (s ++ s' ++ [c]) := by
  show (if op (sg t n q) = 0 then pOk q s else bnd (P (enS t n q)) (fun q' s' => lpP t n P op f q' (s ++ s' ++ [op (sg t n q)]))) = _
  rw [if_neg (by rw [h]; exact hc), hr, h]
  rfl
theorem lp_no {t : Nu} {n : Nat} {P : Nat → PR} {op : Int32 → Int32} {f q q' : Nat} {s : List Int32} {c : Int32} (h : op (sg t n q) = c) (hc : c ≠ 0) (hr : P (enS t n q) = .inr q') : lpP t n P op (f + 1) q s = pNo q' := by
  show (if op (sg t n q) = 0 then pOk q s else bnd (P (enS t n q)) (fun q' s' => lpP t n P op f q' (s ++ s' ++ [op (sg t n q)]))) = _
  rw [if_neg (by rw [h]; exact hc), hr]
  rfl
theorem w_part {d : Nat} (hd : 6 ≤ d) (σ : Sg) (n o q : Nat) (s : List Int32) : CU d mX12_part [.ref 135] ((mst σ n 1 o q s)) ((mst σ n 1 o q s)) := by
  refine con_of (by decide) (catL rfl) (Nat.le_of_ble_eq_true rfl) ?_
  intro μ ω C hr
  have C : Cx μ ω "TowFieldModel" cX12_part 4 d := C
  have hr : (mH μ).sig.returnType = none := hr
  show G μ ω (RQ μ ω (pU ((mst σ n 1 o q s)))) 0 [some (.ref 135), none, none, none] [] (mk ((mst σ n 1 o q s))) 0 0
  refine g_iconst (pc := 0) (v := (-1)) C dX12_part_0 (by decide) ?_
  refine g_is1n (pc := 1) C dX12_part_1 ?_
  refine g_iconst (pc := 2) (v := 0) C dX12_part_2 (by decide) ?_
  refine g_is2n (pc := 3) C dX12_part_3 ?_
  refine g_il2n (pc := 4) C dX12_part_4 ?_
  refine g_al0n (pc := 5) C dX12_part_5 ?_
  refine s_getR (pc := 6) C fX12_35 h135 rfl dX12_part_6 ?_
  refine s_alenR (pc := 9) C h141 (by decide) dX12_part_9 ?_
  refine g_icmp_geL (pc := 10) (tgt := 38) C dX12_part_10 (by decide) (fun c_10 => absurd (by decide) c_10) (fun c_10 => ?_)
  refine g_al0n (pc := 13) C dX12_part_13 ?_
  refine g_al0n (pc := 14) C dX12_part_14 ?_
  refine s_getR (pc := 15) C fX12_35 h135 rfl dX12_part_15 ?_
  refine g_il2n (pc := 18) C dX12_part_18 ?_
  refine s_aald (pc := 19) (q := 0) C h141 (by decide) rfl rfl (by decide) dX12_part_19 ?_
  refine s_VB (pc := 20) (st := []) C h135 rfl (c_isWord1 (d := d - 1) (by omega) σ n o q s 5) (by omega) lX12_283 dX12_part_20 rfl (Nat.le_of_ble_eq_true rfl) rfl (fun b_20 => b_20.elim) (fun b_20 => ?_)
  refine g_if_eq (pc := 23) (tgt := 30) C dX12_part_23 (by decide) (fun _ => ?_) (fun c => absurd c (by decide))
  refine g_il1n (pc := 30) C dX12_part_30 ?_
  refine g_is1n (pc := 31) C dX12_part_31 ?_
  refine g_ii2 (pc := 32) (v := 1) C dX12_part_32 (by decide) ?_
  refine g_goto (pc := 35) (tgt := 4) C dX12_part_35 (by decide) ?_
  refine g_il2n (pc := 4) C dX12_part_4 ?_
  refine g_al0n (pc := 5) C dX12_part_5 ?_
  refine s_getR (pc := 6) C fX12_35 h135 rfl dX12_part_6 ?_
  refine s_alenR (pc := 9) C h141 (by decide) dX12_part_9 ?_
  refine g_icmp_geL (pc := 10) (tgt := 38) C dX12_part_10 (by decide) (fun c_10_2 => absurd (by decide) c_10_2) (fun c_10_2 => ?_)
  refine g_al0n (pc := 13) C dX12_part_13 ?_
  refine g_al0n (pc := 14) C dX12_part_14 ?_
  refine s_getR (pc := 15) C fX12_35 h135 rfl dX12_part_15 ?_
  refine g_il2n (pc := 18) C dX12_part_18 ?_
  refine s_aald (pc := 19) (q := 1) C h141 (by decide) rfl rfl (by decide) dX12_part_19 ?_
  refine s_VB (pc := 20) (st := []) C h135 rfl (c_isWord1 (d := d - 1) (by omega) σ n o q s 6) (by omega) lX12_283 dX12_part_20 rfl (Nat.le_of_ble_eq_true rfl) rfl (fun b_20 => b_20.elim) (fun b_20 => ?_)
  refine g_if_eq (pc := 23) (tgt := 30) C dX12_part_23 (by decide) (fun _ => ?_) (fun c => absurd c (by decide))
  refine g_il1n (pc := 30) C dX12_part_30 ?_
  refine g_is1n (pc := 31) C dX12_part_31 ?_
  refine g_ii2 (pc := 32) (v := 2) C dX12_part_32 (by decide) ?_
  refine g_goto (pc := 35) (tgt := 4) C dX12_part_35 (by decide) ?_
  refine g_il2n (pc := 4) C dX12_part_4 ?_
  refine g_al0n (pc := 5) C dX12_part_5 ?_
  refine s_getR (pc := 6) C fX12_35 h135 rfl dX12_part_6 ?_
  refine s_alenR (pc := 9) C h141 (by decide) dX12_part_9 ?_
  refine g_icmp_geL (pc := 10) (tgt := 38) C dX12_part_10 (by decide) (fun c_10_3 => absurd (by decide) c_10_3) (fun c_10_3 => ?_)
  refine g_al0n (pc := 13) C dX12_part_13 ?_
  refine g_al0n (pc := 14) C dX12_part_14 ?_
  refine s_getR (pc := 15) C fX12_35 h135 rfl dX12_part_15 ?_
  refine g_il2n (pc := 18) C dX12_part_18 ?_
  refine s_aald (pc := 19) (q := 2) C h141 (by decide) rfl rfl (by decide) dX12_part_19 ?_
  refine s_VB (pc := 20) (st := []) C h135 rfl (c_isWord1 (d := d - 1) (by omega) σ n o q s 7) (by omega) lX12_283 dX12_part_20 rfl (Nat.le_of_ble_eq_true rfl) rfl (fun b_20 => b_20.elim) (fun b_20 => ?_)
  refine g_if_eq (pc := 23) (tgt := 30) C dX12_part_23 (by decide) (fun _ => ?_) (fun c => absurd c (by decide))
  refine g_il1n (pc := 30) C dX12_part_30 ?_
  refine g_is1n (pc := 31) C dX12_part_31 ?_
  refine g_ii2 (pc := 32) (v := 3) C dX12_part_32 (by decide) ?_
  refine g_goto (pc := 35) (tgt := 4) C dX12_part_35 (by decide) ?_
  refine g_il2n (pc := 4) C dX12_part_4 ?_
  refine g_al0n (pc := 5) C dX12_part_5 ?_
  refine s_getR (pc := 6) C fX12_35 h135 rfl dX12_part_6 ?_
  refine s_alenR (pc := 9) C h141 (by decide) dX12_part_9 ?_
  refine g_icmp_geL (pc := 10) (tgt := 38) C dX12_part_10 (by decide) (fun c_10_4 => absurd (by decide) c_10_4) (fun c_10_4 => ?_)
  refine g_al0n (pc := 13) C dX12_part_13 ?_
  refine g_al0n (pc := 14) C dX12_part_14 ?_
  refine s_getR (pc := 15) C fX12_35 h135 rfl dX12_part_15 ?_
  refine g_il2n (pc := 18) C dX12_part_18 ?_
  refine s_aald (pc := 19) (q := 3) C h141 (by decide) rfl rfl (by decide) dX12_part_19 ?_
  refine s_VB (pc := 20) (st := []) C h135 rfl (c_isWord1 (d := d - 1) (by omega) σ n o q s 8) (by omega) lX12_283 dX12_part_20 rfl (Nat.le_of_ble_eq_true rfl) rfl (fun b_20 => b_20.elim) (fun b_20 => ?_)
  refine g_if_eq (pc := 23) (tgt := 30) C dX12_part_23 (by decide) (fun _ => ?_) (fun c => absurd c (by decide))
  refine g_il1n (pc := 30) C dX12_part_30 ?_
  refine g_is1n (pc := 31) C dX12_part_31 ?_
  refine g_ii2 (pc := 32) (v := 4) C dX12_part_32 (by decide) ?_
  refine g_goto (pc := 35) (tgt := 4) C dX12_part_35 (by decide) ?_
  refine g_il2n (pc := 4) C dX12_part_4 ?_
  refine g_al0n (pc := 5) C dX12_part_5 ?_
  refine s_getR (pc := 6) C fX12_35 h135 rfl dX12_part_6 ?_
  refine s_alenR (pc := 9) C h141 (by decide) dX12_part_9 ?_
  refine g_icmp_geL (pc := 10) (tgt := 38) C dX12_part_10 (by decide) (fun c_10_5 => ?_) (fun c_10_5 => absurd c_10_5 (by decide))
  refine g_al0n (pc := 38) C dX12_part_38 ?_
  refine s_getIv (pc := 39) (v := 1) C fX12_238 h135 rfl rfl dX12_part_39 ?_
  refine g_if_ne (pc := 42) (tgt := 115) C dX12_part_42 (by decide) (fun _ => ?_) (fun c => absurd c (by decide))
  refine g_il1n (pc := 115) C dX12_part_115 ?_
  refine g_if_lt (pc := 116) (tgt := 136) C dX12_part_116 (by decide) (fun _ => ?_) (fun c => absurd c (by decide))
  refine g_al0n (pc := 136) C dX12_part_136 ?_
  refine g_al0n (pc := 137) C dX12_part_137 ?_
  refine g_bipush (pc := 138) (v := 40) C dX12_part_138 (by decide) ?_
  refine s_VB (pc := 140) (st := [(.ref 135)]) C h135 rfl (c_isSign1 (d := d - 1) (by omega) σ n o q s 40) (by omega) lX12_258 dX12_part_140 rfl (Nat.le_of_ble_eq_true rfl) rfl (fun bw_140 => bw_140.elim) (fun bw_140 => ?_)
  refine g_if_eq (pc := 143) (tgt := 159) C dX12_part_143 (by decide) (fun _ => ?_) (fun c => absurd c (by decide))
  refine g_iconst (pc := 159) (v := 0) C dX12_part_159 (by decide) ?_
  refine s_VU (pc := 160) (st := []) C h135 rfl (c_needW0 (d := d - 1) (by omega) σ n o q s) (by omega) lX12_261 dX12_part_160 rfl (Nat.le_of_ble_eq_true rfl) rfl ?_
  refine g_al0n (pc := 163) C dX12_part_163 ?_
  refine g_dup (pc := 164) C dX12_part_164 rfl ?_
  refine s_getIv (pc := 165) (v := nI o) C fX12_271 h135 rfl rfl dX12_part_165 ?_
  refine g_iconst (pc := 168) (v := 1) C dX12_part_168 (by decide) ?_
  refine g_iadd (pc := 169) C dX12_part_169 ?_
  refine s_putIv (pc := 170) (σ' := (mst σ n 1 (o + 1) q s)) C pX12_271 h135 rfl (mst_o (by first | rfl | exact nI_1 _)) dX12_part_170 ?_
  refine g_al0n (pc := 173) C dX12_part_173 ?_
  refine s_getIv (pc := 174) (v := 1) C fX12_238 h135 rfl rfl dX12_part_174 ?_
  refine g_if_ne (pc := 177) (tgt := 184) C dX12_part_177 (by decide) (fun _ => ?_) (fun c => absurd c (by decide))
  refine g_al0n (pc := 184) C dX12_part_184 ?_
  refine g_al0n (pc := 185) C dX12_part_185 ?_
  refine g_bipush (pc := 186) (v := 41) C dX12_part_186 (by decide) ?_
  refine s_VB (pc := 188) (st := [(.ref 135)]) C h135 rfl (c_isSign1 (d := d - 1) (by omega) σ n (o + 1) q s 41) (by omega) lX12_258 dX12_part_188 rfl (Nat.le_of_ble_eq_true rfl) rfl (fun bw_188 => bw_188.elim) (fun bw_188 => ?_)
  refine s_VU (pc := 191) (st := []) C h135 rfl (c_needW0 (d := d - 1) (by omega) σ n (o + 1) q s) (by omega) lX12_261 dX12_part_191 rfl (Nat.le_of_ble_eq_true rfl) rfl ?_
  refine g_al0n (pc := 194) C dX12_part_194 ?_
  refine g_dup (pc := 195) C dX12_part_195 rfl ?_
  refine s_getIv (pc := 196) (v := nI (o + 1)) C fX12_271 h135 rfl rfl dX12_part_196 ?_
  refine g_iconst (pc := 199) (v := 1) C dX12_part_199 (by decide) ?_
  refine g_isub (pc := 200) C dX12_part_200 ?_
  refine s_putIv (pc := 201) (σ' := (mst σ n 1 o q s)) C pX12_271 h135 rfl (mst_o (nI_pred _)) dX12_part_201 ?_
  exact r_U C hr dX12_part_204 rfl

theorem w_product {d : Nat} (hd : 7 ≤ d) (σ : Sg) (n o q : Nat) (s : List Int32) : CU d mX12_product [.ref 135] ((mst σ n 1 o q s)) ((mst σ n 1 o q s)) := by
  refine con_of (by decide) (catL rfl) (Nat.le_of_ble_eq_true rfl) ?_
  intro μ ω C hr
  have C : Cx μ ω "TowFieldModel" cX12_product 2 d := C
  have hr : (mH μ).sig.returnType = none := hr
  show G μ ω (RQ μ ω (pU ((mst σ n 1 o q s)))) 0 [some (.ref 135), none] [] (mk ((mst σ n 1 o q s))) 0 0
  refine g_al0n (pc := 0) C dX12_product_0 ?_
  refine s_VU (pc := 1) (st := []) C h135 rfl (w_part (d := d - 1) (by omega) σ n o q s) (by omega) lX12_280 dX12_product_1 rfl (Nat.le_of_ble_eq_true rfl) rfl ?_
  refine g_al0n (pc := 4) C dX12_product_4 ?_
  refine g_bipush (pc := 5) (v := 42) C dX12_product_5 (by decide) ?_
  refine s_VB (pc := 7) (st := []) C h135 rfl (c_isSign1 (d := d - 1) (by omega) σ n o q s 42) (by omega) lX12_258 dX12_product_7 rfl (Nat.le_of_ble_eq_true rfl) rfl (fun bw_7 => bw_7.elim) (fun bw_7 => ?_)
  refine g_if_ne (pc := 10) (tgt := 22) C dX12_product_10 (by decide) (fun c => absurd c (by decide)) (fun _ => ?_)
  refine g_al0n (pc := 13) C dX12_product_13 ?_
  refine g_bipush (pc := 14) (v := 47) C dX12_product_14 (by decide) ?_
  refine s_VB (pc := 16) (st := []) C h135 rfl (c_isSign1 (d := d - 1) (by omega) σ n o q s 47) (by omega) lX12_258 dX12_product_16 rfl (Nat.le_of_ble_eq_true rfl) rfl (fun bw_16 => bw_16.elim) (fun bw_16 => ?_)
  refine g_if_eq (pc := 19) (tgt := 58) C dX12_product_19 (by decide) (fun _ => ?_) (fun c => absurd c (by decide))
  exact r_U C hr dX12_product_58 rfl

theorem w_sum {d : Nat} (hd : 8 ≤ d) (σ : Sg) (n o q : Nat) (s : List Int32) : CU d mX12_sum [.ref 135] ((mst σ n 1 o q s)) ((mst σ n 1 o q s)) := by
  refine con_of (by decide) (catL rfl) (Nat.le_of_ble_eq_true rfl) ?_
  intro μ ω C hr
  have C : Cx μ ω "TowFieldModel" cX12_sum 2 d := C
  have hr : (mH μ).sig.returnType = none := hr
  show G μ ω (RQ μ ω (pU ((mst σ n 1 o q s)))) 0 [some (.ref 135), none] [] (mk ((mst σ n 1 o q s))) 0 0
  refine g_al0n (pc := 0) C dX12_sum_0 ?_
  refine s_VU (pc := 1) (st := []) C h135 rfl (w_product (d := d - 1) (by omega) σ n o q s) (by omega) lX12_277 dX12_sum_1 rfl (Nat.le_of_ble_eq_true rfl) rfl ?_
  refine g_al0n (pc := 4) C dX12_sum_4 ?_
  refine g_bipush (pc := 5) (v := 43) C dX12_sum_5 (by decide) ?_
  refine s_VB (pc := 7) (st := []) C h135 rfl (c_isSign1 (d := d - 1) (by omega) σ n o q s 43) (by omega) lX12_258 dX12_sum_7 rfl (Nat.le_of_ble_eq_true rfl) rfl (fun bw_7 => bw_7.elim) (fun bw_7 => ?_)
  refine g_if_ne (pc := 10) (tgt := 22) C dX12_sum_10 (by decide) (fun c => absurd c (by decide)) (fun _ => ?_)
  refine g_al0n (pc := 13) C dX12_sum_13 ?_
  refine g_bipush (pc := 14) (v := 45) C dX12_sum_14 (by decide) ?_
  refine s_VB (pc := 16) (st := []) C h135 rfl (c_isSign1 (d := d - 1) (by omega) σ n o q s 45) (by omega) lX12_258 dX12_sum_16 rfl (Nat.le_of_ble_eq_true rfl) rfl (fun bw_16 => bw_16.elim) (fun bw_16 => ?_)
  refine g_if_eq (pc := 19) (tgt := 58) C dX12_sum_19 (by decide) (fun _ => ?_) (fun c => absurd c (by decide))
  exact r_U C hr dX12_sum_58 rfl

theorem w_not {d : Nat} (hd : 9 ≤ d) (σ : Sg) (n o q : Nat) (s : List Int32) : CU d mX12_not [.ref 135] ((mst σ n 1 o q s)) ((mst σ n 1 o q s)) := by
  refine con_of (by decide) (catL rfl) (Nat.le_of_ble_eq_true rfl) ?_
  intro μ ω C hr
  have C : Cx μ ω "TowFieldModel" cX12_not 2 d := C
  have hr : (mH μ).sig.returnType = none := hr
  show G μ ω (RQ μ ω (pU ((mst σ n 1 o q s)))) 0 [some (.ref 135), none] [] (mk ((mst σ n 1 o q s))) 0 0
  refine g_al0n (pc := 0) C dX12_not_0 ?_
  refine g_bipush (pc := 1) (v := 33) C dX12_not_1 (by decide) ?_
  refine s_VB (pc := 3) (st := []) C h135 rfl (c_isSign1 (d := d - 1) (by omega) σ n o q s 33) (by omega) lX12_258 dX12_not_3 rfl (Nat.le_of_ble_eq_true rfl) rfl (fun bw_3 => bw_3.elim) (fun bw_3 => ?_)
  refine g_if_eq (pc := 6) (tgt := 59) C dX12_not_6 (by decide) (fun _ => ?_) (fun c => absurd c (by decide))
  refine g_al0n (pc := 59) C dX12_not_59 ?_
  refine s_VU (pc := 60) (st := []) C h135 rfl (w_sum (d := d - 1) (by omega) σ n o q s) (by omega) lX12_274 dX12_not_60 rfl (Nat.le_of_ble_eq_true rfl) rfl ?_
  refine g_al0n (pc := 63) C dX12_not_63 ?_
  refine g_bipush (pc := 64) (v := 60) C dX12_not_64 (by decide) ?_
  refine s_VB (pc := 66) (st := []) C h135 rfl (c_isSign1 (d := d - 1) (by omega) σ n o q s 60) (by omega) lX12_258 dX12_not_66 rfl (Nat.le_of_ble_eq_true rfl) rfl (fun bw_66 => bw_66.elim) (fun bw_66 => ?_)
  refine g_if_eq (pc := 69) (tgt := 78) C dX12_not_69 (by decide) (fun _ => ?_) (fun c => absurd c (by decide))
  refine g_al0n (pc := 78) C dX12_not_78 ?_
  refine g_bipush (pc := 79) (v := 61) C dX12_not_79 (by decide) ?_
  refine s_VB (pc := 81) (st := []) C h135 rfl (c_isSign1 (d := d - 1) (by omega) σ n o q s 61) (by omega) lX12_258 dX12_not_81 rfl (Nat.le_of_ble_eq_true rfl) rfl (fun bw_81 => bw_81.elim) (fun bw_81 => ?_)
  refine g_if_eq (pc := 84) (tgt := 93) C dX12_not_84 (by decide) (fun _ => ?_) (fun c => absurd c (by decide))
  refine g_al0n (pc := 93) C dX12_not_93 ?_
  refine g_bipush (pc := 94) (v := 62) C dX12_not_94 (by decide) ?_
  refine s_VB (pc := 96) (st := []) C h135 rfl (c_isSign1 (d := d - 1) (by omega) σ n o q s 62) (by omega) lX12_258 dX12_not_96 rfl (Nat.le_of_ble_eq_true rfl) rfl (fun bw_96 => bw_96.elim) (fun bw_96 => ?_)
  refine g_if_eq (pc := 99) (tgt := 108) C dX12_not_99 (by decide) (fun _ => ?_) (fun c => absurd c (by decide))
  refine g_iconst (pc := 108) (v := 0) C dX12_not_108 (by decide) ?_
  refine g_is1n (pc := 109) C dX12_not_109 ?_
  refine g_il1n (pc := 110) C dX12_not_110 ?_
  refine g_if_leL (pc := 111) (tgt := 128) C dX12_not_111 (by decide) (fun _ => ?_) (fun c => absurd c (by decide))
  exact r_U C hr dX12_not_128 rfl

theorem w_both {d : Nat} (hd : 10 ≤ d) (σ : Sg) (n o q : Nat) (s : List Int32) : CU d mX12_both [.ref 135] ((mst σ n 1 o q s)) ((mst σ n 1 o q s)) := by
  refine con_of (by decide) (catL rfl) (Nat.le_of_ble_eq_true rfl) ?_
  intro μ ω C hr
  have C : Cx μ ω "TowFieldModel" cX12_both 1 d := C
  have hr : (mH μ).sig.returnType = none := hr
  show G μ ω (RQ μ ω (pU ((mst σ n 1 o q s)))) 0 [some (.ref 135)] [] (mk ((mst σ n 1 o q s))) 0 0
  refine g_al0n (pc := 0) C dX12_both_0 ?_
  refine s_VU (pc := 1) (st := []) C h135 rfl (w_not (d := d - 1) (by omega) σ n o q s) (by omega) lX12_268 dX12_both_1 rfl (Nat.le_of_ble_eq_true rfl) rfl ?_
  refine g_al0n (pc := 4) C dX12_both_4 ?_
  refine g_bipush (pc := 5) (v := 38) C dX12_both_5 (by decide) ?_
  refine s_VB (pc := 7) (st := []) C h135 rfl (c_isSign1 (d := d - 1) (by omega) σ n o q s 38) (by omega) lX12_258 dX12_both_7 rfl (Nat.le_of_ble_eq_true rfl) rfl (fun bw_7 => bw_7.elim) (fun bw_7 => ?_)
  refine g_if_eq (pc := 10) (tgt := 32) C dX12_both_10 (by decide) (fun _ => ?_) (fun c => absurd c (by decide))
  exact r_U C hr dX12_both_32 rfl

theorem w_either {d : Nat} (hd : 11 ≤ d) (σ : Sg) (n o q : Nat) (s : List Int32) : CU d mX12_either [.ref 135] ((mst σ n 1 o q s)) ((mst σ n 1 o q s)) := by
  refine con_of (by decide) (catL rfl) (Nat.le_of_ble_eq_true rfl) ?_
  intro μ ω C hr
  have C : Cx μ ω "TowFieldModel" cX12_either 1 d := C
  have hr : (mH μ).sig.returnType = none := hr
  show G μ ω (RQ μ ω (pU ((mst σ n 1 o q s)))) 0 [some (.ref 135)] [] (mk ((mst σ n 1 o q s))) 0 0
  refine g_al0n (pc := 0) C dX12_either_0 ?_
  refine s_VU (pc := 1) (st := []) C h135 rfl (w_both (d := d - 1) (by omega) σ n o q s) (by omega) lX12_255 dX12_either_1 rfl (Nat.le_of_ble_eq_true rfl) rfl ?_
  refine g_al0n (pc := 4) C dX12_either_4 ?_
  refine g_bipush (pc := 5) (v := 124) C dX12_either_5 (by decide) ?_
  refine s_VB (pc := 7) (st := []) C h135 rfl (c_isSign1 (d := d - 1) (by omega) σ n o q s 124) (by omega) lX12_258 dX12_either_7 rfl (Nat.le_of_ble_eq_true rfl) rfl (fun bw_7 => bw_7.elim) (fun bw_7 => ?_)
  refine g_if_eq (pc := 10) (tgt := 32) C dX12_either_10 (by decide) (fun _ => ?_) (fun c => absurd c (by decide))
  exact r_U C hr dX12_either_32 rfl

theorem lp_either {μ : Mx} {ω : Om} {d : Nat} (C : Cx μ ω "TowFieldModel" cX12_either 1 d) (hr : (mH μ).sig.returnType = none) (σ : Sg) {n : Nat} (hn : σ 135 6 = nI n) (hn1 : n ≤ 100) (o : Nat) {P : Nat → PR} (hG : GoodP n P) {D : Nat} (hP : ∀ d' q s, D ≤ d' → q ≤ n → s.length ≤ q → CQ d' mX12_both [.ref 135] (mst σ n 0 o q s) (RSm σ n o s (P q))) (hd : D + 12 ≤ d) (s0 : List Int32) : ∀ (f q : Nat) (s : List Int32), n ≤ q + f → q ≤ n → (s0 ++ s).length ≤ q → G μ ω (RQ μ ω (pQ (RSm σ n o s0 (lpP (σ 140) n P opE f q s)))) 4 [some (.ref 135)] [] (mk (mst σ n 0 o q (s0 ++ s))) 0 0 := by
  intro f
  induction f with
  | zero =>
    intro q s hf hq hs
    have hsg := sg_end (t := σ 140) (show n ≤ q by omega) hq
    refine g_al0n (pc := 4) C dX12_either_4 ?_
    refine g_bipush (pc := 5) (v := 124) C dX12_either_5 (by decide) ?_
    refine s_VB (pc := 7) (st := []) C h135 rfl (c_isSign0 (d := d - 1) (by omega) σ hn hn1 o (q := q) (by omega) (s0 ++ s) (c := 124) (by decide)) (by omega) lX12_258 dX12_either_7 rfl (Nat.le_of_ble_eq_true rfl) rfl (fun b_7 => absurd b_7 (by rw [hsg]; decide)) (fun b_7 => ?_)
    refine g_if_eq (pc := 10) (tgt := 32) C dX12_either_10 (by decide) (fun _ => ?_) (fun c => absurd c (by decide))
    exact r_Q C hr dX12_either_32 rfl
  | succ f ih =>
    intro q s hf hq hs
    refine g_al0n (pc := 4) C dX12_either_4 ?_
    refine g_bipush (pc := 5) (v := 124) C dX12_either_5 (by decide) ?_
    refine s_VB (pc := 7) (st := []) C h135 rfl (c_isSign0 (d := d - 1) (by omega) σ hn hn1 o (q := q) (by omega) (s0 ++ s) (c := 124) (by decide)) (by omega) lX12_258 dX12_either_7 rfl (Nat.le_of_ble_eq_true rfl) rfl (fun b_7 => ?_) (fun b_7 => ?_)
    · refine g_if_eq (pc := 10) (tgt := 32) C dX12_either_10 (by decide) (fun c => absurd c (by decide)) (fun _ => ?_)
      refine g_al0n (pc := 13) C dX12_either_13 ?_
      refine g_iconst (pc := 14) (v := 1) C dX12_either_14 (by decide) ?_
      refine s_VQ (pc := 15) (st := []) C h135 rfl (c_need1 (d := d - 1) (by omega) σ hn hn1 o (q := q) (by omega) (s0 ++ s)) (by omega) lX12_261 dX12_either_15 rfl (Nat.le_of_ble_eq_true rfl) rfl (fun τ hτ => ?_)
      subst hτ
      refine g_al0n (pc := 18) C dX12_either_18 ?_
      refine s_VQ (pc := 19) (st := []) C h135 rfl (hP (d - 1) (enS (σ 140) n q) (s0 ++ s) (by omega) (enS_le (t := σ 140) hq).2.1 (by have := (enS_le (t := σ 140) hq).1; have := (stS_le (t := σ 140) hq).1; omega)) (by omega) lX12_255 dX12_either_19 rfl (Nat.le_of_ble_eq_true rfl) rfl (fun τ hτ => ?_)
      rcases hr2 : P (enS (σ 140) n q) with ⟨q', s'⟩ | q'
      · have hτ2 : τ = mst σ n 0 o q' (s0 ++ s ++ s') := by have z := hτ; rw [hr2] at z; exact z
        have hg := hG (enS (σ 140) n q) (enS_le (t := σ 140) hq).2.1
        rw [hr2] at hg
        obtain ⟨g1, g2, g3⟩ := hg
        have g4 := g3.2.1
        subst hτ2
        refine g_al0n (pc := 22) C dX12_either_22 ?_
        refine g_sipush (pc := 23) (v := 10106) C dX12_either_23 (by decide) ?_
        refine s_VU (pc := 26) (st := []) C h135 rfl (c_emit0 (d := d - 1) (by omega) σ n o q' (s0 ++ s ++ s') (by have := (enS_le (t := σ 140) hq).1; have := (stS_le (t := σ 140) hq).1; simp only [List.length_append] at *; omega) 10106) (by omega) lX12_265 dX12_either_26 rfl (Nat.le_of_ble_eq_true rfl) rfl ?_
        refine g_goto (pc := 29) (tgt := 4) C dX12_either_29 (by decide) ?_
        rw [lp_go (c := 10106) (by unfold opE; rw [if_pos b_7]) (by decide) hr2]
        have k := ih q' (s ++ s' ++ [10106]) (by have := (enS_lt (t := σ 140) hq (op_sort OpE (by rw [show opE (sg (σ 140) n q) = 10106 from (by unfold opE; rw [if_pos b_7])]; decide))).1; omega) g2 (by have := (enS_lt (t := σ 140) hq (op_sort OpE (by rw [show opE (sg (σ 140) n q) = 10106 from (by unfold opE; rw [if_pos b_7])]; decide))).1; simp only [List.length_append, List.length_cons, List.length_nil] at *; omega)
        simp only [← List.append_assoc] at k
        exact k
      · obtain ⟨s', hτ2⟩ : ∃ s', τ = mst σ n 1 o q' s' := by have z := hτ; rw [hr2] at z; exact z
        subst hτ2
        refine g_al0n (pc := 22) C dX12_either_22 ?_
        refine g_sipush (pc := 23) (v := 10106) C dX12_either_23 (by decide) ?_
        refine s_VU (pc := 26) (st := []) C h135 rfl (c_emit1 (d := d - 1) (by omega) σ n o q' s' 10106) (by omega) lX12_265 dX12_either_26 rfl (Nat.le_of_ble_eq_true rfl) rfl ?_
        refine g_goto (pc := 29) (tgt := 4) C dX12_either_29 (by decide) ?_
        refine g_al0n (pc := 4) C dX12_either_4 ?_
        refine g_bipush (pc := 5) (v := 124) C dX12_either_5 (by decide) ?_
        refine s_VB (pc := 7) (st := []) C h135 rfl (c_isSign1 (d := d - 1) (by omega) σ n o q' s' 124) (by omega) lX12_258 dX12_either_7 rfl (Nat.le_of_ble_eq_true rfl) rfl (fun bw_7 => bw_7.elim) (fun bw_7 => ?_)
        refine g_if_eq (pc := 10) (tgt := 32) C dX12_either_10 (by decide) (fun _ => ?_) (fun c => absurd c (by decide))
        rw [lp_no (c := 10106) (by unfold opE; rw [if_pos b_7]) (by decide) hr2]
        exact r_Q C hr dX12_either_32 ⟨_, rfl⟩
    · refine g_if_eq (pc := 10) (tgt := 32) C dX12_either_10 (by decide) (fun _ => ?_) (fun c => absurd c (by decide))
      rw [lp_stop (by unfold opE; rw [if_neg b_7])]
      exact r_Q C hr dX12_either_32 rfl
theorem c_either {d : Nat}  (σ : Sg) {n : Nat} (hn : σ 135 6 = nI n) (hn1 : n ≤ 100) (o : Nat) {P : Nat → PR} (hG : GoodP n P) {D : Nat} (hP : ∀ d' q s, D ≤ d' → q ≤ n → s.length ≤ q → CQ d' mX12_both [.ref 135] (mst σ n 0 o q s) (RSm σ n o s (P q))) {q : Nat} (hq : q ≤ n) {s : List Int32} (hs : s.length ≤ q) (hd : D + 12 ≤ d) : CQ d mX12_either [.ref 135] ((mst σ n 0 o q s)) (RSm σ n o s (bnd (P q) (lpP (σ 140) n P opE 100))) := by
  refine con_of (by decide) (catL rfl) (Nat.le_of_ble_eq_true rfl) ?_
  intro μ ω C hr
  have C : Cx μ ω "TowFieldModel" cX12_either 1 d := C
  have hr : (mH μ).sig.returnType = none := hr
  show G μ ω (RQ μ ω (pQ (RSm σ n o s (bnd (P q) (lpP (σ 140) n P opE 100))))) 0 [some (.ref 135)] [] (mk ((mst σ n 0 o q s))) 0 0
  refine g_al0n (pc := 0) C dX12_either_0 ?_
  refine s_VQ (pc := 1) (st := []) C h135 rfl (hP (d - 1) q s (by omega) hq hs) (by omega) lX12_255 dX12_either_1 rfl (Nat.le_of_ble_eq_true rfl) rfl (fun τ hτ => ?_)
  rcases hr2 : P q with ⟨q', s'⟩ | q'
  · have hτ2 : τ = mst σ n 0 o q' (s ++ s') := by have z := hτ; rw [hr2] at z; exact z
    have hg := hG q hq
    rw [hr2] at hg
    obtain ⟨g1, g2, g3⟩ := hg
    have g4 := g3.2.1
    subst hτ2
    exact lp_either C hr σ hn hn1 o hG hP (by omega) s 100 q' s' (by omega) g2 (by simp only [List.length_append]; omega)
  · obtain ⟨s', hτ2⟩ : ∃ s', τ = mst σ n 1 o q' s' := by have z := hτ; rw [hr2] at z; exact z
    subst hτ2
    refine g_al0n (pc := 4) C dX12_either_4 ?_
    refine g_bipush (pc := 5) (v := 124) C dX12_either_5 (by decide) ?_
    refine s_VB (pc := 7) (st := []) C h135 rfl (c_isSign1 (d := d - 1) (by omega) σ n o q' s' 124) (by omega) lX12_258 dX12_either_7 rfl (Nat.le_of_ble_eq_true rfl) rfl (fun bw_7 => bw_7.elim) (fun bw_7 => ?_)
    refine g_if_eq (pc := 10) (tgt := 32) C dX12_either_10 (by decide) (fun _ => ?_) (fun c => absurd c (by decide))
    exact r_Q C hr dX12_either_32 ⟨_, rfl⟩

theorem lp_both {μ : Mx} {ω : Om} {d : Nat} (C : Cx μ ω "TowFieldModel" cX12_both 1 d) (hr : (mH μ).sig.returnType = none) (σ : Sg) {n : Nat} (hn : σ 135 6 = nI n) (hn1 : n ≤ 100) (o : Nat) {P : Nat → PR} (hG : GoodP n P) {D : Nat} (hP : ∀ d' q s, D ≤ d' → q ≤ n → s.length ≤ q → CQ d' mX12_not [.ref 135] (mst σ n 0 o q s) (RSm σ n o s (P q))) (hd : D + 12 ≤ d) (s0 : List Int32) : ∀ (f q : Nat) (s : List Int32), n ≤ q + f → q ≤ n → (s0 ++ s).length ≤ q → G μ ω (RQ μ ω (pQ (RSm σ n o s0 (lpP (σ 140) n P opB f q s)))) 4 [some (.ref 135)] [] (mk (mst σ n 0 o q (s0 ++ s))) 0 0 := by
  intro f
  induction f with
  | zero =>
    intro q s hf hq hs
    have hsg := sg_end (t := σ 140) (show n ≤ q by omega) hq
    refine g_al0n (pc := 4) C dX12_both_4 ?_
    refine g_bipush (pc := 5) (v := 38) C dX12_both_5 (by decide) ?_
    refine s_VB (pc := 7) (st := []) C h135 rfl (c_isSign0 (d := d - 1) (by omega) σ hn hn1 o (q := q) (by omega) (s0 ++ s) (c := 38) (by decide)) (by omega) lX12_258 dX12_both_7 rfl (Nat.le_of_ble_eq_true rfl) rfl (fun b_7 => absurd b_7 (by rw [hsg]; decide)) (fun b_7 => ?_)
    refine g_if_eq (pc := 10) (tgt := 32) C dX12_both_10 (by decide) (fun _ => ?_) (fun c => absurd c (by decide))
    exact r_Q C hr dX12_both_32 rfl
  | succ f ih =>
    intro q s hf hq hs
    refine g_al0n (pc := 4) C dX12_both_4 ?_
    refine g_bipush (pc := 5) (v := 38) C dX12_both_5 (by decide) ?_
    refine s_VB (pc := 7) (st := []) C h135 rfl (c_isSign0 (d := d - 1) (by omega) σ hn hn1 o (q := q) (by omega) (s0 ++ s) (c := 38) (by decide)) (by omega) lX12_258 dX12_both_7 rfl (Nat.le_of_ble_eq_true rfl) rfl (fun b_7 => ?_) (fun b_7 => ?_)
    · refine g_if_eq (pc := 10) (tgt := 32) C dX12_both_10 (by decide) (fun c => absurd c (by decide)) (fun _ => ?_)
      refine g_al0n (pc := 13) C dX12_both_13 ?_
      refine g_iconst (pc := 14) (v := 1) C dX12_both_14 (by decide) ?_
      refine s_VQ (pc := 15) (st := []) C h135 rfl (c_need1 (d := d - 1) (by omega) σ hn hn1 o (q := q) (by omega) (s0 ++ s)) (by omega) lX12_261 dX12_both_15 rfl (Nat.le_of_ble_eq_true rfl) rfl (fun τ hτ => ?_)
      subst hτ
      refine g_al0n (pc := 18) C dX12_both_18 ?_
      refine s_VQ (pc := 19) (st := []) C h135 rfl (hP (d - 1) (enS (σ 140) n q) (s0 ++ s) (by omega) (enS_le (t := σ 140) hq).2.1 (by have := (enS_le (t := σ 140) hq).1; have := (stS_le (t := σ 140) hq).1; omega)) (by omega) lX12_268 dX12_both_19 rfl (Nat.le_of_ble_eq_true rfl) rfl (fun τ hτ => ?_)
      rcases hr2 : P (enS (σ 140) n q) with ⟨q', s'⟩ | q'
      · have hτ2 : τ = mst σ n 0 o q' (s0 ++ s ++ s') := by have z := hτ; rw [hr2] at z; exact z
        have hg := hG (enS (σ 140) n q) (enS_le (t := σ 140) hq).2.1
        rw [hr2] at hg
        obtain ⟨g1, g2, g3⟩ := hg
        have g4 := g3.2.1
        subst hτ2
        refine g_al0n (pc := 22) C dX12_both_22 ?_
        refine g_sipush (pc := 23) (v := 10105) C dX12_both_23 (by decide) ?_
        refine s_VU (pc := 26) (st := []) C h135 rfl (c_emit0 (d := d - 1) (by omega) σ n o q' (s0 ++ s ++ s') (by have := (enS_le (t := σ 140) hq).1; have := (stS_le (t := σ 140) hq).1; simp only [List.length_append] at *; omega) 10105) (by omega) lX12_265 dX12_both_26 rfl (Nat.le_of_ble_eq_true rfl) rfl ?_
        refine g_goto (pc := 29) (tgt := 4) C dX12_both_29 (by decide) ?_
        rw [lp_go (c := 10105) (by unfold opB; rw [if_pos b_7]) (by decide) hr2]
        have k := ih q' (s ++ s' ++ [10105]) (by have := (enS_lt (t := σ 140) hq (op_sort OpB (by rw [show opB (sg (σ 140) n q) = 10105 from (by unfold opB; rw [if_pos b_7])]; decide))).1; omega) g2 (by have := (enS_lt (t := σ 140) hq (op_sort OpB (by rw [show opB (sg (σ 140) n q) = 10105 from (by unfold opB; rw [if_pos b_7])]; decide))).1; simp only [List.length_append, List.length_cons, List.length_nil] at *; omega)
        simp only [← List.append_assoc] at k
        exact k
      · obtain ⟨s', hτ2⟩ : ∃ s', τ = mst σ n 1 o q' s' := by have z := hτ; rw [hr2] at z; exact z
        subst hτ2
        refine g_al0n (pc := 22) C dX12_both_22 ?_
        refine g_sipush (pc := 23) (v := 10105) C dX12_both_23 (by decide) ?_
        refine s_VU (pc := 26) (st := []) C h135 rfl (c_emit1 (d := d - 1) (by omega) σ n o q' s' 10105) (by omega) lX12_265 dX12_both_26 rfl (Nat.le_of_ble_eq_true rfl) rfl ?_
        refine g_goto (pc := 29) (tgt := 4) C dX12_both_29 (by decide) ?_
        refine g_al0n (pc := 4) C dX12_both_4 ?_
        refine g_bipush (pc := 5) (v := 38) C dX12_both_5 (by decide) ?_
        refine s_VB (pc := 7) (st := []) C h135 rfl (c_isSign1 (d := d - 1) (by omega) σ n o q' s' 38) (by omega) lX12_258 dX12_both_7 rfl (Nat.le_of_ble_eq_true rfl) rfl (fun bw_7 => bw_7.elim) (fun bw_7 => ?_)
        refine g_if_eq (pc := 10) (tgt := 32) C dX12_both_10 (by decide) (fun _ => ?_) (fun c => absurd c (by decide))
        rw [lp_no (c := 10105) (by unfold opB; rw [if_pos b_7]) (by decide) hr2]
        exact r_Q C hr dX12_both_32 ⟨_, rfl⟩
    · refine g_if_eq (pc := 10) (tgt := 32) C dX12_both_10 (by decide) (fun _ => ?_) (fun c => absurd c (by decide))
      rw [lp_stop (by unfold opB; rw [if_neg b_7])]
      exact r_Q C hr dX12_both_32 rfl
theorem c_both {d : Nat}  (σ : Sg) {n : Nat} (hn : σ 135 6 = nI n) (hn1 : n ≤ 100) (o : Nat) {P : Nat → PR} (hG : GoodP n P) {D : Nat} (hP : ∀ d' q s, D ≤ d' → q ≤ n → s.length ≤ q → CQ d' mX12_not [.ref 135] (mst σ n 0 o q s) (RSm σ n o s (P q))) {q : Nat} (hq : q ≤ n) {s : List Int32} (hs : s.length ≤ q) (hd : D + 12 ≤ d) : CQ d mX12_both [.ref 135] ((mst σ n 0 o q s)) (RSm σ n o s (bnd (P q) (lpP (σ 140) n P opB 100))) := by
  refine con_of (by decide) (catL rfl) (Nat.le_of_ble_eq_true rfl) ?_
  intro μ ω C hr
  have C : Cx μ ω "TowFieldModel" cX12_both 1 d := C
  have hr : (mH μ).sig.returnType = none := hr
  show G μ ω (RQ μ ω (pQ (RSm σ n o s (bnd (P q) (lpP (σ 140) n P opB 100))))) 0 [some (.ref 135)] [] (mk ((mst σ n 0 o q s))) 0 0
  refine g_al0n (pc := 0) C dX12_both_0 ?_
  refine s_VQ (pc := 1) (st := []) C h135 rfl (hP (d - 1) q s (by omega) hq hs) (by omega) lX12_268 dX12_both_1 rfl (Nat.le_of_ble_eq_true rfl) rfl (fun τ hτ => ?_)
  rcases hr2 : P q with ⟨q', s'⟩ | q'
  · have hτ2 : τ = mst σ n 0 o q' (s ++ s') := by have z := hτ; rw [hr2] at z; exact z
    have hg := hG q hq
    rw [hr2] at hg
    obtain ⟨g1, g2, g3⟩ := hg
    have g4 := g3.2.1
    subst hτ2
    exact lp_both C hr σ hn hn1 o hG hP (by omega) s 100 q' s' (by omega) g2 (by simp only [List.length_append]; omega)
  · obtain ⟨s', hτ2⟩ : ∃ s', τ = mst σ n 1 o q' s' := by have z := hτ; rw [hr2] at z; exact z
    subst hτ2
    refine g_al0n (pc := 4) C dX12_both_4 ?_
    refine g_bipush (pc := 5) (v := 38) C dX12_both_5 (by decide) ?_
    refine s_VB (pc := 7) (st := []) C h135 rfl (c_isSign1 (d := d - 1) (by omega) σ n o q' s' 38) (by omega) lX12_258 dX12_both_7 rfl (Nat.le_of_ble_eq_true rfl) rfl (fun bw_7 => bw_7.elim) (fun bw_7 => ?_)
    refine g_if_eq (pc := 10) (tgt := 32) C dX12_both_10 (by decide) (fun _ => ?_) (fun c => absurd c (by decide))
    exact r_Q C hr dX12_both_32 ⟨_, rfl⟩

theorem lp_sum {μ : Mx} {ω : Om} {d : Nat} (C : Cx μ ω "TowFieldModel" cX12_sum 2 d) (hr : (mH μ).sig.returnType = none) (σ : Sg) {n : Nat} (hn : σ 135 6 = nI n) (hn1 : n ≤ 100) (o : Nat) {P : Nat → PR} (hG : GoodP n P) {D : Nat} (hP : ∀ d' q s, D ≤ d' → q ≤ n → s.length ≤ q → CQ d' mX12_product [.ref 135] (mst σ n 0 o q s) (RSm σ n o s (P q))) (hd : D + 12 ≤ d) (s0 : List Int32) : ∀ (f q : Nat) (s : List Int32) (l1 : Option Value), n ≤ q + f → q ≤ n → (s0 ++ s).length ≤ q → G μ ω (RQ μ ω (pQ (RSm σ n o s0 (lpP (σ 140) n P opS f q s)))) 4 [some (.ref 135), l1] [] (mk (mst σ n 0 o q (s0 ++ s))) 0 0 := by
  intro f
  induction f with
  | zero =>
    intro q s l1 hf hq hs
    have hsg := sg_end (t := σ 140) (show n ≤ q by omega) hq
    refine g_al0n (pc := 4) C dX12_sum_4 ?_
    refine g_bipush (pc := 5) (v := 43) C dX12_sum_5 (by decide) ?_
    refine s_VB (pc := 7) (st := []) C h135 rfl (c_isSign0 (d := d - 1) (by omega) σ hn hn1 o (q := q) (by omega) (s0 ++ s) (c := 43) (by decide)) (by omega) lX12_258 dX12_sum_7 rfl (Nat.le_of_ble_eq_true rfl) rfl (fun b_7 => absurd b_7 (by rw [hsg]; decide)) (fun b_7 => ?_)
    refine g_if_ne (pc := 10) (tgt := 22) C dX12_sum_10 (by decide) (fun c => absurd c (by decide)) (fun _ => ?_)
    refine g_al0n (pc := 13) C dX12_sum_13 ?_
    refine g_bipush (pc := 14) (v := 45) C dX12_sum_14 (by decide) ?_
    refine s_VB (pc := 16) (st := []) C h135 rfl (c_isSign0 (d := d - 1) (by omega) σ hn hn1 o (q := q) (by omega) (s0 ++ s) (c := 45) (by decide)) (by omega) lX12_258 dX12_sum_16 rfl (Nat.le_of_ble_eq_true rfl) rfl (fun b_16 => absurd b_16 (by rw [hsg]; decide)) (fun b_16 => ?_)
    refine g_if_eq (pc := 19) (tgt := 58) C dX12_sum_19 (by decide) (fun _ => ?_) (fun c => absurd c (by decide))
    exact r_Q C hr dX12_sum_58 rfl
  | succ f ih =>
    intro q s l1 hf hq hs
    refine g_al0n (pc := 4) C dX12_sum_4 ?_
    refine g_bipush (pc := 5) (v := 43) C dX12_sum_5 (by decide) ?_
    refine s_VB (pc := 7) (st := []) C h135 rfl (c_isSign0 (d := d - 1) (by omega) σ hn hn1 o (q := q) (by omega) (s0 ++ s) (c := 43) (by decide)) (by omega) lX12_258 dX12_sum_7 rfl (Nat.le_of_ble_eq_true rfl) rfl (fun b_7 => ?_) (fun b_7 => ?_)
    · refine g_if_ne (pc := 10) (tgt := 22) C dX12_sum_10 (by decide) (fun _ => ?_) (fun c => absurd c (by decide))
      refine g_al0n (pc := 22) C dX12_sum_22 ?_
      refine g_bipush (pc := 23) (v := 43) C dX12_sum_23 (by decide) ?_
      refine s_VB (pc := 25) (st := []) C h135 rfl (c_isSign0 (d := d - 1) (by omega) σ hn hn1 o (q := q) (by omega) (s0 ++ s) (c := 43) (by decide)) (by omega) lX12_258 dX12_sum_25 rfl (Nat.le_of_ble_eq_true rfl) rfl (fun b_25 => ?_) (fun b_25 => absurd b_7 b_25)
      refine g_if_eq (pc := 28) (tgt := 37) C dX12_sum_28 (by decide) (fun c => absurd c (by decide)) (fun _ => ?_)
      refine g_sipush (pc := 31) (v := 10100) C dX12_sum_31 (by decide) ?_
      refine g_goto (pc := 34) (tgt := 40) C dX12_sum_34 (by decide) ?_
      refine g_is1n (pc := 40) C dX12_sum_40 ?_
      refine g_al0n (pc := 41) C dX12_sum_41 ?_
      refine g_iconst (pc := 42) (v := 1) C dX12_sum_42 (by decide) ?_
      refine s_VQ (pc := 43) (st := []) C h135 rfl (c_need1 (d := d - 1) (by omega) σ hn hn1 o (q := q) (by omega) (s0 ++ s)) (by omega) lX12_261 dX12_sum_43 rfl (Nat.le_of_ble_eq_true rfl) rfl (fun τ hτ => ?_)
      subst hτ
      refine g_al0n (pc := 46) C dX12_sum_46 ?_
      refine s_VQ (pc := 47) (st := []) C h135 rfl (hP (d - 1) (enS (σ 140) n q) (s0 ++ s) (by omega) (enS_le (t := σ 140) hq).2.1 (by have := (enS_le (t := σ 140) hq).1; have := (stS_le (t := σ 140) hq).1; omega)) (by omega) lX12_277 dX12_sum_47 rfl (Nat.le_of_ble_eq_true rfl) rfl (fun τ hτ => ?_)
      rcases hr2 : P (enS (σ 140) n q) with ⟨q', s'⟩ | q'
      · have hτ2 : τ = mst σ n 0 o q' (s0 ++ s ++ s') := by have z := hτ; rw [hr2] at z; exact z
        have hg := hG (enS (σ 140) n q) (enS_le (t := σ 140) hq).2.1
        rw [hr2] at hg
        obtain ⟨g1, g2, g3⟩ := hg
        have g4 := g3.2.1
        subst hτ2
        refine g_al0n (pc := 50) C dX12_sum_50 ?_
        refine g_il1n (pc := 51) C dX12_sum_51 ?_
        refine s_VU (pc := 52) (st := []) C h135 rfl (c_emit0 (d := d - 1) (by omega) σ n o q' (s0 ++ s ++ s') (by have := (enS_le (t := σ 140) hq).1; have := (stS_le (t := σ 140) hq).1; simp only [List.length_append] at *; omega) 10100) (by omega) lX12_265 dX12_sum_52 rfl (Nat.le_of_ble_eq_true rfl) rfl ?_
        refine g_goto (pc := 55) (tgt := 4) C dX12_sum_55 (by decide) ?_
        rw [lp_go (c := 10100) (by unfold opS; rw [if_pos b_7]) (by decide) hr2]
        have k := ih q' (s ++ s' ++ [10100]) (some (.int 10100)) (by have := (enS_lt (t := σ 140) hq (op_sort OpS (by rw [show opS (sg (σ 140) n q) = 10100 from (by unfold opS; rw [if_pos b_7])]; decide))).1; omega) g2 (by have := (enS_lt (t := σ 140) hq (op_sort OpS (by rw [show opS (sg (σ 140) n q) = 10100 from (by unfold opS; rw [if_pos b_7])]; decide))).1; simp only [List.length_append, List.length_cons, List.length_nil] at *; omega)
        simp only [← List.append_assoc] at k
        exact k
      · obtain ⟨s', hτ2⟩ : ∃ s', τ = mst σ n 1 o q' s' := by have z := hτ; rw [hr2] at z; exact z
        subst hτ2
        refine g_al0n (pc := 50) C dX12_sum_50 ?_
        refine g_il1n (pc := 51) C dX12_sum_51 ?_
        refine s_VU (pc := 52) (st := []) C h135 rfl (c_emit1 (d := d - 1) (by omega) σ n o q' s' 10100) (by omega) lX12_265 dX12_sum_52 rfl (Nat.le_of_ble_eq_true rfl) rfl ?_
        refine g_goto (pc := 55) (tgt := 4) C dX12_sum_55 (by decide) ?_
        refine g_al0n (pc := 4) C dX12_sum_4 ?_
        refine g_bipush (pc := 5) (v := 43) C dX12_sum_5 (by decide) ?_
        refine s_VB (pc := 7) (st := []) C h135 rfl (c_isSign1 (d := d - 1) (by omega) σ n o q' s' 43) (by omega) lX12_258 dX12_sum_7 rfl (Nat.le_of_ble_eq_true rfl) rfl (fun bw_7 => bw_7.elim) (fun bw_7 => ?_)
        refine g_if_ne (pc := 10) (tgt := 22) C dX12_sum_10 (by decide) (fun c => absurd c (by decide)) (fun _ => ?_)
        refine g_al0n (pc := 13) C dX12_sum_13 ?_
        refine g_bipush (pc := 14) (v := 45) C dX12_sum_14 (by decide) ?_
        refine s_VB (pc := 16) (st := []) C h135 rfl (c_isSign1 (d := d - 1) (by omega) σ n o q' s' 45) (by omega) lX12_258 dX12_sum_16 rfl (Nat.le_of_ble_eq_true rfl) rfl (fun bw_16 => bw_16.elim) (fun bw_16 => ?_)
        refine g_if_eq (pc := 19) (tgt := 58) C dX12_sum_19 (by decide) (fun _ => ?_) (fun c => absurd c (by decide))
        rw [lp_no (c := 10100) (by unfold opS; rw [if_pos b_7]) (by decide) hr2]
        exact r_Q C hr dX12_sum_58 ⟨_, rfl⟩
    · refine g_if_ne (pc := 10) (tgt := 22) C dX12_sum_10 (by decide) (fun c => absurd c (by decide)) (fun _ => ?_)
      refine g_al0n (pc := 13) C dX12_sum_13 ?_
      refine g_bipush (pc := 14) (v := 45) C dX12_sum_14 (by decide) ?_
      refine s_VB (pc := 16) (st := []) C h135 rfl (c_isSign0 (d := d - 1) (by omega) σ hn hn1 o (q := q) (by omega) (s0 ++ s) (c := 45) (by decide)) (by omega) lX12_258 dX12_sum_16 rfl (Nat.le_of_ble_eq_true rfl) rfl (fun b_16 => ?_) (fun b_16 => ?_)
      · refine g_if_eq (pc := 19) (tgt := 58) C dX12_sum_19 (by decide) (fun c => absurd c (by decide)) (fun _ => ?_)
        refine g_al0n (pc := 22) C dX12_sum_22 ?_
        refine g_bipush (pc := 23) (v := 43) C dX12_sum_23 (by decide) ?_
        refine s_VB (pc := 25) (st := []) C h135 rfl (c_isSign0 (d := d - 1) (by omega) σ hn hn1 o (q := q) (by omega) (s0 ++ s) (c := 43) (by decide)) (by omega) lX12_258 dX12_sum_25 rfl (Nat.le_of_ble_eq_true rfl) rfl (fun b_25 => absurd b_25 b_7) (fun b_25 => ?_)
        refine g_if_eq (pc := 28) (tgt := 37) C dX12_sum_28 (by decide) (fun _ => ?_) (fun c => absurd c (by decide))
        refine g_sipush (pc := 37) (v := 10101) C dX12_sum_37 (by decide) ?_
        refine g_is1n (pc := 40) C dX12_sum_40 ?_
        refine g_al0n (pc := 41) C dX12_sum_41 ?_
        refine g_iconst (pc := 42) (v := 1) C dX12_sum_42 (by decide) ?_
        refine s_VQ (pc := 43) (st := []) C h135 rfl (c_need1 (d := d - 1) (by omega) σ hn hn1 o (q := q) (by omega) (s0 ++ s)) (by omega) lX12_261 dX12_sum_43 rfl (Nat.le_of_ble_eq_true rfl) rfl (fun τ hτ => ?_)
        subst hτ
        refine g_al0n (pc := 46) C dX12_sum_46 ?_
        refine s_VQ (pc := 47) (st := []) C h135 rfl (hP (d - 1) (enS (σ 140) n q) (s0 ++ s) (by omega) (enS_le (t := σ 140) hq).2.1 (by have := (enS_le (t := σ 140) hq).1; have := (stS_le (t := σ 140) hq).1; omega)) (by omega) lX12_277 dX12_sum_47 rfl (Nat.le_of_ble_eq_true rfl) rfl (fun τ hτ => ?_)
        rcases hr2 : P (enS (σ 140) n q) with ⟨q', s'⟩ | q'
        · have hτ2 : τ = mst σ n 0 o q' (s0 ++ s ++ s') := by have z := hτ; rw [hr2] at z; exact z
          have hg := hG (enS (σ 140) n q) (enS_le (t := σ 140) hq).2.1
          rw [hr2] at hg
          obtain ⟨g1, g2, g3⟩ := hg
          have g4 := g3.2.1
          subst hτ2
          refine g_al0n (pc := 50) C dX12_sum_50 ?_
          refine g_il1n (pc := 51) C dX12_sum_51 ?_
          refine s_VU (pc := 52) (st := []) C h135 rfl (c_emit0 (d := d - 1) (by omega) σ n o q' (s0 ++ s ++ s') (by have := (enS_le (t := σ 140) hq).1; have := (stS_le (t := σ 140) hq).1; simp only [List.length_append] at *; omega) 10101) (by omega) lX12_265 dX12_sum_52 rfl (Nat.le_of_ble_eq_true rfl) rfl ?_
          refine g_goto (pc := 55) (tgt := 4) C dX12_sum_55 (by decide) ?_
          rw [lp_go (c := 10101) (by unfold opS; rw [if_neg b_7, if_pos b_16]) (by decide) hr2]
          have k := ih q' (s ++ s' ++ [10101]) (some (.int 10101)) (by have := (enS_lt (t := σ 140) hq (op_sort OpS (by rw [show opS (sg (σ 140) n q) = 10101 from (by unfold opS; rw [if_neg b_7, if_pos b_16])]; decide))).1; omega) g2 (by have := (enS_lt (t := σ 140) hq (op_sort OpS (by rw [show opS (sg (σ 140) n q) = 10101 from (by unfold opS; rw [if_neg b_7, if_pos b_16])]; decide))).1; simp only [List.length_append, List.length_cons, List.length_nil] at *; omega)
          simp only [← List.append_assoc] at k
          exact k
        · obtain ⟨s', hτ2⟩ : ∃ s', τ = mst σ n 1 o q' s' := by have z := hτ; rw [hr2] at z; exact z
          subst hτ2
          refine g_al0n (pc := 50) C dX12_sum_50 ?_
          refine g_il1n (pc := 51) C dX12_sum_51 ?_
          refine s_VU (pc := 52) (st := []) C h135 rfl (c_emit1 (d := d - 1) (by omega) σ n o q' s' 10101) (by omega) lX12_265 dX12_sum_52 rfl (Nat.le_of_ble_eq_true rfl) rfl ?_
          refine g_goto (pc := 55) (tgt := 4) C dX12_sum_55 (by decide) ?_
          refine g_al0n (pc := 4) C dX12_sum_4 ?_
          refine g_bipush (pc := 5) (v := 43) C dX12_sum_5 (by decide) ?_
          refine s_VB (pc := 7) (st := []) C h135 rfl (c_isSign1 (d := d - 1) (by omega) σ n o q' s' 43) (by omega) lX12_258 dX12_sum_7 rfl (Nat.le_of_ble_eq_true rfl) rfl (fun bw_7 => bw_7.elim) (fun bw_7 => ?_)
          refine g_if_ne (pc := 10) (tgt := 22) C dX12_sum_10 (by decide) (fun c => absurd c (by decide)) (fun _ => ?_)
          refine g_al0n (pc := 13) C dX12_sum_13 ?_
          refine g_bipush (pc := 14) (v := 45) C dX12_sum_14 (by decide) ?_
          refine s_VB (pc := 16) (st := []) C h135 rfl (c_isSign1 (d := d - 1) (by omega) σ n o q' s' 45) (by omega) lX12_258 dX12_sum_16 rfl (Nat.le_of_ble_eq_true rfl) rfl (fun bw_16 => bw_16.elim) (fun bw_16 => ?_)
          refine g_if_eq (pc := 19) (tgt := 58) C dX12_sum_19 (by decide) (fun _ => ?_) (fun c => absurd c (by decide))
          rw [lp_no (c := 10101) (by unfold opS; rw [if_neg b_7, if_pos b_16]) (by decide) hr2]
          exact r_Q C hr dX12_sum_58 ⟨_, rfl⟩
      · refine g_if_eq (pc := 19) (tgt := 58) C dX12_sum_19 (by decide) (fun _ => ?_) (fun c => absurd c (by decide))
        rw [lp_stop (by unfold opS; rw [if_neg b_7, if_neg b_16])]
        exact r_Q C hr dX12_sum_58 rfl
theorem c_sum {d : Nat}  (σ : Sg) {n : Nat} (hn : σ 135 6 = nI n) (hn1 : n ≤ 100) (o : Nat) {P : Nat → PR} (hG : GoodP n P) {D : Nat} (hP : ∀ d' q s, D ≤ d' → q ≤ n → s.length ≤ q → CQ d' mX12_product [.ref 135] (mst σ n 0 o q s) (RSm σ n o s (P q))) {q : Nat} (hq : q ≤ n) {s : List Int32} (hs : s.length ≤ q) (hd : D + 12 ≤ d) : CQ d mX12_sum [.ref 135] ((mst σ n 0 o q s)) (RSm σ n o s (bnd (P q) (lpP (σ 140) n P opS 100))) := by
  refine con_of (by decide) (catL rfl) (Nat.le_of_ble_eq_true rfl) ?_
  intro μ ω C hr
  have C : Cx μ ω "TowFieldModel" cX12_sum 2 d := C
  have hr : (mH μ).sig.returnType = none := hr
  show G μ ω (RQ μ ω (pQ (RSm σ n o s (bnd (P q) (lpP (σ 140) n P opS 100))))) 0 [some (.ref 135), none] [] (mk ((mst σ n 0 o q s))) 0 0
  refine g_al0n (pc := 0) C dX12_sum_0 ?_
  refine s_VQ (pc := 1) (st := []) C h135 rfl (hP (d - 1) q s (by omega) hq hs) (by omega) lX12_277 dX12_sum_1 rfl (Nat.le_of_ble_eq_true rfl) rfl (fun τ hτ => ?_)
  rcases hr2 : P q with ⟨q', s'⟩ | q'
  · have hτ2 : τ = mst σ n 0 o q' (s ++ s') := by have z := hτ; rw [hr2] at z; exact z
    have hg := hG q hq
    rw [hr2] at hg
    obtain ⟨g1, g2, g3⟩ := hg
    have g4 := g3.2.1
    subst hτ2
    exact lp_sum C hr σ hn hn1 o hG hP (by omega) s 100 q' s' none (by omega) g2 (by simp only [List.length_append]; omega)
  · obtain ⟨s', hτ2⟩ : ∃ s', τ = mst σ n 1 o q' s' := by have z := hτ; rw [hr2] at z; exact z
    subst hτ2
    refine g_al0n (pc := 4) C dX12_sum_4 ?_
    refine g_bipush (pc := 5) (v := 43) C dX12_sum_5 (by decide) ?_
    refine s_VB (pc := 7) (st := []) C h135 rfl (c_isSign1 (d := d - 1) (by omega) σ n o q' s' 43) (by omega) lX12_258 dX12_sum_7 rfl (Nat.le_of_ble_eq_true rfl) rfl (fun bw_7 => bw_7.elim) (fun bw_7 => ?_)
    refine g_if_ne (pc := 10) (tgt := 22) C dX12_sum_10 (by decide) (fun c => absurd c (by decide)) (fun _ => ?_)
    refine g_al0n (pc := 13) C dX12_sum_13 ?_
    refine g_bipush (pc := 14) (v := 45) C dX12_sum_14 (by decide) ?_
    refine s_VB (pc := 16) (st := []) C h135 rfl (c_isSign1 (d := d - 1) (by omega) σ n o q' s' 45) (by omega) lX12_258 dX12_sum_16 rfl (Nat.le_of_ble_eq_true rfl) rfl (fun bw_16 => bw_16.elim) (fun bw_16 => ?_)
    refine g_if_eq (pc := 19) (tgt := 58) C dX12_sum_19 (by decide) (fun _ => ?_) (fun c => absurd c (by decide))
    exact r_Q C hr dX12_sum_58 ⟨_, rfl⟩

theorem lp_product {μ : Mx} {ω : Om} {d : Nat} (C : Cx μ ω "TowFieldModel" cX12_product 2 d) (hr : (mH μ).sig.returnType = none) (σ : Sg) {n : Nat} (hn : σ 135 6 = nI n) (hn1 : n ≤ 100) (o : Nat) {P : Nat → PR} (hG : GoodP n P) {D : Nat} (hP : ∀ d' q s, D ≤ d' → q ≤ n → s.length ≤ q → CQ d' mX12_part [.ref 135] (mst σ n 0 o q s) (RSm σ n o s (P q))) (hd : D + 12 ≤ d) (s0 : List Int32) : ∀ (f q : Nat) (s : List Int32) (l1 : Option Value), n ≤ q + f → q ≤ n → (s0 ++ s).length ≤ q → G μ ω (RQ μ ω (pQ (RSm σ n o s0 (lpP (σ 140) n P opM f q s)))) 4 [some (.ref 135), l1] [] (mk (mst σ n 0 o q (s0 ++ s))) 0 0 := by
  intro f
  induction f with
  | zero =>
    intro q s l1 hf hq hs
    have hsg := sg_end (t := σ 140) (show n ≤ q by omega) hq
    refine g_al0n (pc := 4) C dX12_product_4 ?_
    refine g_bipush (pc := 5) (v := 42) C dX12_product_5 (by decide) ?_
    refine s_VB (pc := 7) (st := []) C h135 rfl (c_isSign0 (d := d - 1) (by omega) σ hn hn1 o (q := q) (by omega) (s0 ++ s) (c := 42) (by decide)) (by omega) lX12_258 dX12_product_7 rfl (Nat.le_of_ble_eq_true rfl) rfl (fun b_7 => absurd b_7 (by rw [hsg]; decide)) (fun b_7 => ?_)
    refine g_if_ne (pc := 10) (tgt := 22) C dX12_product_10 (by decide) (fun c => absurd c (by decide)) (fun _ => ?_)
    refine g_al0n (pc := 13) C dX12_product_13 ?_
    refine g_bipush (pc := 14) (v := 47) C dX12_product_14 (by decide) ?_
    refine s_VB (pc := 16) (st := []) C h135 rfl (c_isSign0 (d := d - 1) (by omega) σ hn hn1 o (q := q) (by omega) (s0 ++ s) (c := 47) (by decide)) (by omega) lX12_258 dX12_product_16 rfl (Nat.le_of_ble_eq_true rfl) rfl (fun b_16 => absurd b_16 (by rw [hsg]; decide)) (fun b_16 => ?_)
    refine g_if_eq (pc := 19) (tgt := 58) C dX12_product_19 (by decide) (fun _ => ?_) (fun c => absurd c (by decide))
    exact r_Q C hr dX12_product_58 rfl
  | succ f ih =>
    intro q s l1 hf hq hs
    refine g_al0n (pc := 4) C dX12_product_4 ?_
    refine g_bipush (pc := 5) (v := 42) C dX12_product_5 (by decide) ?_
    refine s_VB (pc := 7) (st := []) C h135 rfl (c_isSign0 (d := d - 1) (by omega) σ hn hn1 o (q := q) (by omega) (s0 ++ s) (c := 42) (by decide)) (by omega) lX12_258 dX12_product_7 rfl (Nat.le_of_ble_eq_true rfl) rfl (fun b_7 => ?_) (fun b_7 => ?_)
    · refine g_if_ne (pc := 10) (tgt := 22) C dX12_product_10 (by decide) (fun _ => ?_) (fun c => absurd c (by decide))
      refine g_al0n (pc := 22) C dX12_product_22 ?_
      refine g_bipush (pc := 23) (v := 42) C dX12_product_23 (by decide) ?_
      refine s_VB (pc := 25) (st := []) C h135 rfl (c_isSign0 (d := d - 1) (by omega) σ hn hn1 o (q := q) (by omega) (s0 ++ s) (c := 42) (by decide)) (by omega) lX12_258 dX12_product_25 rfl (Nat.le_of_ble_eq_true rfl) rfl (fun b_25 => ?_) (fun b_25 => absurd b_7 b_25)
      refine g_if_eq (pc := 28) (tgt := 37) C dX12_product_28 (by decide) (fun c => absurd c (by decide)) (fun _ => ?_)
      refine g_sipush (pc := 31) (v := 10108) C dX12_product_31 (by decide) ?_
      refine g_goto (pc := 34) (tgt := 40) C dX12_product_34 (by decide) ?_
      refine g_is1n (pc := 40) C dX12_product_40 ?_
      refine g_al0n (pc := 41) C dX12_product_41 ?_
      refine g_iconst (pc := 42) (v := 1) C dX12_product_42 (by decide) ?_
      refine s_VQ (pc := 43) (st := []) C h135 rfl (c_need1 (d := d - 1) (by omega) σ hn hn1 o (q := q) (by omega) (s0 ++ s)) (by omega) lX12_261 dX12_product_43 rfl (Nat.le_of_ble_eq_true rfl) rfl (fun τ hτ => ?_)
      subst hτ
      refine g_al0n (pc := 46) C dX12_product_46 ?_
      refine s_VQ (pc := 47) (st := []) C h135 rfl (hP (d - 1) (enS (σ 140) n q) (s0 ++ s) (by omega) (enS_le (t := σ 140) hq).2.1 (by have := (enS_le (t := σ 140) hq).1; have := (stS_le (t := σ 140) hq).1; omega)) (by omega) lX12_280 dX12_product_47 rfl (Nat.le_of_ble_eq_true rfl) rfl (fun τ hτ => ?_)
      rcases hr2 : P (enS (σ 140) n q) with ⟨q', s'⟩ | q'
      · have hτ2 : τ = mst σ n 0 o q' (s0 ++ s ++ s') := by have z := hτ; rw [hr2] at z; exact z
        have hg := hG (enS (σ 140) n q) (enS_le (t := σ 140) hq).2.1
        rw [hr2] at hg
        obtain ⟨g1, g2, g3⟩ := hg
        have g4 := g3.2.1
        subst hτ2
        refine g_al0n (pc := 50) C dX12_product_50 ?_
        refine g_il1n (pc := 51) C dX12_product_51 ?_
        refine s_VU (pc := 52) (st := []) C h135 rfl (c_emit0 (d := d - 1) (by omega) σ n o q' (s0 ++ s ++ s') (by have := (enS_le (t := σ 140) hq).1; have := (stS_le (t := σ 140) hq).1; simp only [List.length_append] at *; omega) 10108) (by omega) lX12_265 dX12_product_52 rfl (Nat.le_of_ble_eq_true rfl) rfl ?_
        refine g_goto (pc := 55) (tgt := 4) C dX12_product_55 (by decide) ?_
        rw [lp_go (c := 10108) (by unfold opM; rw [if_pos b_7]) (by decide) hr2]
        have k := ih q' (s ++ s' ++ [10108]) (some (.int 10108)) (by have := (enS_lt (t := σ 140) hq (op_sort OpM (by rw [show opM (sg (σ 140) n q) = 10108 from (by unfold opM; rw [if_pos b_7])]; decide))).1; omega) g2 (by have := (enS_lt (t := σ 140) hq (op_sort OpM (by rw [show opM (sg (σ 140) n q) = 10108 from (by unfold opM; rw [if_pos b_7])]; decide))).1; simp only [List.length_append, List.length_cons, List.length_nil] at *; omega)
        simp only [← List.append_assoc] at k
        exact k
      · obtain ⟨s', hτ2⟩ : ∃ s', τ = mst σ n 1 o q' s' := by have z := hτ; rw [hr2] at z; exact z
        subst hτ2
        refine g_al0n (pc := 50) C dX12_product_50 ?_
        refine g_il1n (pc := 51) C dX12_product_51 ?_
        refine s_VU (pc := 52) (st := []) C h135 rfl (c_emit1 (d := d - 1) (by omega) σ n o q' s' 10108) (by omega) lX12_265 dX12_product_52 rfl (Nat.le_of_ble_eq_true rfl) rfl ?_
        refine g_goto (pc := 55) (tgt := 4) C dX12_product_55 (by decide) ?_
        refine g_al0n (pc := 4) C dX12_product_4 ?_
        refine g_bipush (pc := 5) (v := 42) C dX12_product_5 (by decide) ?_
        refine s_VB (pc := 7) (st := []) C h135 rfl (c_isSign1 (d := d - 1) (by omega) σ n o q' s' 42) (by omega) lX12_258 dX12_product_7 rfl (Nat.le_of_ble_eq_true rfl) rfl (fun bw_7 => bw_7.elim) (fun bw_7 => ?_)
        refine g_if_ne (pc := 10) (tgt := 22) C dX12_product_10 (by decide) (fun c => absurd c (by decide)) (fun _ => ?_)
        refine g_al0n (pc := 13) C dX12_product_13 ?_
        refine g_bipush (pc := 14) (v := 47) C dX12_product_14 (by decide) ?_
        refine s_VB (pc := 16) (st := []) C h135 rfl (c_isSign1 (d := d - 1) (by omega) σ n o q' s' 47) (by omega) lX12_258 dX12_product_16 rfl (Nat.le_of_ble_eq_true rfl) rfl (fun bw_16 => bw_16.elim) (fun bw_16 => ?_)
        refine g_if_eq (pc := 19) (tgt := 58) C dX12_product_19 (by decide) (fun _ => ?_) (fun c => absurd c (by decide))
        rw [lp_no (c := 10108) (by unfold opM; rw [if_pos b_7]) (by decide) hr2]
        exact r_Q C hr dX12_product_58 ⟨_, rfl⟩
    · refine g_if_ne (pc := 10) (tgt := 22) C dX12_product_10 (by decide) (fun c => absurd c (by decide)) (fun _ => ?_)
      refine g_al0n (pc := 13) C dX12_product_13 ?_
      refine g_bipush (pc := 14) (v := 47) C dX12_product_14 (by decide) ?_
      refine s_VB (pc := 16) (st := []) C h135 rfl (c_isSign0 (d := d - 1) (by omega) σ hn hn1 o (q := q) (by omega) (s0 ++ s) (c := 47) (by decide)) (by omega) lX12_258 dX12_product_16 rfl (Nat.le_of_ble_eq_true rfl) rfl (fun b_16 => ?_) (fun b_16 => ?_)
      · refine g_if_eq (pc := 19) (tgt := 58) C dX12_product_19 (by decide) (fun c => absurd c (by decide)) (fun _ => ?_)
        refine g_al0n (pc := 22) C dX12_product_22 ?_
        refine g_bipush (pc := 23) (v := 42) C dX12_product_23 (by decide) ?_
        refine s_VB (pc := 25) (st := []) C h135 rfl (c_isSign0 (d := d - 1) (by omega) σ hn hn1 o (q := q) (by omega) (s0 ++ s) (c := 42) (by decide)) (by omega) lX12_258 dX12_product_25 rfl (Nat.le_of_ble_eq_true rfl) rfl (fun b_25 => absurd b_25 b_7) (fun b_25 => ?_)
        refine g_if_eq (pc := 28) (tgt := 37) C dX12_product_28 (by decide) (fun _ => ?_) (fun c => absurd c (by decide))
        refine g_sipush (pc := 37) (v := 10109) C dX12_product_37 (by decide) ?_
        refine g_is1n (pc := 40) C dX12_product_40 ?_
        refine g_al0n (pc := 41) C dX12_product_41 ?_
        refine g_iconst (pc := 42) (v := 1) C dX12_product_42 (by decide) ?_
        refine s_VQ (pc := 43) (st := []) C h135 rfl (c_need1 (d := d - 1) (by omega) σ hn hn1 o (q := q) (by omega) (s0 ++ s)) (by omega) lX12_261 dX12_product_43 rfl (Nat.le_of_ble_eq_true rfl) rfl (fun τ hτ => ?_)
        subst hτ
        refine g_al0n (pc := 46) C dX12_product_46 ?_
        refine s_VQ (pc := 47) (st := []) C h135 rfl (hP (d - 1) (enS (σ 140) n q) (s0 ++ s) (by omega) (enS_le (t := σ 140) hq).2.1 (by have := (enS_le (t := σ 140) hq).1; have := (stS_le (t := σ 140) hq).1; omega)) (by omega) lX12_280 dX12_product_47 rfl (Nat.le_of_ble_eq_true rfl) rfl (fun τ hτ => ?_)
        rcases hr2 : P (enS (σ 140) n q) with ⟨q', s'⟩ | q'
        · have hτ2 : τ = mst σ n 0 o q' (s0 ++ s ++ s') := by have z := hτ; rw [hr2] at z; exact z
          have hg := hG (enS (σ 140) n q) (enS_le (t := σ 140) hq).2.1
          rw [hr2] at hg
          obtain ⟨g1, g2, g3⟩ := hg
          have g4 := g3.2.1
          subst hτ2
          refine g_al0n (pc := 50) C dX12_product_50 ?_
          refine g_il1n (pc := 51) C dX12_product_51 ?_
          refine s_VU (pc := 52) (st := []) C h135 rfl (c_emit0 (d := d - 1) (by omega) σ n o q' (s0 ++ s ++ s') (by have := (enS_le (t := σ 140) hq).1; have := (stS_le (t := σ 140) hq).1; simp only [List.length_append] at *; omega) 10109) (by omega) lX12_265 dX12_product_52 rfl (Nat.le_of_ble_eq_true rfl) rfl ?_
          refine g_goto (pc := 55) (tgt := 4) C dX12_product_55 (by decide) ?_
          rw [lp_go (c := 10109) (by unfold opM; rw [if_neg b_7, if_pos b_16]) (by decide) hr2]
          have k := ih q' (s ++ s' ++ [10109]) (some (.int 10109)) (by have := (enS_lt (t := σ 140) hq (op_sort OpM (by rw [show opM (sg (σ 140) n q) = 10109 from (by unfold opM; rw [if_neg b_7, if_pos b_16])]; decide))).1; omega) g2 (by have := (enS_lt (t := σ 140) hq (op_sort OpM (by rw [show opM (sg (σ 140) n q) = 10109 from (by unfold opM; rw [if_neg b_7, if_pos b_16])]; decide))).1; simp only [List.length_append, List.length_cons, List.length_nil] at *; omega)
          simp only [← List.append_assoc] at k
          exact k
        · obtain ⟨s', hτ2⟩ : ∃ s', τ = mst σ n 1 o q' s' := by have z := hτ; rw [hr2] at z; exact z
          subst hτ2
          refine g_al0n (pc := 50) C dX12_product_50 ?_
          refine g_il1n (pc := 51) C dX12_product_51 ?_
          refine s_VU (pc := 52) (st := []) C h135 rfl (c_emit1 (d := d - 1) (by omega) σ n o q' s' 10109) (by omega) lX12_265 dX12_product_52 rfl (Nat.le_of_ble_eq_true rfl) rfl ?_
          refine g_goto (pc := 55) (tgt := 4) C dX12_product_55 (by decide) ?_
          refine g_al0n (pc := 4) C dX12_product_4 ?_
          refine g_bipush (pc := 5) (v := 42) C dX12_product_5 (by decide) ?_
          refine s_VB (pc := 7) (st := []) C h135 rfl (c_isSign1 (d := d - 1) (by omega) σ n o q' s' 42) (by omega) lX12_258 dX12_product_7 rfl (Nat.le_of_ble_eq_true rfl) rfl (fun bw_7 => bw_7.elim) (fun bw_7 => ?_)
          refine g_if_ne (pc := 10) (tgt := 22) C dX12_product_10 (by decide) (fun c => absurd c (by decide)) (fun _ => ?_)
          refine g_al0n (pc := 13) C dX12_product_13 ?_
          refine g_bipush (pc := 14) (v := 47) C dX12_product_14 (by decide) ?_
          refine s_VB (pc := 16) (st := []) C h135 rfl (c_isSign1 (d := d - 1) (by omega) σ n o q' s' 47) (by omega) lX12_258 dX12_product_16 rfl (Nat.le_of_ble_eq_true rfl) rfl (fun bw_16 => bw_16.elim) (fun bw_16 => ?_)
          refine g_if_eq (pc := 19) (tgt := 58) C dX12_product_19 (by decide) (fun _ => ?_) (fun c => absurd c (by decide))
          rw [lp_no (c := 10109) (by unfold opM; rw [if_neg b_7, if_pos b_16]) (by decide) hr2]
          exact r_Q C hr dX12_product_58 ⟨_, rfl⟩
      · refine g_if_eq (pc := 19) (tgt := 58) C dX12_product_19 (by decide) (fun _ => ?_) (fun c => absurd c (by decide))
        rw [lp_stop (by unfold opM; rw [if_neg b_7, if_neg b_16])]
        exact r_Q C hr dX12_product_58 rfl
theorem c_product {d : Nat}  (σ : Sg) {n : Nat} (hn : σ 135 6 = nI n) (hn1 : n ≤ 100) (o : Nat) {P : Nat → PR} (hG : GoodP n P) {D : Nat} (hP : ∀ d' q s, D ≤ d' → q ≤ n → s.length ≤ q → CQ d' mX12_part [.ref 135] (mst σ n 0 o q s) (RSm σ n o s (P q))) {q : Nat} (hq : q ≤ n) {s : List Int32} (hs : s.length ≤ q) (hd : D + 12 ≤ d) : CQ d mX12_product [.ref 135] ((mst σ n 0 o q s)) (RSm σ n o s (bnd (P q) (lpP (σ 140) n P opM 100))) := by
  refine con_of (by decide) (catL rfl) (Nat.le_of_ble_eq_true rfl) ?_
  intro μ ω C hr
  have C : Cx μ ω "TowFieldModel" cX12_product 2 d := C
  have hr : (mH μ).sig.returnType = none := hr
  show G μ ω (RQ μ ω (pQ (RSm σ n o s (bnd (P q) (lpP (σ 140) n P opM 100))))) 0 [some (.ref 135), none] [] (mk ((mst σ n 0 o q s))) 0 0
  refine g_al0n (pc := 0) C dX12_product_0 ?_
  refine s_VQ (pc := 1) (st := []) C h135 rfl (hP (d - 1) q s (by omega) hq hs) (by omega) lX12_280 dX12_product_1 rfl (Nat.le_of_ble_eq_true rfl) rfl (fun τ hτ => ?_)
  rcases hr2 : P q with ⟨q', s'⟩ | q'
  · have hτ2 : τ = mst σ n 0 o q' (s ++ s') := by have z := hτ; rw [hr2] at z; exact z
    have hg := hG q hq
    rw [hr2] at hg
    obtain ⟨g1, g2, g3⟩ := hg
    have g4 := g3.2.1
    subst hτ2
    exact lp_product C hr σ hn hn1 o hG hP (by omega) s 100 q' s' none (by omega) g2 (by simp only [List.length_append]; omega)
  · obtain ⟨s', hτ2⟩ : ∃ s', τ = mst σ n 1 o q' s' := by have z := hτ; rw [hr2] at z; exact z
    subst hτ2
    refine g_al0n (pc := 4) C dX12_product_4 ?_
    refine g_bipush (pc := 5) (v := 42) C dX12_product_5 (by decide) ?_
    refine s_VB (pc := 7) (st := []) C h135 rfl (c_isSign1 (d := d - 1) (by omega) σ n o q' s' 42) (by omega) lX12_258 dX12_product_7 rfl (Nat.le_of_ble_eq_true rfl) rfl (fun bw_7 => bw_7.elim) (fun bw_7 => ?_)
    refine g_if_ne (pc := 10) (tgt := 22) C dX12_product_10 (by decide) (fun c => absurd c (by decide)) (fun _ => ?_)
    refine g_al0n (pc := 13) C dX12_product_13 ?_
    refine g_bipush (pc := 14) (v := 47) C dX12_product_14 (by decide) ?_
    refine s_VB (pc := 16) (st := []) C h135 rfl (c_isSign1 (d := d - 1) (by omega) σ n o q' s' 47) (by omega) lX12_258 dX12_product_16 rfl (Nat.le_of_ble_eq_true rfl) rfl (fun bw_16 => bw_16.elim) (fun bw_16 => ?_)
    refine g_if_eq (pc := 19) (tgt := 58) C dX12_product_19 (by decide) (fun _ => ?_) (fun c => absurd c (by decide))
    exact r_Q C hr dX12_product_58 ⟨_, rfl⟩

