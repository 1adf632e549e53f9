/-! ===== the model: a landing, a launch, a fetching ===== -/
theorem c_X12_ropeIs {d : Nat} (hd : 2 ≤ d) (σ : Sg) {w r : Nat} (hw : w < 3) (hr2 : r < 2) (how till : Int32) : CU d mX12_ropeIs [.ref 135, .int (nI w), .int (nI r), .int how, .int till] σ (up (up σ 136 (33 + 4 * w + 2 * r) how) 136 (33 + 4 * w + 2 * r + 1) till) := by
  refine con_of (by decide) (catL rfl) (Nat.le_of_ble_eq_true rfl) ?_
  intro μ ω C hr
  have C : Cx μ ω "TowFieldModel" cX12_ropeIs 5 d := C
  have hr : (mH μ).sig.returnType = none := hr
  show G μ ω (RQ μ ω (pU (up (up σ 136 (33 + 4 * w + 2 * r) how) 136 (33 + 4 * w + 2 * r + 1) till))) 0 [some (.ref 135), some (.int (nI w)), some (.int (nI r)), some (.int how), some (.int till)] [] (mk σ) 0 0
  refine g_al0n (pc := 0) C dX12_ropeIs_0 ?_
  refine s_getR (pc := 1) C fX12_9 h135 rfl dX12_ropeIs_1 ?_
  refine g_il1n (pc := 4) C dX12_ropeIs_4 ?_
  refine g_il2n (pc := 5) C dX12_ropeIs_5 ?_
  refine s_SI (pc := 6) (st := [(.ref 136)]) C (c_X12_ropeAt (d := d - 1) (by omega) σ w r) (by omega) lX12_92 dX12_ropeIs_6 rfl (Nat.le_of_ble_eq_true rfl) rfl ?_
  refine g_il3n (pc := 9) C dX12_ropeIs_9 ?_
  refine s_iast (pc := 10) (q := 33 + 4 * w + 2 * r) C h136 rfl (by omega) (Nat.le_of_ble_eq_true rfl) dX12_ropeIs_10 ?_
  refine g_al0n (pc := 11) C dX12_ropeIs_11 ?_
  refine s_getR (pc := 12) C fX12_9 h135 rfl dX12_ropeIs_12 ?_
  refine g_il1n (pc := 15) C dX12_ropeIs_15 ?_
  refine g_il2n (pc := 16) C dX12_ropeIs_16 ?_
  refine s_SI (pc := 17) (st := [(.ref 136)]) C (c_X12_ropeAt (d := d - 1) (by omega) ((up σ 136 (33 + 4 * w + 2 * r) how)) w r) (by omega) lX12_92 dX12_ropeIs_17 rfl (Nat.le_of_ble_eq_true rfl) rfl ?_
  refine g_iconst (pc := 20) (v := 1) C dX12_ropeIs_20 (by decide) ?_
  refine g_iadd (pc := 21) C dX12_ropeIs_21 ?_
  refine g_il4 (pc := 22) C dX12_ropeIs_22 ?_
  refine s_iast (pc := 24) (q := 33 + 4 * w + 2 * r + 1) C h136 (by first | (simp only [ixl, nI_add, pk_mul]; done) | rfl | decide) (by omega) (Nat.le_of_ble_eq_true rfl) dX12_ropeIs_24 ?_
  exact r_U C hr dX12_ropeIs_25 rfl

theorem c_X12_costOf {d : Nat} (hd : 5 ≤ d) (σ : Sg) (hI : INV (σ 136)) {a : Nat} (ha : a < cnt (σ 136) 7) : CP d mX12_costOf [.ref 135, .int (nI a)] σ (fun v τ' => v = costA (σ 136) a ∧ Eqx [143] σ τ') := by
  have hna := hI.n7.2
  have h4 := hI.n4.2
  refine con_of (by decide) (catL rfl) (Nat.le_of_ble_eq_true rfl) ?_
  intro μ ω C hr
  have C : Cx μ ω "TowFieldModel" cX12_costOf 5 d := C
  have hr : (mH μ).sig.returnType = some .int := hr
  show G μ ω (RQ μ ω (pP (fun v τ' => v = costA (σ 136) a ∧ Eqx [143] σ τ'))) 0 [some (.ref 135), some (.int (nI a)), none, none, none] [] (mk σ) 0 0
  refine g_al0n (pc := 0) C dX12_costOf_0 ?_
  refine s_getR (pc := 1) C fX12_9 h135 rfl dX12_costOf_1 ?_
  refine g_iconst (pc := 4) (v := 0) C dX12_costOf_4 (by decide) ?_
  refine s_iald (pc := 5) (q := 0) C h136 rfl (by omega) (Nat.le_of_ble_eq_true rfl) dX12_costOf_5 ?_
  refine g_al0n (pc := 6) C dX12_costOf_6 ?_
  refine g_il1n (pc := 7) C dX12_costOf_7 ?_
  refine g_bipush (pc := 8) (v := 7) C dX12_costOf_8 (by decide) ?_
  refine s_VI (pc := 10) (st := [(.int (σ 136 0))]) C h135 rfl (c_X12_askOf (d := d - 1) (by omega) σ (a := a) (f := 7) (by omega) (by omega) rfl rfl) (by omega) lX12_67 dX12_costOf_10 rfl (Nat.le_of_ble_eq_true rfl) rfl ?_
  refine g_isub (pc := 13) C dX12_costOf_13 ?_
  refine g_al0n (pc := 14) C dX12_costOf_14 ?_
  refine g_il1n (pc := 15) C dX12_costOf_15 ?_
  refine s_VI (pc := 16) (st := [(.int ((σ 136 0) - (σ 136 (146 + 10 * a + 7))))]) C h135 rfl (c_X12_spanOfAsk (d := d - 1) (by omega) σ hI (by omega)) (by omega) lX12_153 dX12_costOf_16 rfl (Nat.le_of_ble_eq_true rfl) rfl ?_
  refine g_isub (pc := 19) C dX12_costOf_19 ?_
  refine g_is2n (pc := 20) C dX12_costOf_20 ?_
  refine g_al0n (pc := 21) C dX12_costOf_21 ?_
  refine g_iconst (pc := 22) (v := 1) C dX12_costOf_22 (by decide) ?_
  refine s_VI (pc := 23) (st := []) C h135 rfl (c_X12_textOf (d := d - 1) (by omega) σ hI 1) (by omega) lX12_140 dX12_costOf_23 rfl (Nat.le_of_ble_eq_true rfl) rfl ?_
  refine g_is3n (pc := 26) C dX12_costOf_26 ?_
  rcases hz : textU (σ 136) 1 with _ | t
  · simp only [o2i]
    refine g_il3n (pc := 27) C dX12_costOf_27 ?_
    refine g_if_geL (pc := 28) (tgt := 53) C dX12_costOf_28 (by decide) (fun c => absurd c (by decide)) (fun _ => ?_)
    refine g_bipush (pc := 31) (v := 10) C dX12_costOf_31 (by decide) ?_
    refine g_al0n (pc := 33) C dX12_costOf_33 ?_
    refine g_il1n (pc := 34) C dX12_costOf_34 ?_
    refine s_VI (pc := 35) (st := [(.int 10)]) C h135 rfl (c_X12_spanOfAsk (d := d - 1) (by omega) σ hI (by omega)) (by omega) lX12_153 dX12_costOf_35 rfl (Nat.le_of_ble_eq_true rfl) rfl ?_
    refine g_imul (pc := 38) C dX12_costOf_38 ?_
    refine g_iconst (pc := 39) (v := 2) C dX12_costOf_39 (by decide) ?_
    refine g_al0n (pc := 40) C dX12_costOf_40 ?_
    refine g_il1n (pc := 41) C dX12_costOf_41 ?_
    refine g_iconst (pc := 42) (v := 4) C dX12_costOf_42 (by decide) ?_
    refine s_VI (pc := 43) (st := [(.int 2), (.int (10 * (spanA (σ 136) a)))]) C h135 rfl (c_X12_askOf (d := d - 1) (by omega) σ (a := a) (f := 4) (by omega) (by omega) rfl rfl) (by omega) lX12_67 dX12_costOf_43 rfl (Nat.le_of_ble_eq_true rfl) rfl ?_
    refine g_imul (pc := 46) C dX12_costOf_46 ?_
    refine g_iadd (pc := 47) C dX12_costOf_47 ?_
    refine g_il2n (pc := 48) C dX12_costOf_48 ?_
    refine g_iadd (pc := 49) C dX12_costOf_49 ?_
    refine g_goto (pc := 50) (tgt := 71) C dX12_costOf_50 (by decide) ?_
    refine g_is4 (pc := 71) C dX12_costOf_71 ?_
    refine g_iconst (pc := 73) (v := 0) C dX12_costOf_73 (by decide) ?_
    refine g_sipush (pc := 74) (v := 9999) C dX12_costOf_74 (by decide) ?_
    refine g_il4 (pc := 77) C dX12_costOf_77 ?_
    refine s_SI (pc := 79) (st := [(.int 0)]) C (c_min (d := d - 1) (by omega) σ 9999 (((10 * (spanA (σ 136) a)) + (2 * (σ 136 (146 + 10 * a + 4)))) + (((σ 136 0) - (σ 136 (146 + 10 * a + 7))) - (spanA (σ 136) a)))) (by omega) lX12_174 dX12_costOf_79 rfl (Nat.le_of_ble_eq_true rfl) rfl ?_
    refine s_SI (pc := 82) (st := []) C (c_max (d := d - 1) (by omega) σ 0 (min32 9999 (((10 * (spanA (σ 136) a)) + (2 * (σ 136 (146 + 10 * a + 4)))) + (((σ 136 0) - (σ 136 (146 + 10 * a + 7))) - (spanA (σ 136) a))))) (by omega) lX12_112 dX12_costOf_82 rfl (Nat.le_of_ble_eq_true rfl) rfl ?_
    exact r_P C hr dX12_costOf_85 ⟨by simp only [costA, hz, aA], Eqx.rf⟩
  · simp only [o2i]
    have htl := lstL_lt hz
    have ht8 := hI.n8.2
    refine g_il3n (pc := 27) C dX12_costOf_27 ?_
    refine g_if_geL (pc := 28) (tgt := 53) C dX12_costOf_28 (by decide) (fun c_28 => ?_) (fun c_28 => absurd c_28 (nI_pos (by omega)))
    refine g_al0n (pc := 53) C dX12_costOf_53 ?_
    refine g_il3n (pc := 54) C dX12_costOf_54 ?_
    refine g_al0n (pc := 55) C dX12_costOf_55 ?_
    refine g_il1n (pc := 56) C dX12_costOf_56 ?_
    refine g_iconst (pc := 57) (v := 4) C dX12_costOf_57 (by decide) ?_
    refine s_VI (pc := 58) (st := [(.int (nI t)), (.ref 135)]) C h135 rfl (c_X12_askOf (d := d - 1) (by omega) σ (a := a) (f := 4) (by omega) (by omega) rfl rfl) (by omega) lX12_67 dX12_costOf_58 rfl (Nat.le_of_ble_eq_true rfl) rfl ?_
    refine g_il2n (pc := 61) C dX12_costOf_61 ?_
    refine g_al0n (pc := 62) C dX12_costOf_62 ?_
    refine g_il1n (pc := 63) C dX12_costOf_63 ?_
    refine g_iconst (pc := 64) (v := 3) C dX12_costOf_64 (by decide) ?_
    refine s_VI (pc := 65) (st := [(.int (((σ 136 0) - (σ 136 (146 + 10 * a + 7))) - (spanA (σ 136) a))), (.int (σ 136 (146 + 10 * a + 4))), (.int (nI t)), (.ref 135)]) C h135 rfl (c_X12_askOf (d := d - 1) (by omega) σ (a := a) (f := 3) (by omega) (by omega) rfl rfl) (by omega) lX12_67 dX12_costOf_65 rfl (Nat.le_of_ble_eq_true rfl) rfl ?_
    refine s_VP (pc := 68) (st := []) C h135 rfl (c_X12_worked (d := d - 1) (by omega) σ hI (t := t) htl.1 (σ 136 (146 + 10 * a + 4)) (((σ 136 0) - (σ 136 (146 + 10 * a + 7))) - (spanA (σ 136) a)) (σ 136 (146 + 10 * a + 3))) (by omega) lX12_143 dX12_costOf_68 rfl (Nat.le_of_ble_eq_true rfl) rfl (fun v_68 τ hw_68 => ?_)
    obtain ⟨hv_68, hE⟩ := hw_68
    refine g_is4 (pc := 71) C dX12_costOf_71 ?_
    refine g_iconst (pc := 73) (v := 0) C dX12_costOf_73 (by decide) ?_
    refine g_sipush (pc := 74) (v := 9999) C dX12_costOf_74 (by decide) ?_
    refine g_il4 (pc := 77) C dX12_costOf_77 ?_
    refine s_SI (pc := 79) (st := [(.int 0)]) C (c_min (d := d - 1) (by omega) τ 9999 v_68) (by omega) lX12_174 dX12_costOf_79 rfl (Nat.le_of_ble_eq_true rfl) rfl ?_
    refine s_SI (pc := 82) (st := []) C (c_max (d := d - 1) (by omega) τ 0 (min32 9999 v_68)) (by omega) lX12_112 dX12_costOf_82 rfl (Nat.le_of_ble_eq_true rfl) rfl ?_
    exact r_P C hr dX12_costOf_85 ⟨by simp only [costA, hz, aA, hv_68], hE⟩

theorem eqx_wk {σ τ : Sg} (h : Eqx [143] σ τ) : Eqx [136, 143] σ τ := fun k hk => h k (fun q => hk (List.mem_cons_of_mem _ q))
theorem eqx_u {σ τ : Sg} {j : Nat} {x : Int32} (h : Eqx [136, 143] σ τ) : Eqx [136, 143] σ (up τ 136 j x) := h.tr (Eqx.up (by decide))
theorem c_X12_movesE {d : Nat} (hd : 1 ≤ d) (σ : Sg) {l : Nat} (hl : l < 6) {x : Int32} (hx : x = nI l) (n : Int32) : CU d mX12_moves [.ref 135, .int x, .int n] σ (up σ 136 (20 + l) (σ 136 0 + n)) := by
  subst hx
  exact c_X12_moves hd σ hl n
theorem c_X12_goesDown {d : Nat} (hd : 6 ≤ d) (σ : Sg) (hI : INV (σ 136)) {a : Nat} (ha : a < cnt (σ 136) 7) : CQ d mX12_goesDown [.ref 135, .int (nI a)] σ (fun τ' => τ' 136 = downS (σ 136) a ∧ Eqx [136, 143] σ τ') := by
  have hna := hI.n7.2
  have h4 := hI.n4.2
  obtain ⟨hl1, hl2⟩ := hI.lane (u := 2) (by decide)
  have hl1 : σ 136 18 = nI (σ 136 18).toNatClampNeg := hl1
  have hl2 : (σ 136 18).toNatClampNeg < 6 := hl2
  obtain ⟨hw1, hw2⟩ := hI.who ha
  have hw3 : (σ 136 (146 + 10 * a + 0)).toNatClampNeg < 2 ^ 31 := by omega
  refine con_of (by decide) (catL rfl) (Nat.le_of_ble_eq_true rfl) ?_
  intro μ ω C hr
  have C : Cx μ ω "TowFieldModel" cX12_goesDown 3 d := C
  have hr : (mH μ).sig.returnType = none := hr
  show G μ ω (RQ μ ω (pQ (fun τ' => τ' 136 = downS (σ 136) a ∧ Eqx [136, 143] σ τ'))) 0 [some (.ref 135), some (.int (nI a)), none] [] (mk σ) 0 0
  refine g_sipush (pc := 0) (v := 146) C dX12_goesDown_0 (by decide) ?_
  refine g_bipush (pc := 3) (v := 10) C dX12_goesDown_3 (by decide) ?_
  refine g_il1n (pc := 5) C dX12_goesDown_5 ?_
  refine g_imul (pc := 6) C dX12_goesDown_6 ?_
  refine g_iadd (pc := 7) C dX12_goesDown_7 ?_
  refine g_is2n (pc := 8) C dX12_goesDown_8 ?_
  refine g_al0n (pc := 9) C dX12_goesDown_9 ?_
  refine s_getR (pc := 10) C fX12_9 h135 rfl dX12_goesDown_10 ?_
  refine g_il2n (pc := 13) C dX12_goesDown_13 ?_
  refine g_bipush (pc := 14) (v := 9) C dX12_goesDown_14 (by decide) ?_
  refine g_iadd (pc := 16) C dX12_goesDown_16 ?_
  refine g_al0n (pc := 17) C dX12_goesDown_17 ?_
  refine g_il1n (pc := 18) C dX12_goesDown_18 ?_
  refine s_VP (pc := 19) (st := [(.int ((146 + (10 * (nI a))) + 9)), (.ref 136)]) C h135 rfl (c_X12_costOf (d := d - 1) (by omega) σ hI ha) (by omega) lX12_177 dX12_goesDown_19 rfl (Nat.le_of_ble_eq_true rfl) rfl (fun v_19 τ hw_19 => ?_)
  obtain ⟨hv_19, hE⟩ := hw_19
  have e136 : τ 136 = σ 136 := hE 136 (by decide)
  refine s_iastN (pc := 22) (q := (146 + (10 * a)) + 9) C h136 (by first | (simp only [ixl, nI_add, pk_mul]; done) | rfl | decide) (by omega) (Nat.le_of_ble_eq_true rfl) dX12_goesDown_22 (fun s_22 hs_22 => ?_)
  refine g_al0n (pc := 23) C dX12_goesDown_23 ?_
  refine s_getR (pc := 24) C fX12_9 h135 rfl dX12_goesDown_24 ?_
  refine g_il2n (pc := 27) C dX12_goesDown_27 ?_
  refine g_bipush (pc := 28) (v := 6) C dX12_goesDown_28 (by decide) ?_
  refine g_iadd (pc := 30) C dX12_goesDown_30 ?_
  refine g_iconst (pc := 31) (v := 2) C dX12_goesDown_31 (by decide) ?_
  refine s_iastN (pc := 32) (q := (146 + (10 * a)) + 6) C h136 (by first | (simp only [ixl, nI_add, pk_mul]; done) | rfl | decide) (by omega) (Nat.le_of_ble_eq_true rfl) dX12_goesDown_32 (fun s_32 hs_32 => ?_)
  refine g_al0n (pc := 33) C dX12_goesDown_33 ?_
  refine s_getR (pc := 34) C fX12_9 h135 rfl dX12_goesDown_34 ?_
  refine g_il2n (pc := 37) C dX12_goesDown_37 ?_
  refine g_bipush (pc := 38) (v := 8) C dX12_goesDown_38 (by decide) ?_
  refine g_iadd (pc := 40) C dX12_goesDown_40 ?_
  refine g_al0n (pc := 41) C dX12_goesDown_41 ?_
  refine s_getR (pc := 42) C fX12_9 h135 rfl dX12_goesDown_42 ?_
  refine g_iconst (pc := 45) (v := 0) C dX12_goesDown_45 (by decide) ?_
  refine s_iald (pc := 46) (q := 0) C h136 rfl (by omega) (Nat.le_of_ble_eq_true rfl) dX12_goesDown_46 ?_
  refine s_iastN (pc := 47) (q := (146 + (10 * a)) + 8) C h136 (by first | (simp only [ixl, nI_add, pk_mul]; done) | rfl | decide) (by omega) (Nat.le_of_ble_eq_true rfl) dX12_goesDown_47 (fun s_47 hs_47 => ?_)
  have l18 : s_47 136 18 = σ 136 18 := by simp (disch := omega) only [hs_47, hs_32, hs_22, up_at, upd_ne, upd_at, e136]
  refine g_al0n (pc := 48) C dX12_goesDown_48 ?_
  refine g_al0n (pc := 49) C dX12_goesDown_49 ?_
  refine s_getR (pc := 50) C fX12_9 h135 rfl dX12_goesDown_50 ?_
  refine g_bipush (pc := 53) (v := 18) C dX12_goesDown_53 (by decide) ?_
  refine s_iald (pc := 55) (q := 18) C h136 rfl (by omega) (Nat.le_of_ble_eq_true rfl) dX12_goesDown_55 ?_
  refine g_iconst (pc := 56) (v := 2) C dX12_goesDown_56 (by decide) ?_
  refine s_VUN (pc := 57) (st := []) C h135 rfl (c_X12_movesE (d := d - 1) (by omega) s_47 hl2 (l18.trans hl1) 2) (by omega) lX12_180 dX12_goesDown_57 rfl (Nat.le_of_ble_eq_true rfl) rfl (fun s_57 hs_57 => ?_)
  have a57 : s_57 136 (146 + 10 * a + 0) = σ 136 (146 + 10 * a + 0) := by simp (disch := omega) only [hs_57, hs_47, hs_32, hs_22, up_at, upd_ne, upd_at, e136]
  refine g_al0n (pc := 60) C dX12_goesDown_60 ?_
  refine s_getR (pc := 61) C fX12_9 h135 rfl dX12_goesDown_61 ?_
  refine g_bipush (pc := 64) (v := 90) C dX12_goesDown_64 (by decide) ?_
  refine g_iconst (pc := 66) (v := 4) C dX12_goesDown_66 (by decide) ?_
  refine g_al0n (pc := 67) C dX12_goesDown_67 ?_
  refine g_il1n (pc := 68) C dX12_goesDown_68 ?_
  refine g_iconst (pc := 69) (v := 0) C dX12_goesDown_69 (by decide) ?_
  refine s_VI (pc := 70) (st := [(.int 4), (.int 90), (.ref 136)]) C h135 rfl (c_X12_askOf (d := d - 1) (by omega) s_57 (a := a) (f := 0) (by omega) (by omega) rfl rfl) (by omega) lX12_67 dX12_goesDown_70 rfl (Nat.le_of_ble_eq_true rfl) rfl ?_
  refine g_imul (pc := 73) C dX12_goesDown_73 ?_
  refine g_iadd (pc := 74) C dX12_goesDown_74 ?_
  refine g_iconst (pc := 75) (v := 3) C dX12_goesDown_75 (by decide) ?_
  refine g_iadd (pc := 76) C dX12_goesDown_76 ?_
  refine g_dup2 (pc := 77) C dX12_goesDown_77 rfl rfl ?_
  refine s_iald (pc := 78) (q := 90 + 4 * (σ 136 (146 + 10 * a + 0)).toNatClampNeg + 3) C h136 (by rw [a57, hw1]; simp only [nI_clamp hw3, ixl, nI_add, pk_mul]) (by omega) (Nat.le_of_ble_eq_true rfl) dX12_goesDown_78 ?_
  refine g_al0n (pc := 79) C dX12_goesDown_79 ?_
  refine s_getR (pc := 80) C fX12_9 h135 rfl dX12_goesDown_80 ?_
  refine g_il2n (pc := 83) C dX12_goesDown_83 ?_
  refine g_bipush (pc := 84) (v := 9) C dX12_goesDown_84 (by decide) ?_
  refine g_iadd (pc := 86) C dX12_goesDown_86 ?_
  refine s_iald (pc := 87) (q := (146 + (10 * a)) + 9) C h136 (by first | (simp only [ixl, nI_add, pk_mul]; done) | rfl | decide) (by omega) (Nat.le_of_ble_eq_true rfl) dX12_goesDown_87 ?_
  refine g_iadd (pc := 88) C dX12_goesDown_88 ?_
  refine s_iastN (pc := 89) (q := 90 + 4 * (σ 136 (146 + 10 * a + 0)).toNatClampNeg + 3) C h136 (by rw [a57, hw1]; simp only [nI_clamp hw3, ixl, nI_add, pk_mul]) (by omega) (Nat.le_of_ble_eq_true rfl) dX12_goesDown_89 (fun s_89 hs_89 => ?_)
  have a89 : s_89 136 (146 + 10 * a + 0) = σ 136 (146 + 10 * a + 0) := by simp (disch := omega) only [hs_89, hs_57, hs_47, hs_32, hs_22, up_at, upd_ne, upd_at, e136]
  refine g_al0n (pc := 90) C dX12_goesDown_90 ?_
  refine s_getR (pc := 91) C fX12_9 h135 rfl dX12_goesDown_91 ?_
  refine g_bipush (pc := 94) (v := 90) C dX12_goesDown_94 (by decide) ?_
  refine g_iconst (pc := 96) (v := 4) C dX12_goesDown_96 (by decide) ?_
  refine g_al0n (pc := 97) C dX12_goesDown_97 ?_
  refine g_il1n (pc := 98) C dX12_goesDown_98 ?_
  refine g_iconst (pc := 99) (v := 0) C dX12_goesDown_99 (by decide) ?_
  refine s_VI (pc := 100) (st := [(.int 4), (.int 90), (.ref 136)]) C h135 rfl (c_X12_askOf (d := d - 1) (by omega) s_89 (a := a) (f := 0) (by omega) (by omega) rfl rfl) (by omega) lX12_67 dX12_goesDown_100 rfl (Nat.le_of_ble_eq_true rfl) rfl ?_
  refine g_imul (pc := 103) C dX12_goesDown_103 ?_
  refine g_iadd (pc := 104) C dX12_goesDown_104 ?_
  refine g_iconst (pc := 105) (v := 2) C dX12_goesDown_105 (by decide) ?_
  refine g_iadd (pc := 106) C dX12_goesDown_106 ?_
  refine g_al0n (pc := 107) C dX12_goesDown_107 ?_
  refine s_getR (pc := 108) C fX12_9 h135 rfl dX12_goesDown_108 ?_
  refine g_iconst (pc := 111) (v := 0) C dX12_goesDown_111 (by decide) ?_
  refine s_iald (pc := 112) (q := 0) C h136 rfl (by omega) (Nat.le_of_ble_eq_true rfl) dX12_goesDown_112 ?_
  refine s_iastN (pc := 113) (q := 90 + 4 * (σ 136 (146 + 10 * a + 0)).toNatClampNeg + 2) C h136 (by rw [a89, hw1]; simp only [nI_clamp hw3, ixl, nI_add, pk_mul]) (by omega) (Nat.le_of_ble_eq_true rfl) dX12_goesDown_113 (fun s_113 hs_113 => ?_)
  have a113 : s_113 136 (146 + 10 * a + 1) = σ 136 (146 + 10 * a + 1) := by simp (disch := omega) only [hs_113, hs_89, hs_57, hs_47, hs_32, hs_22, up_at, upd_ne, upd_at, e136]
  refine g_al0n (pc := 114) C dX12_goesDown_114 ?_
  refine g_il1n (pc := 115) C dX12_goesDown_115 ?_
  refine g_iconst (pc := 116) (v := 1) C dX12_goesDown_116 (by decide) ?_
  refine s_VI (pc := 117) (st := []) C h135 rfl (c_X12_askOf (d := d - 1) (by omega) s_113 (a := a) (f := 1) (by omega) (by omega) rfl rfl) (by omega) lX12_67 dX12_goesDown_117 rfl (Nat.le_of_ble_eq_true rfl) rfl ?_
  refine g_if_lt (pc := 120) (tgt := 147) C dX12_goesDown_120 (by decide) (fun c_120 => ?_) (fun c_120 => ?_)
  · refine r_Q C hr dX12_goesDown_147 ⟨?_, ?_⟩
    · rw [a113] at c_120
      simp only [downS, c_120, if_true, if_false, hs_113, hs_89, hs_57, hs_47, hs_32, hs_22, up_at, e136, hv_19]
    · rw [hs_113, hs_89, hs_57, hs_47, hs_32, hs_22]; exact eqx_u (eqx_u (eqx_u (eqx_u (eqx_u (eqx_u (eqx_wk hE))))))
  · refine g_al0n (pc := 123) C dX12_goesDown_123 ?_
    refine s_getR (pc := 124) C fX12_9 h135 rfl dX12_goesDown_124 ?_
    refine g_bipush (pc := 127) (v := 90) C dX12_goesDown_127 (by decide) ?_
    refine g_iconst (pc := 129) (v := 4) C dX12_goesDown_129 (by decide) ?_
    refine g_al0n (pc := 130) C dX12_goesDown_130 ?_
    refine g_il1n (pc := 131) C dX12_goesDown_131 ?_
    refine g_iconst (pc := 132) (v := 1) C dX12_goesDown_132 (by decide) ?_
    refine s_VI (pc := 133) (st := [(.int 4), (.int 90), (.ref 136)]) C h135 rfl (c_X12_askOf (d := d - 1) (by omega) s_113 (a := a) (f := 1) (by omega) (by omega) rfl rfl) (by omega) lX12_67 dX12_goesDown_133 rfl (Nat.le_of_ble_eq_true rfl) rfl ?_
    refine g_imul (pc := 136) C dX12_goesDown_136 ?_
    refine g_iadd (pc := 137) C dX12_goesDown_137 ?_
    refine g_iconst (pc := 138) (v := 2) C dX12_goesDown_138 (by decide) ?_
    refine g_iadd (pc := 139) C dX12_goesDown_139 ?_
    refine g_al0n (pc := 140) C dX12_goesDown_140 ?_
    refine s_getR (pc := 141) C fX12_9 h135 rfl dX12_goesDown_141 ?_
    refine g_iconst (pc := 144) (v := 0) C dX12_goesDown_144 (by decide) ?_
    refine s_iald (pc := 145) (q := 0) C h136 rfl (by omega) (Nat.le_of_ble_eq_true rfl) dX12_goesDown_145 ?_
    refine s_iastN (pc := 146) (q := 90 + 4 * (σ 136 (146 + 10 * a + 1)).toNatClampNeg + 2) C h136 (by rw [a113] at c_120 ⊢; rw [(hI.wth ha c_120).1]; simp only [nI_clamp (show (σ 136 (146 + 10 * a + 1)).toNatClampNeg < 2 ^ 31 by have := (hI.wth ha c_120).2; omega), ixl, nI_add, pk_mul]) (by rw [a113] at c_120; have := (hI.wth ha c_120).2; omega) (Nat.le_of_ble_eq_true rfl) dX12_goesDown_146 (fun s_146 hs_146 => ?_)
    refine r_Q C hr dX12_goesDown_147 ⟨?_, ?_⟩
    · rw [a113] at c_120
      simp only [downS, c_120, if_true, if_false, hs_146, hs_113, hs_89, hs_57, hs_47, hs_32, hs_22, up_at, e136, hv_19]
    · rw [hs_146, hs_113, hs_89, hs_57, hs_47, hs_32, hs_22]; exact eqx_u (eqx_u (eqx_u (eqx_u (eqx_u (eqx_u (eqx_u (eqx_wk hE)))))))

