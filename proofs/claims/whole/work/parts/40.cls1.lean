/-! ===== the class: what needs no world ===== -/
section GAV
variable {μ : Mx} {ω : Om} {Q : State → Prop} {own : String} {cc : ByteArray} {nL d pc n k j : Nat} {lv : List (Option Value)} {st : List Value} {h : AH}
theorem g_ialdAv (C : Cx μ ω own cc nL d) {q : String × String × List Int32} {v : Int32} (hq : axL[j]? = some q) {i : Int32} (hi : vp_in i q.2.2.length) (hv : q.2.2.getD i.toNatClampNeg 0 = v) (hd : decode cc pc = .ok (.iaload, 1)) (kk : G μ ω Q (pc + 1) lv (.int v :: st) h n k) : G μ ω Q pc lv (.int i :: .ref (100000 + j) :: st) h n k := by
  subst hv
  exact g_ialdA C hq hi hd kk
end GAV
theorem c_withBit {d : Nat} (hd : 1 ≤ d) (σ : Sg) (s k is : Int32) : CI d mX11_withBit [.int s, .int k, .int is] σ (wb s k is) σ := by
  refine con_of (by decide) (catL rfl) (Nat.le_of_ble_eq_true rfl) ?_
  intro μ ω C hr
  have C : Cx μ ω "TowField" cX11_withBit 3 d := C
  have hr : (mH μ).sig.returnType = some .int := hr
  show G μ ω (RQ μ ω (pI (wb s k is) σ)) 0 [some (.int s), some (.int k), some (.int is)] [] (mk σ) 0 0
  refine g_il2n (pc := 0) C dX11_withBit_0 ?_
  refine g_if_eq (pc := 1) (tgt := 12) C dX11_withBit_1 (by decide) (fun c_1 => ?_) (fun c_1 => ?_)
  · refine g_il0n (pc := 12) C dX11_withBit_12 ?_
    refine g_iconst (pc := 13) (v := 1) C dX11_withBit_13 (by decide) ?_
    refine g_il1n (pc := 14) C dX11_withBit_14 ?_
    refine g_ishl (pc := 15) C dX11_withBit_15 ?_
    refine g_iconst (pc := 16) (v := (-1)) C dX11_withBit_16 (by decide) ?_
    refine g_ixor (pc := 17) C dX11_withBit_17 ?_
    refine g_iand (pc := 18) C dX11_withBit_18 ?_
    exact r_I C hr dX11_withBit_19 (by simp only [wb, c_1, if_true, if_false]) rfl
  · refine g_il0n (pc := 4) C dX11_withBit_4 ?_
    refine g_iconst (pc := 5) (v := 1) C dX11_withBit_5 (by decide) ?_
    refine g_il1n (pc := 6) C dX11_withBit_6 ?_
    refine g_ishl (pc := 7) C dX11_withBit_7 ?_
    refine g_ior (pc := 8) C dX11_withBit_8 ?_
    refine g_goto (pc := 9) (tgt := 19) C dX11_withBit_9 (by decide) ?_
    exact r_I C hr dX11_withBit_19 (by simp only [wb, c_1, if_true, if_false]) rfl

theorem c_hasBit {d : Nat} (hd : 1 ≤ d) (σ : Sg) (s k : Int32) : CB d mX11_hasBit [.int s, .int k] σ (hb s k = true) σ := by
  refine con_of (by decide) (catL rfl) (Nat.le_of_ble_eq_true rfl) ?_
  intro μ ω C hr
  have C : Cx μ ω "TowField" cX11_hasBit 2 d := C
  have hr : (mH μ).sig.returnType = some .boolean := hr
  show G μ ω (RQ μ ω (pB (hb s k = true) σ)) 0 [some (.int s), some (.int k)] [] (mk σ) 0 0
  refine g_il0n (pc := 0) C dX11_hasBit_0 ?_
  refine g_il1n (pc := 1) C dX11_hasBit_1 ?_
  refine g_ishr (pc := 2) C dX11_hasBit_2 ?_
  refine g_iconst (pc := 3) (v := 1) C dX11_hasBit_3 (by decide) ?_
  refine g_iand (pc := 4) C dX11_hasBit_4 ?_
  refine g_if_eq (pc := 5) (tgt := 12) C dX11_hasBit_5 (by decide) (fun c_5 => ?_) (fun c_5 => ?_)
  · refine g_iconst (pc := 12) (v := 0) C dX11_hasBit_12 (by decide) ?_
    exact r_B0 C hr dX11_hasBit_13 (fun z => (hb_iff0.mp z) c_5) rfl
  · refine g_iconst (pc := 8) (v := 1) C dX11_hasBit_8 (by decide) ?_
    refine g_goto (pc := 9) (tgt := 13) C dX11_hasBit_9 (by decide) ?_
    exact r_B1 C hr dX11_hasBit_13 (hb_iff0.mpr c_5) rfl

theorem c_found0 {d : Nat} (hd : 2 ≤ d) (σ : Sg) : CI d mX11_found [.ref 0, .int ((-1000001))] σ ((-1000001)) (up σ 134 0 (σ 134 0 + 1)) := by
  refine con_of (by decide) (catL rfl) (Nat.le_of_ble_eq_true rfl) ?_
  intro μ ω C hr
  have C : Cx μ ω "TowField" cX11_found 3 d := C
  have hr : (mH μ).sig.returnType = some .int := hr
  show G μ ω (RQ μ ω (pI ((-1000001)) (up σ 134 0 (σ 134 0 + 1)))) 0 [some (.ref 0), some (.int ((-1000001))), none] [] (mk σ) 0 0
  refine g_ldc (pc := 0) C dX11_found_0 kX11_57 ?_
  refine g_il1n (pc := 2) C dX11_found_2 ?_
  refine g_isub (pc := 3) C dX11_found_3 ?_
  refine g_is2n (pc := 4) C dX11_found_4 ?_
  refine g_il2n (pc := 5) C dX11_found_5 ?_
  refine g_iconst (pc := 6) (v := 0) C dX11_found_6 (by decide) ?_
  refine g_bipush (pc := 7) (v := 6) C dX11_found_7 (by decide) ?_
  refine s_SB (pc := 9) (st := []) C (c_X11_within (d := d - 1) (by omega) σ (((-1000001)) - ((-1000001))) 0 6) (by omega) lX11_53 dX11_found_9 rfl (Nat.le_of_ble_eq_true rfl) rfl (fun b_9 => ?_) (fun b_9 => absurd (by decide) b_9)
  refine g_if_eq (pc := 12) (tgt := 25) C dX11_found_12 (by decide) (fun c => absurd c (by decide)) (fun _ => ?_)
  refine g_al0n (pc := 15) C dX11_found_15 ?_
  refine s_getR (pc := 16) C fX11_45 h0 rfl dX11_found_16 ?_
  refine g_il2n (pc := 19) C dX11_found_19 ?_
  refine g_dup2 (pc := 20) C dX11_found_20 rfl rfl ?_
  refine s_iald (pc := 21) (q := 0) C h134 (by decide) (by decide) (Nat.le_of_ble_eq_true rfl) dX11_found_21 ?_
  refine g_iconst (pc := 22) (v := 1) C dX11_found_22 (by decide) ?_
  refine g_iadd (pc := 23) C dX11_found_23 ?_
  refine s_iast (pc := 24) (q := 0) C h134 (by decide) (by decide) (Nat.le_of_ble_eq_true rfl) dX11_found_24 ?_
  refine g_il1n (pc := 25) C dX11_found_25 ?_
  exact r_I C hr dX11_found_26 rfl rfl

theorem c_found1 {d : Nat} (hd : 2 ≤ d) (σ : Sg) : CI d mX11_found [.ref 0, .int ((-1000002))] σ ((-1000002)) (up σ 134 1 (σ 134 1 + 1)) := by
  refine con_of (by decide) (catL rfl) (Nat.le_of_ble_eq_true rfl) ?_
  intro μ ω C hr
  have C : Cx μ ω "TowField" cX11_found 3 d := C
  have hr : (mH μ).sig.returnType = some .int := hr
  show G μ ω (RQ μ ω (pI ((-1000002)) (up σ 134 1 (σ 134 1 + 1)))) 0 [some (.ref 0), some (.int ((-1000002))), none] [] (mk σ) 0 0
  refine g_ldc (pc := 0) C dX11_found_0 kX11_57 ?_
  refine g_il1n (pc := 2) C dX11_found_2 ?_
  refine g_isub (pc := 3) C dX11_found_3 ?_
  refine g_is2n (pc := 4) C dX11_found_4 ?_
  refine g_il2n (pc := 5) C dX11_found_5 ?_
  refine g_iconst (pc := 6) (v := 0) C dX11_found_6 (by decide) ?_
  refine g_bipush (pc := 7) (v := 6) C dX11_found_7 (by decide) ?_
  refine s_SB (pc := 9) (st := []) C (c_X11_within (d := d - 1) (by omega) σ (((-1000001)) - ((-1000002))) 0 6) (by omega) lX11_53 dX11_found_9 rfl (Nat.le_of_ble_eq_true rfl) rfl (fun b_9 => ?_) (fun b_9 => absurd (by decide) b_9)
  refine g_if_eq (pc := 12) (tgt := 25) C dX11_found_12 (by decide) (fun c => absurd c (by decide)) (fun _ => ?_)
  refine g_al0n (pc := 15) C dX11_found_15 ?_
  refine s_getR (pc := 16) C fX11_45 h0 rfl dX11_found_16 ?_
  refine g_il2n (pc := 19) C dX11_found_19 ?_
  refine g_dup2 (pc := 20) C dX11_found_20 rfl rfl ?_
  refine s_iald (pc := 21) (q := 1) C h134 (by decide) (by decide) (Nat.le_of_ble_eq_true rfl) dX11_found_21 ?_
  refine g_iconst (pc := 22) (v := 1) C dX11_found_22 (by decide) ?_
  refine g_iadd (pc := 23) C dX11_found_23 ?_
  refine s_iast (pc := 24) (q := 1) C h134 (by decide) (by decide) (Nat.le_of_ble_eq_true rfl) dX11_found_24 ?_
  refine g_il1n (pc := 25) C dX11_found_25 ?_
  exact r_I C hr dX11_found_26 rfl rfl

theorem c_found2 {d : Nat} (hd : 2 ≤ d) (σ : Sg) : CI d mX11_found [.ref 0, .int ((-1000003))] σ ((-1000003)) (up σ 134 2 (σ 134 2 + 1)) := by
  refine con_of (by decide) (catL rfl) (Nat.le_of_ble_eq_true rfl) ?_
  intro μ ω C hr
  have C : Cx μ ω "TowField" cX11_found 3 d := C
  have hr : (mH μ).sig.returnType = some .int := hr
  show G μ ω (RQ μ ω (pI ((-1000003)) (up σ 134 2 (σ 134 2 + 1)))) 0 [some (.ref 0), some (.int ((-1000003))), none] [] (mk σ) 0 0
  refine g_ldc (pc := 0) C dX11_found_0 kX11_57 ?_
  refine g_il1n (pc := 2) C dX11_found_2 ?_
  refine g_isub (pc := 3) C dX11_found_3 ?_
  refine g_is2n (pc := 4) C dX11_found_4 ?_
  refine g_il2n (pc := 5) C dX11_found_5 ?_
  refine g_iconst (pc := 6) (v := 0) C dX11_found_6 (by decide) ?_
  refine g_bipush (pc := 7) (v := 6) C dX11_found_7 (by decide) ?_
  refine s_SB (pc := 9) (st := []) C (c_X11_within (d := d - 1) (by omega) σ (((-1000001)) - ((-1000003))) 0 6) (by omega) lX11_53 dX11_found_9 rfl (Nat.le_of_ble_eq_true rfl) rfl (fun b_9 => ?_) (fun b_9 => absurd (by decide) b_9)
  refine g_if_eq (pc := 12) (tgt := 25) C dX11_found_12 (by decide) (fun c => absurd c (by decide)) (fun _ => ?_)
  refine g_al0n (pc := 15) C dX11_found_15 ?_
  refine s_getR (pc := 16) C fX11_45 h0 rfl dX11_found_16 ?_
  refine g_il2n (pc := 19) C dX11_found_19 ?_
  refine g_dup2 (pc := 20) C dX11_found_20 rfl rfl ?_
  refine s_iald (pc := 21) (q := 2) C h134 (by decide) (by decide) (Nat.le_of_ble_eq_true rfl) dX11_found_21 ?_
  refine g_iconst (pc := 22) (v := 1) C dX11_found_22 (by decide) ?_
  refine g_iadd (pc := 23) C dX11_found_23 ?_
  refine s_iast (pc := 24) (q := 2) C h134 (by decide) (by decide) (Nat.le_of_ble_eq_true rfl) dX11_found_24 ?_
  refine g_il1n (pc := 25) C dX11_found_25 ?_
  exact r_I C hr dX11_found_26 rfl rfl

theorem c_found3 {d : Nat} (hd : 2 ≤ d) (σ : Sg) : CI d mX11_found [.ref 0, .int ((-1000004))] σ ((-1000004)) (up σ 134 3 (σ 134 3 + 1)) := by
  refine con_of (by decide) (catL rfl) (Nat.le_of_ble_eq_true rfl) ?_
  intro μ ω C hr
  have C : Cx μ ω "TowField" cX11_found 3 d := C
  have hr : (mH μ).sig.returnType = some .int := hr
  show G μ ω (RQ μ ω (pI ((-1000004)) (up σ 134 3 (σ 134 3 + 1)))) 0 [some (.ref 0), some (.int ((-1000004))), none] [] (mk σ) 0 0
  refine g_ldc (pc := 0) C dX11_found_0 kX11_57 ?_
  refine g_il1n (pc := 2) C dX11_found_2 ?_
  refine g_isub (pc := 3) C dX11_found_3 ?_
  refine g_is2n (pc := 4) C dX11_found_4 ?_
  refine g_il2n (pc := 5) C dX11_found_5 ?_
  refine g_iconst (pc := 6) (v := 0) C dX11_found_6 (by decide) ?_
  refine g_bipush (pc := 7) (v := 6) C dX11_found_7 (by decide) ?_
  refine s_SB (pc := 9) (st := []) C (c_X11_within (d := d - 1) (by omega) σ (((-1000001)) - ((-1000004))) 0 6) (by omega) lX11_53 dX11_found_9 rfl (Nat.le_of_ble_eq_true rfl) rfl (fun b_9 => ?_) (fun b_9 => absurd (by decide) b_9)
  refine g_if_eq (pc := 12) (tgt := 25) C dX11_found_12 (by decide) (fun c => absurd c (by decide)) (fun _ => ?_)
  refine g_al0n (pc := 15) C dX11_found_15 ?_
  refine s_getR (pc := 16) C fX11_45 h0 rfl dX11_found_16 ?_
  refine g_il2n (pc := 19) C dX11_found_19 ?_
  refine g_dup2 (pc := 20) C dX11_found_20 rfl rfl ?_
  refine s_iald (pc := 21) (q := 3) C h134 (by decide) (by decide) (Nat.le_of_ble_eq_true rfl) dX11_found_21 ?_
  refine g_iconst (pc := 22) (v := 1) C dX11_found_22 (by decide) ?_
  refine g_iadd (pc := 23) C dX11_found_23 ?_
  refine s_iast (pc := 24) (q := 3) C h134 (by decide) (by decide) (Nat.le_of_ble_eq_true rfl) dX11_found_24 ?_
  refine g_il1n (pc := 25) C dX11_found_25 ?_
  exact r_I C hr dX11_found_26 rfl rfl

theorem c_found4 {d : Nat} (hd : 2 ≤ d) (σ : Sg) : CI d mX11_found [.ref 0, .int ((-1000005))] σ ((-1000005)) (up σ 134 4 (σ 134 4 + 1)) := by
  refine con_of (by decide) (catL rfl) (Nat.le_of_ble_eq_true rfl) ?_
  intro μ ω C hr
  have C : Cx μ ω "TowField" cX11_found 3 d := C
  have hr : (mH μ).sig.returnType = some .int := hr
  show G μ ω (RQ μ ω (pI ((-1000005)) (up σ 134 4 (σ 134 4 + 1)))) 0 [some (.ref 0), some (.int ((-1000005))), none] [] (mk σ) 0 0
  refine g_ldc (pc := 0) C dX11_found_0 kX11_57 ?_
  refine g_il1n (pc := 2) C dX11_found_2 ?_
  refine g_isub (pc := 3) C dX11_found_3 ?_
  refine g_is2n (pc := 4) C dX11_found_4 ?_
  refine g_il2n (pc := 5) C dX11_found_5 ?_
  refine g_iconst (pc := 6) (v := 0) C dX11_found_6 (by decide) ?_
  refine g_bipush (pc := 7) (v := 6) C dX11_found_7 (by decide) ?_
  refine s_SB (pc := 9) (st := []) C (c_X11_within (d := d - 1) (by omega) σ (((-1000001)) - ((-1000005))) 0 6) (by omega) lX11_53 dX11_found_9 rfl (Nat.le_of_ble_eq_true rfl) rfl (fun b_9 => ?_) (fun b_9 => absurd (by decide) b_9)
  refine g_if_eq (pc := 12) (tgt := 25) C dX11_found_12 (by decide) (fun c => absurd c (by decide)) (fun _ => ?_)
  refine g_al0n (pc := 15) C dX11_found_15 ?_
  refine s_getR (pc := 16) C fX11_45 h0 rfl dX11_found_16 ?_
  refine g_il2n (pc := 19) C dX11_found_19 ?_
  refine g_dup2 (pc := 20) C dX11_found_20 rfl rfl ?_
  refine s_iald (pc := 21) (q := 4) C h134 (by decide) (by decide) (Nat.le_of_ble_eq_true rfl) dX11_found_21 ?_
  refine g_iconst (pc := 22) (v := 1) C dX11_found_22 (by decide) ?_
  refine g_iadd (pc := 23) C dX11_found_23 ?_
  refine s_iast (pc := 24) (q := 4) C h134 (by decide) (by decide) (Nat.le_of_ble_eq_true rfl) dX11_found_24 ?_
  refine g_il1n (pc := 25) C dX11_found_25 ?_
  exact r_I C hr dX11_found_26 rfl rfl

theorem c_found5 {d : Nat} (hd : 2 ≤ d) (σ : Sg) : CI d mX11_found [.ref 0, .int ((-1000006))] σ ((-1000006)) (up σ 134 5 (σ 134 5 + 1)) := by
  refine con_of (by decide) (catL rfl) (Nat.le_of_ble_eq_true rfl) ?_
  intro μ ω C hr
  have C : Cx μ ω "TowField" cX11_found 3 d := C
  have hr : (mH μ).sig.returnType = some .int := hr
  show G μ ω (RQ μ ω (pI ((-1000006)) (up σ 134 5 (σ 134 5 + 1)))) 0 [some (.ref 0), some (.int ((-1000006))), none] [] (mk σ) 0 0
  refine g_ldc (pc := 0) C dX11_found_0 kX11_57 ?_
  refine g_il1n (pc := 2) C dX11_found_2 ?_
  refine g_isub (pc := 3) C dX11_found_3 ?_
  refine g_is2n (pc := 4) C dX11_found_4 ?_
  refine g_il2n (pc := 5) C dX11_found_5 ?_
  refine g_iconst (pc := 6) (v := 0) C dX11_found_6 (by decide) ?_
  refine g_bipush (pc := 7) (v := 6) C dX11_found_7 (by decide) ?_
  refine s_SB (pc := 9) (st := []) C (c_X11_within (d := d - 1) (by omega) σ (((-1000001)) - ((-1000006))) 0 6) (by omega) lX11_53 dX11_found_9 rfl (Nat.le_of_ble_eq_true rfl) rfl (fun b_9 => ?_) (fun b_9 => absurd (by decide) b_9)
  refine g_if_eq (pc := 12) (tgt := 25) C dX11_found_12 (by decide) (fun c => absurd c (by decide)) (fun _ => ?_)
  refine g_al0n (pc := 15) C dX11_found_15 ?_
  refine s_getR (pc := 16) C fX11_45 h0 rfl dX11_found_16 ?_
  refine g_il2n (pc := 19) C dX11_found_19 ?_
  refine g_dup2 (pc := 20) C dX11_found_20 rfl rfl ?_
  refine s_iald (pc := 21) (q := 5) C h134 (by decide) (by decide) (Nat.le_of_ble_eq_true rfl) dX11_found_21 ?_
  refine g_iconst (pc := 22) (v := 1) C dX11_found_22 (by decide) ?_
  refine g_iadd (pc := 23) C dX11_found_23 ?_
  refine s_iast (pc := 24) (q := 5) C h134 (by decide) (by decide) (Nat.le_of_ble_eq_true rfl) dX11_found_24 ?_
  refine g_il1n (pc := 25) C dX11_found_25 ?_
  exact r_I C hr dX11_found_26 rfl rfl

theorem c_found6 {d : Nat} (hd : 2 ≤ d) (σ : Sg) : CI d mX11_found [.ref 0, .int ((-1000007))] σ ((-1000007)) (up σ 134 6 (σ 134 6 + 1)) := by
  refine con_of (by decide) (catL rfl) (Nat.le_of_ble_eq_true rfl) ?_
  intro μ ω C hr
  have C : Cx μ ω "TowField" cX11_found 3 d := C
  have hr : (mH μ).sig.returnType = some .int := hr
  show G μ ω (RQ μ ω (pI ((-1000007)) (up σ 134 6 (σ 134 6 + 1)))) 0 [some (.ref 0), some (.int ((-1000007))), none] [] (mk σ) 0 0
  refine g_ldc (pc := 0) C dX11_found_0 kX11_57 ?_
  refine g_il1n (pc := 2) C dX11_found_2 ?_
  refine g_isub (pc := 3) C dX11_found_3 ?_
  refine g_is2n (pc := 4) C dX11_found_4 ?_
  refine g_il2n (pc := 5) C dX11_found_5 ?_
  refine g_iconst (pc := 6) (v := 0) C dX11_found_6 (by decide) ?_
  refine g_bipush (pc := 7) (v := 6) C dX11_found_7 (by decide) ?_
  refine s_SB (pc := 9) (st := []) C (c_X11_within (d := d - 1) (by omega) σ (((-1000001)) - ((-1000007))) 0 6) (by omega) lX11_53 dX11_found_9 rfl (Nat.le_of_ble_eq_true rfl) rfl (fun b_9 => ?_) (fun b_9 => absurd (by decide) b_9)
  refine g_if_eq (pc := 12) (tgt := 25) C dX11_found_12 (by decide) (fun c => absurd c (by decide)) (fun _ => ?_)
  refine g_al0n (pc := 15) C dX11_found_15 ?_
  refine s_getR (pc := 16) C fX11_45 h0 rfl dX11_found_16 ?_
  refine g_il2n (pc := 19) C dX11_found_19 ?_
  refine g_dup2 (pc := 20) C dX11_found_20 rfl rfl ?_
  refine s_iald (pc := 21) (q := 6) C h134 (by decide) (by decide) (Nat.le_of_ble_eq_true rfl) dX11_found_21 ?_
  refine g_iconst (pc := 22) (v := 1) C dX11_found_22 (by decide) ?_
  refine g_iadd (pc := 23) C dX11_found_23 ?_
  refine s_iast (pc := 24) (q := 6) C h134 (by decide) (by decide) (Nat.le_of_ble_eq_true rfl) dX11_found_24 ?_
  refine g_il1n (pc := 25) C dX11_found_25 ?_
  exact r_I C hr dX11_found_26 rfl rfl

theorem c_X2_has {d : Nat} (hd : 2 ≤ d) (σ : Sg) (k : Int32) : CB d mX2_has [.int k] σ (0 ≤ k ∧ k ≤ 5) σ := by
  refine con_of (by decide) (catL rfl) (Nat.le_of_ble_eq_true rfl) ?_
  intro μ ω C hr
  have C : Cx μ ω "TowField$Kinds" cX2_has 1 d := C
  have hr : (mH μ).sig.returnType = some .boolean := hr
  show G μ ω (RQ μ ω (pB (0 ≤ k ∧ k ≤ 5) σ)) 0 [some (.int k)] [] (mk σ) 0 0
  refine g_il0n (pc := 0) C dX2_has_0 ?_
  refine g_iconst (pc := 1) (v := 0) C dX2_has_1 (by decide) ?_
  refine g_iconst (pc := 2) (v := 5) C dX2_has_2 (by decide) ?_
  refine s_NB (pc := 3) (st := []) C (c_X11_within (d := d - 1) (by omega) σ k 0 5) (by omega) lX2_9 dX2_has_3 rfl (Nat.le_of_ble_eq_true rfl) rfl (fun b_3 => ?_) (fun b_3 => ?_)
  · exact r_B1 C hr dX2_has_6 b_3 rfl
  · exact r_B0 C hr dX2_has_6 b_3 rfl

theorem c_X3_has {d : Nat} (hd : 2 ≤ d) (σ : Sg) (k : Int32) : CB d mX3_has [.int k] σ (0 ≤ k ∧ k ≤ 5) σ := by
  refine con_of (by decide) (catL rfl) (Nat.le_of_ble_eq_true rfl) ?_
  intro μ ω C hr
  have C : Cx μ ω "TowField$Lanes" cX3_has 1 d := C
  have hr : (mH μ).sig.returnType = some .boolean := hr
  show G μ ω (RQ μ ω (pB (0 ≤ k ∧ k ≤ 5) σ)) 0 [some (.int k)] [] (mk σ) 0 0
  refine g_il0n (pc := 0) C dX3_has_0 ?_
  refine g_iconst (pc := 1) (v := 0) C dX3_has_1 (by decide) ?_
  refine g_iconst (pc := 2) (v := 5) C dX3_has_2 (by decide) ?_
  refine s_NB (pc := 3) (st := []) C (c_X11_within (d := d - 1) (by omega) σ k 0 5) (by omega) lX3_29 dX3_has_3 rfl (Nat.le_of_ble_eq_true rfl) rfl (fun b_3 => ?_) (fun b_3 => ?_)
  · exact r_B1 C hr dX3_has_6 b_3 rfl
  · exact r_B0 C hr dX3_has_6 b_3 rfl

theorem c_X6_has {d : Nat} (hd : 2 ≤ d) (σ : Sg) (k : Int32) : CB d mX6_has [.int k] σ (0 ≤ k ∧ k ≤ 3) σ := by
  refine con_of (by decide) (catL rfl) (Nat.le_of_ble_eq_true rfl) ?_
  intro μ ω C hr
  have C : Cx μ ω "TowField$Sheets" cX6_has 1 d := C
  have hr : (mH μ).sig.returnType = some .boolean := hr
  show G μ ω (RQ μ ω (pB (0 ≤ k ∧ k ≤ 3) σ)) 0 [some (.int k)] [] (mk σ) 0 0
  refine g_il0n (pc := 0) C dX6_has_0 ?_
  refine g_iconst (pc := 1) (v := 0) C dX6_has_1 (by decide) ?_
  refine g_iconst (pc := 2) (v := 3) C dX6_has_2 (by decide) ?_
  refine s_NB (pc := 3) (st := []) C (c_X11_within (d := d - 1) (by omega) σ k 0 3) (by omega) lX6_21 dX6_has_3 rfl (Nat.le_of_ble_eq_true rfl) rfl (fun b_3 => ?_) (fun b_3 => ?_)
  · exact r_B1 C hr dX6_has_6 b_3 rfl
  · exact r_B0 C hr dX6_has_6 b_3 rfl

theorem c_isOrUnder0 {d : Nat} (hd : 3 ≤ d) (σ : Sg) (u : Int32) : CB d mX2_isOrUnder [.int 0, .int u] σ (undK 0 u = true) σ := by
  refine con_of (by decide) (catL rfl) (Nat.le_of_ble_eq_true rfl) ?_
  intro μ ω C hr
  have C : Cx μ ω "TowField$Kinds" cX2_isOrUnder 4 d := C
  have hr : (mH μ).sig.returnType = some .boolean := hr
  show G μ ω (RQ μ ω (pB (undK 0 u = true) σ)) 0 [some (.int 0), some (.int u), none, none] [] (mk σ) 0 0
  refine g_il0n (pc := 0) C dX2_isOrUnder_0 ?_
  refine g_is2n (pc := 1) C dX2_isOrUnder_1 ?_
  refine g_iconst (pc := 2) (v := 0) C dX2_isOrUnder_2 (by decide) ?_
  refine g_is3n (pc := 3) C dX2_isOrUnder_3 ?_
  refine g_il3n (pc := 4) C dX2_isOrUnder_4 ?_
  refine g_iconst (pc := 5) (v := 5) C dX2_isOrUnder_5 (by decide) ?_
  refine g_icmp_gt (pc := 6) (tgt := 35) C dX2_isOrUnder_6 (by decide) (fun c => absurd c (by decide)) (fun _ => ?_)
  refine g_il2n (pc := 9) C dX2_isOrUnder_9 ?_
  refine s_SB (pc := 10) (st := []) C (c_X2_has (d := d - 1) (by omega) σ 0) (by omega) lX2_15 dX2_isOrUnder_10 rfl (Nat.le_of_ble_eq_true rfl) rfl (fun b_10 => ?_) (fun b_10 => absurd (by decide) b_10)
  refine g_if_eq (pc := 13) (tgt := 35) C dX2_isOrUnder_13 (by decide) (fun c => absurd c (by decide)) (fun _ => ?_)
  refine g_il2n (pc := 16) C dX2_isOrUnder_16 ?_
  refine g_il1n (pc := 17) C dX2_isOrUnder_17 ?_
  refine g_icmp_ne (pc := 18) (tgt := 23) C dX2_isOrUnder_18 (by decide) (fun c_18 => ?_) (fun c_18 => ?_)
  · refine g_getsA (pc := 23) (j := 0) C rfl sX2_19 dX2_isOrUnder_23 ?_
    refine g_il2n (pc := 26) C dX2_isOrUnder_26 ?_
    refine g_ialdAv (pc := 27) (v := (-1)) C rfl (by exact vp_in_nI (show 0 < 6 by decide) (by decide)) (by decide) dX2_isOrUnder_27 ?_
    refine g_is2n (pc := 28) C dX2_isOrUnder_28 ?_
    refine g_ii3 (pc := 29) (v := 1) C dX2_isOrUnder_29 (by decide) ?_
    refine g_goto (pc := 32) (tgt := 4) C dX2_isOrUnder_32 (by decide) ?_
    refine g_il3n (pc := 4) C dX2_isOrUnder_4 ?_
    refine g_iconst (pc := 5) (v := 5) C dX2_isOrUnder_5 (by decide) ?_
    refine g_icmp_gt (pc := 6) (tgt := 35) C dX2_isOrUnder_6 (by decide) (fun c => absurd c (by decide)) (fun _ => ?_)
    refine g_il2n (pc := 9) C dX2_isOrUnder_9 ?_
    refine s_SB (pc := 10) (st := []) C (c_X2_has (d := d - 1) (by omega) σ ((-1))) (by omega) lX2_15 dX2_isOrUnder_10 rfl (Nat.le_of_ble_eq_true rfl) rfl (fun b_10 => absurd b_10 (by decide)) (fun b_10 => ?_)
    refine g_if_eq (pc := 13) (tgt := 35) C dX2_isOrUnder_13 (by decide) (fun _ => ?_) (fun c => absurd c (by decide))
    refine g_iconst (pc := 35) (v := 0) C dX2_isOrUnder_35 (by decide) ?_
    exact r_B0 C hr dX2_isOrUnder_36 (by simp [undK, Ne.symm c_18]) rfl
  · refine g_iconst (pc := 21) (v := 1) C dX2_isOrUnder_21 (by decide) ?_
    exact r_B1 C hr dX2_isOrUnder_22 (by rw [← c_18]; decide) rfl

theorem c_isOrUnder1 {d : Nat} (hd : 3 ≤ d) (σ : Sg) (u : Int32) : CB d mX2_isOrUnder [.int 1, .int u] σ (undK 1 u = true) σ := by
  refine con_of (by decide) (catL rfl) (Nat.le_of_ble_eq_true rfl) ?_
  intro μ ω C hr
  have C : Cx μ ω "TowField$Kinds" cX2_isOrUnder 4 d := C
  have hr : (mH μ).sig.returnType = some .boolean := hr
  show G μ ω (RQ μ ω (pB (undK 1 u = true) σ)) 0 [some (.int 1), some (.int u), none, none] [] (mk σ) 0 0
  refine g_il0n (pc := 0) C dX2_isOrUnder_0 ?_
  refine g_is2n (pc := 1) C dX2_isOrUnder_1 ?_
  refine g_iconst (pc := 2) (v := 0) C dX2_isOrUnder_2 (by decide) ?_
  refine g_is3n (pc := 3) C dX2_isOrUnder_3 ?_
  refine g_il3n (pc := 4) C dX2_isOrUnder_4 ?_
  refine g_iconst (pc := 5) (v := 5) C dX2_isOrUnder_5 (by decide) ?_
  refine g_icmp_gt (pc := 6) (tgt := 35) C dX2_isOrUnder_6 (by decide) (fun c => absurd c (by decide)) (fun _ => ?_)
  refine g_il2n (pc := 9) C dX2_isOrUnder_9 ?_
  refine s_SB (pc := 10) (st := []) C (c_X2_has (d := d - 1) (by omega) σ 1) (by omega) lX2_15 dX2_isOrUnder_10 rfl (Nat.le_of_ble_eq_true rfl) rfl (fun b_10 => ?_) (fun b_10 => absurd (by decide) b_10)
  refine g_if_eq (pc := 13) (tgt := 35) C dX2_isOrUnder_13 (by decide) (fun c => absurd c (by decide)) (fun _ => ?_)
  refine g_il2n (pc := 16) C dX2_isOrUnder_16 ?_
  refine g_il1n (pc := 17) C dX2_isOrUnder_17 ?_
  refine g_icmp_ne (pc := 18) (tgt := 23) C dX2_isOrUnder_18 (by decide) (fun c_18 => ?_) (fun c_18 => ?_)
  · refine g_getsA (pc := 23) (j := 0) C rfl sX2_19 dX2_isOrUnder_23 ?_
    refine g_il2n (pc := 26) C dX2_isOrUnder_26 ?_
    refine g_ialdAv (pc := 27) (v := 0) C rfl (by exact vp_in_nI (show 1 < 6 by decide) (by decide)) (by decide) dX2_isOrUnder_27 ?_
    refine g_is2n (pc := 28) C dX2_isOrUnder_28 ?_
    refine g_ii3 (pc := 29) (v := 1) C dX2_isOrUnder_29 (by decide) ?_
    refine g_goto (pc := 32) (tgt := 4) C dX2_isOrUnder_32 (by decide) ?_
    refine g_il3n (pc := 4) C dX2_isOrUnder_4 ?_
    refine g_iconst (pc := 5) (v := 5) C dX2_isOrUnder_5 (by decide) ?_
    refine g_icmp_gt (pc := 6) (tgt := 35) C dX2_isOrUnder_6 (by decide) (fun c => absurd c (by decide)) (fun _ => ?_)
    refine g_il2n (pc := 9) C dX2_isOrUnder_9 ?_
    refine s_SB (pc := 10) (st := []) C (c_X2_has (d := d - 1) (by omega) σ 0) (by omega) lX2_15 dX2_isOrUnder_10 rfl (Nat.le_of_ble_eq_true rfl) rfl (fun b_10 => ?_) (fun b_10 => absurd (by decide) b_10)
    refine g_if_eq (pc := 13) (tgt := 35) C dX2_isOrUnder_13 (by decide) (fun c => absurd c (by decide)) (fun _ => ?_)
    refine g_il2n (pc := 16) C dX2_isOrUnder_16 ?_
    refine g_il1n (pc := 17) C dX2_isOrUnder_17 ?_
    refine g_icmp_ne (pc := 18) (tgt := 23) C dX2_isOrUnder_18 (by decide) (fun c_18_2 => ?_) (fun c_18_2 => ?_)
    · refine g_getsA (pc := 23) (j := 0) C rfl sX2_19 dX2_isOrUnder_23 ?_
      refine g_il2n (pc := 26) C dX2_isOrUnder_26 ?_
      refine g_ialdAv (pc := 27) (v := (-1)) C rfl (by exact vp_in_nI (show 0 < 6 by decide) (by decide)) (by decide) dX2_isOrUnder_27 ?_
      refine g_is2n (pc := 28) C dX2_isOrUnder_28 ?_
      refine g_ii3 (pc := 29) (v := 2) C dX2_isOrUnder_29 (by decide) ?_
      refine g_goto (pc := 32) (tgt := 4) C dX2_isOrUnder_32 (by decide) ?_
      refine g_il3n (pc := 4) C dX2_isOrUnder_4 ?_
      refine g_iconst (pc := 5) (v := 5) C dX2_isOrUnder_5 (by decide) ?_
      refine g_icmp_gt (pc := 6) (tgt := 35) C dX2_isOrUnder_6 (by decide) (fun c => absurd c (by decide)) (fun _ => ?_)
      refine g_il2n (pc := 9) C dX2_isOrUnder_9 ?_
      refine s_SB (pc := 10) (st := []) C (c_X2_has (d := d - 1) (by omega) σ ((-1))) (by omega) lX2_15 dX2_isOrUnder_10 rfl (Nat.le_of_ble_eq_true rfl) rfl (fun b_10 => absurd b_10 (by decide)) (fun b_10 => ?_)
      refine g_if_eq (pc := 13) (tgt := 35) C dX2_isOrUnder_13 (by decide) (fun _ => ?_) (fun c => absurd c (by decide))
      refine g_iconst (pc := 35) (v := 0) C dX2_isOrUnder_35 (by decide) ?_
      exact r_B0 C hr dX2_isOrUnder_36 (by simp [undK, Ne.symm c_18, Ne.symm c_18_2]) rfl
    · refine g_iconst (pc := 21) (v := 1) C dX2_isOrUnder_21 (by decide) ?_
      exact r_B1 C hr dX2_isOrUnder_22 (by rw [← c_18_2]; decide) rfl
  · refine g_iconst (pc := 21) (v := 1) C dX2_isOrUnder_21 (by decide) ?_
    exact r_B1 C hr dX2_isOrUnder_22 (by rw [← c_18]; decide) rfl

theorem c_isOrUnder2 {d : Nat} (hd : 3 ≤ d) (σ : Sg) (u : Int32) : CB d mX2_isOrUnder [.int 2, .int u] σ (undK 2 u = true) σ := by
  refine con_of (by decide) (catL rfl) (Nat.le_of_ble_eq_true rfl) ?_
  intro μ ω C hr
  have C : Cx μ ω "TowField$Kinds" cX2_isOrUnder 4 d := C
  have hr : (mH μ).sig.returnType = some .boolean := hr
  show G μ ω (RQ μ ω (pB (undK 2 u = true) σ)) 0 [some (.int 2), some (.int u), none, none] [] (mk σ) 0 0
  refine g_il0n (pc := 0) C dX2_isOrUnder_0 ?_
  refine g_is2n (pc := 1) C dX2_isOrUnder_1 ?_
  refine g_iconst (pc := 2) (v := 0) C dX2_isOrUnder_2 (by decide) ?_
  refine g_is3n (pc := 3) C dX2_isOrUnder_3 ?_
  refine g_il3n (pc := 4) C dX2_isOrUnder_4 ?_
  refine g_iconst (pc := 5) (v := 5) C dX2_isOrUnder_5 (by decide) ?_
  refine g_icmp_gt (pc := 6) (tgt := 35) C dX2_isOrUnder_6 (by decide) (fun c => absurd c (by decide)) (fun _ => ?_)
  refine g_il2n (pc := 9) C dX2_isOrUnder_9 ?_
  refine s_SB (pc := 10) (st := []) C (c_X2_has (d := d - 1) (by omega) σ 2) (by omega) lX2_15 dX2_isOrUnder_10 rfl (Nat.le_of_ble_eq_true rfl) rfl (fun b_10 => ?_) (fun b_10 => absurd (by decide) b_10)
  refine g_if_eq (pc := 13) (tgt := 35) C dX2_isOrUnder_13 (by decide) (fun c => absurd c (by decide)) (fun _ => ?_)
  refine g_il2n (pc := 16) C dX2_isOrUnder_16 ?_
  refine g_il1n (pc := 17) C dX2_isOrUnder_17 ?_
  refine g_icmp_ne (pc := 18) (tgt := 23) C dX2_isOrUnder_18 (by decide) (fun c_18 => ?_) (fun c_18 => ?_)
  · refine g_getsA (pc := 23) (j := 0) C rfl sX2_19 dX2_isOrUnder_23 ?_
    refine g_il2n (pc := 26) C dX2_isOrUnder_26 ?_
    refine g_ialdAv (pc := 27) (v := 0) C rfl (by exact vp_in_nI (show 2 < 6 by decide) (by decide)) (by decide) dX2_isOrUnder_27 ?_
    refine g_is2n (pc := 28) C dX2_isOrUnder_28 ?_
    refine g_ii3 (pc := 29) (v := 1) C dX2_isOrUnder_29 (by decide) ?_
    refine g_goto (pc := 32) (tgt := 4) C dX2_isOrUnder_32 (by decide) ?_
    refine g_il3n (pc := 4) C dX2_isOrUnder_4 ?_
    refine g_iconst (pc := 5) (v := 5) C dX2_isOrUnder_5 (by decide) ?_
    refine g_icmp_gt (pc := 6) (tgt := 35) C dX2_isOrUnder_6 (by decide) (fun c => absurd c (by decide)) (fun _ => ?_)
    refine g_il2n (pc := 9) C dX2_isOrUnder_9 ?_
    refine s_SB (pc := 10) (st := []) C (c_X2_has (d := d - 1) (by omega) σ 0) (by omega) lX2_15 dX2_isOrUnder_10 rfl (Nat.le_of_ble_eq_true rfl) rfl (fun b_10 => ?_) (fun b_10 => absurd (by decide) b_10)
    refine g_if_eq (pc := 13) (tgt := 35) C dX2_isOrUnder_13 (by decide) (fun c => absurd c (by decide)) (fun _ => ?_)
    refine g_il2n (pc := 16) C dX2_isOrUnder_16 ?_
    refine g_il1n (pc := 17) C dX2_isOrUnder_17 ?_
    refine g_icmp_ne (pc := 18) (tgt := 23) C dX2_isOrUnder_18 (by decide) (fun c_18_2 => ?_) (fun c_18_2 => ?_)
    · refine g_getsA (pc := 23) (j := 0) C rfl sX2_19 dX2_isOrUnder_23 ?_
      refine g_il2n (pc := 26) C dX2_isOrUnder_26 ?_
      refine g_ialdAv (pc := 27) (v := (-1)) C rfl (by exact vp_in_nI (show 0 < 6 by decide) (by decide)) (by decide) dX2_isOrUnder_27 ?_
      refine g_is2n (pc := 28) C dX2_isOrUnder_28 ?_
      refine g_ii3 (pc := 29) (v := 2) C dX2_isOrUnder_29 (by decide) ?_
      refine g_goto (pc := 32) (tgt := 4) C dX2_isOrUnder_32 (by decide) ?_
      refine g_il3n (pc := 4) C dX2_isOrUnder_4 ?_
      refine g_iconst (pc := 5) (v := 5) C dX2_isOrUnder_5 (by decide) ?_
      refine g_icmp_gt (pc := 6) (tgt := 35) C dX2_isOrUnder_6 (by decide) (fun c => absurd c (by decide)) (fun _ => ?_)
      refine g_il2n (pc := 9) C dX2_isOrUnder_9 ?_
      refine s_SB (pc := 10) (st := []) C (c_X2_has (d := d - 1) (by omega) σ ((-1))) (by omega) lX2_15 dX2_isOrUnder_10 rfl (Nat.le_of_ble_eq_true rfl) rfl (fun b_10 => absurd b_10 (by decide)) (fun b_10 => ?_)
      refine g_if_eq (pc := 13) (tgt := 35) C dX2_isOrUnder_13 (by decide) (fun _ => ?_) (fun c => absurd c (by decide))
      refine g_iconst (pc := 35) (v := 0) C dX2_isOrUnder_35 (by decide) ?_
      exact r_B0 C hr dX2_isOrUnder_36 (by simp [undK, Ne.symm c_18, Ne.symm c_18_2]) rfl
    · refine g_iconst (pc := 21) (v := 1) C dX2_isOrUnder_21 (by decide) ?_
      exact r_B1 C hr dX2_isOrUnder_22 (by rw [← c_18_2]; decide) rfl
  · refine g_iconst (pc := 21) (v := 1) C dX2_isOrUnder_21 (by decide) ?_
    exact r_B1 C hr dX2_isOrUnder_22 (by rw [← c_18]; decide) rfl

theorem c_isOrUnder3 {d : Nat} (hd : 3 ≤ d) (σ : Sg) (u : Int32) : CB d mX2_isOrUnder [.int 3, .int u] σ (undK 3 u = true) σ := by
  refine con_of (by decide) (catL rfl) (Nat.le_of_ble_eq_true rfl) ?_
  intro μ ω C hr
  have C : Cx μ ω "TowField$Kinds" cX2_isOrUnder 4 d := C
  have hr : (mH μ).sig.returnType = some .boolean := hr
  show G μ ω (RQ μ ω (pB (undK 3 u = true) σ)) 0 [some (.int 3), some (.int u), none, none] [] (mk σ) 0 0
  refine g_il0n (pc := 0) C dX2_isOrUnder_0 ?_
  refine g_is2n (pc := 1) C dX2_isOrUnder_1 ?_
  refine g_iconst (pc := 2) (v := 0) C dX2_isOrUnder_2 (by decide) ?_
  refine g_is3n (pc := 3) C dX2_isOrUnder_3 ?_
  refine g_il3n (pc := 4) C dX2_isOrUnder_4 ?_
  refine g_iconst (pc := 5) (v := 5) C dX2_isOrUnder_5 (by decide) ?_
  refine g_icmp_gt (pc := 6) (tgt := 35) C dX2_isOrUnder_6 (by decide) (fun c => absurd c (by decide)) (fun _ => ?_)
  refine g_il2n (pc := 9) C dX2_isOrUnder_9 ?_
  refine s_SB (pc := 10) (st := []) C (c_X2_has (d := d - 1) (by omega) σ 3) (by omega) lX2_15 dX2_isOrUnder_10 rfl (Nat.le_of_ble_eq_true rfl) rfl (fun b_10 => ?_) (fun b_10 => absurd (by decide) b_10)
  refine g_if_eq (pc := 13) (tgt := 35) C dX2_isOrUnder_13 (by decide) (fun c => absurd c (by decide)) (fun _ => ?_)
  refine g_il2n (pc := 16) C dX2_isOrUnder_16 ?_
  refine g_il1n (pc := 17) C dX2_isOrUnder_17 ?_
  refine g_icmp_ne (pc := 18) (tgt := 23) C dX2_isOrUnder_18 (by decide) (fun c_18 => ?_) (fun c_18 => ?_)
  · refine g_getsA (pc := 23) (j := 0) C rfl sX2_19 dX2_isOrUnder_23 ?_
    refine g_il2n (pc := 26) C dX2_isOrUnder_26 ?_
    refine g_ialdAv (pc := 27) (v := 1) C rfl (by exact vp_in_nI (show 3 < 6 by decide) (by decide)) (by decide) dX2_isOrUnder_27 ?_
    refine g_is2n (pc := 28) C dX2_isOrUnder_28 ?_
    refine g_ii3 (pc := 29) (v := 1) C dX2_isOrUnder_29 (by decide) ?_
    refine g_goto (pc := 32) (tgt := 4) C dX2_isOrUnder_32 (by decide) ?_
    refine g_il3n (pc := 4) C dX2_isOrUnder_4 ?_
    refine g_iconst (pc := 5) (v := 5) C dX2_isOrUnder_5 (by decide) ?_
    refine g_icmp_gt (pc := 6) (tgt := 35) C dX2_isOrUnder_6 (by decide) (fun c => absurd c (by decide)) (fun _ => ?_)
    refine g_il2n (pc := 9) C dX2_isOrUnder_9 ?_
    refine s_SB (pc := 10) (st := []) C (c_X2_has (d := d - 1) (by omega) σ 1) (by omega) lX2_15 dX2_isOrUnder_10 rfl (Nat.le_of_ble_eq_true rfl) rfl (fun b_10 => ?_) (fun b_10 => absurd (by decide) b_10)
    refine g_if_eq (pc := 13) (tgt := 35) C dX2_isOrUnder_13 (by decide) (fun c => absurd c (by decide)) (fun _ => ?_)
    refine g_il2n (pc := 16) C dX2_isOrUnder_16 ?_
    refine g_il1n (pc := 17) C dX2_isOrUnder_17 ?_
    refine g_icmp_ne (pc := 18) (tgt := 23) C dX2_isOrUnder_18 (by decide) (fun c_18_2 => ?_) (fun c_18_2 => ?_)
    · refine g_getsA (pc := 23) (j := 0) C rfl sX2_19 dX2_isOrUnder_23 ?_
      refine g_il2n (pc := 26) C dX2_isOrUnder_26 ?_
      refine g_ialdAv (pc := 27) (v := 0) C rfl (by exact vp_in_nI (show 1 < 6 by decide) (by decide)) (by decide) dX2_isOrUnder_27 ?_
      refine g_is2n (pc := 28) C dX2_isOrUnder_28 ?_
      refine g_ii3 (pc := 29) (v := 2) C dX2_isOrUnder_29 (by decide) ?_
      refine g_goto (pc := 32) (tgt := 4) C dX2_isOrUnder_32 (by decide) ?_
      refine g_il3n (pc := 4) C dX2_isOrUnder_4 ?_
      refine g_iconst (pc := 5) (v := 5) C dX2_isOrUnder_5 (by decide) ?_
      refine g_icmp_gt (pc := 6) (tgt := 35) C dX2_isOrUnder_6 (by decide) (fun c => absurd c (by decide)) (fun _ => ?_)
      refine g_il2n (pc := 9) C dX2_isOrUnder_9 ?_
      refine s_SB (pc := 10) (st := []) C (c_X2_has (d := d - 1) (by omega) σ 0) (by omega) lX2_15 dX2_isOrUnder_10 rfl (Nat.le_of_ble_eq_true rfl) rfl (fun b_10 => ?_) (fun b_10 => absurd (by decide) b_10)
      refine g_if_eq (pc := 13) (tgt := 35) C dX2_isOrUnder_13 (by decide) (fun c => absurd c (by decide)) (fun _ => ?_)
      refine g_il2n (pc := 16) C dX2_isOrUnder_16 ?_
      refine g_il1n (pc := 17) C dX2_isOrUnder_17 ?_
      refine g_icmp_ne (pc := 18) (tgt := 23) C dX2_isOrUnder_18 (by decide) (fun c_18_3 => ?_) (fun c_18_3 => ?_)
      · refine g_getsA (pc := 23) (j := 0) C rfl sX2_19 dX2_isOrUnder_23 ?_
        refine g_il2n (pc := 26) C dX2_isOrUnder_26 ?_
        refine g_ialdAv (pc := 27) (v := (-1)) C rfl (by exact vp_in_nI (show 0 < 6 by decide) (by decide)) (by decide) dX2_isOrUnder_27 ?_
        refine g_is2n (pc := 28) C dX2_isOrUnder_28 ?_
        refine g_ii3 (pc := 29) (v := 3) C dX2_isOrUnder_29 (by decide) ?_
        refine g_goto (pc := 32) (tgt := 4) C dX2_isOrUnder_32 (by decide) ?_
        refine g_il3n (pc := 4) C dX2_isOrUnder_4 ?_
        refine g_iconst (pc := 5) (v := 5) C dX2_isOrUnder_5 (by decide) ?_
        refine g_icmp_gt (pc := 6) (tgt := 35) C dX2_isOrUnder_6 (by decide) (fun c => absurd c (by decide)) (fun _ => ?_)
        refine g_il2n (pc := 9) C dX2_isOrUnder_9 ?_
        refine s_SB (pc := 10) (st := []) C (c_X2_has (d := d - 1) (by omega) σ ((-1))) (by omega) lX2_15 dX2_isOrUnder_10 rfl (Nat.le_of_ble_eq_true rfl) rfl (fun b_10 => absurd b_10 (by decide)) (fun b_10 => ?_)
        refine g_if_eq (pc := 13) (tgt := 35) C dX2_isOrUnder_13 (by decide) (fun _ => ?_) (fun c => absurd c (by decide))
        refine g_iconst (pc := 35) (v := 0) C dX2_isOrUnder_35 (by decide) ?_
        exact r_B0 C hr dX2_isOrUnder_36 (by simp [undK, Ne.symm c_18, Ne.symm c_18_2, Ne.symm c_18_3]) rfl
      · refine g_iconst (pc := 21) (v := 1) C dX2_isOrUnder_21 (by decide) ?_
        exact r_B1 C hr dX2_isOrUnder_22 (by rw [← c_18_3]; decide) rfl
    · refine g_iconst (pc := 21) (v := 1) C dX2_isOrUnder_21 (by decide) ?_
      exact r_B1 C hr dX2_isOrUnder_22 (by rw [← c_18_2]; decide) rfl
  · refine g_iconst (pc := 21) (v := 1) C dX2_isOrUnder_21 (by decide) ?_
    exact r_B1 C hr dX2_isOrUnder_22 (by rw [← c_18]; decide) rfl

theorem c_isOrUnder4 {d : Nat} (hd : 3 ≤ d) (σ : Sg) (u : Int32) : CB d mX2_isOrUnder [.int 4, .int u] σ (undK 4 u = true) σ := by
  refine con_of (by decide) (catL rfl) (Nat.le_of_ble_eq_true rfl) ?_
  intro μ ω C hr
  have C : Cx μ ω "TowField$Kinds" cX2_isOrUnder 4 d := C
  have hr : (mH μ).sig.returnType = some .boolean := hr
  show G μ ω (RQ μ ω (pB (undK 4 u = true) σ)) 0 [some (.int 4), some (.int u), none, none] [] (mk σ) 0 0
  refine g_il0n (pc := 0) C dX2_isOrUnder_0 ?_
  refine g_is2n (pc := 1) C dX2_isOrUnder_1 ?_
  refine g_iconst (pc := 2) (v := 0) C dX2_isOrUnder_2 (by decide) ?_
  refine g_is3n (pc := 3) C dX2_isOrUnder_3 ?_
  refine g_il3n (pc := 4) C dX2_isOrUnder_4 ?_
  refine g_iconst (pc := 5) (v := 5) C dX2_isOrUnder_5 (by decide) ?_
  refine g_icmp_gt (pc := 6) (tgt := 35) C dX2_isOrUnder_6 (by decide) (fun c => absurd c (by decide)) (fun _ => ?_)
  refine g_il2n (pc := 9) C dX2_isOrUnder_9 ?_
  refine s_SB (pc := 10) (st := []) C (c_X2_has (d := d - 1) (by omega) σ 4) (by omega) lX2_15 dX2_isOrUnder_10 rfl (Nat.le_of_ble_eq_true rfl) rfl (fun b_10 => ?_) (fun b_10 => absurd (by decide) b_10)
  refine g_if_eq (pc := 13) (tgt := 35) C dX2_isOrUnder_13 (by decide) (fun c => absurd c (by decide)) (fun _ => ?_)
  refine g_il2n (pc := 16) C dX2_isOrUnder_16 ?_
  refine g_il1n (pc := 17) C dX2_isOrUnder_17 ?_
  refine g_icmp_ne (pc := 18) (tgt := 23) C dX2_isOrUnder_18 (by decide) (fun c_18 => ?_) (fun c_18 => ?_)
  · refine g_getsA (pc := 23) (j := 0) C rfl sX2_19 dX2_isOrUnder_23 ?_
    refine g_il2n (pc := 26) C dX2_isOrUnder_26 ?_
    refine g_ialdAv (pc := 27) (v := 2) C rfl (by exact vp_in_nI (show 4 < 6 by decide) (by decide)) (by decide) dX2_isOrUnder_27 ?_
    refine g_is2n (pc := 28) C dX2_isOrUnder_28 ?_
    refine g_ii3 (pc := 29) (v := 1) C dX2_isOrUnder_29 (by decide) ?_
    refine g_goto (pc := 32) (tgt := 4) C dX2_isOrUnder_32 (by decide) ?_
    refine g_il3n (pc := 4) C dX2_isOrUnder_4 ?_
    refine g_iconst (pc := 5) (v := 5) C dX2_isOrUnder_5 (by decide) ?_
    refine g_icmp_gt (pc := 6) (tgt := 35) C dX2_isOrUnder_6 (by decide) (fun c => absurd c (by decide)) (fun _ => ?_)
    refine g_il2n (pc := 9) C dX2_isOrUnder_9 ?_
    refine s_SB (pc := 10) (st := []) C (c_X2_has (d := d - 1) (by omega) σ 2) (by omega) lX2_15 dX2_isOrUnder_10 rfl (Nat.le_of_ble_eq_true rfl) rfl (fun b_10 => ?_) (fun b_10 => absurd (by decide) b_10)
    refine g_if_eq (pc := 13) (tgt := 35) C dX2_isOrUnder_13 (by decide) (fun c => absurd c (by decide)) (fun _ => ?_)
    refine g_il2n (pc := 16) C dX2_isOrUnder_16 ?_
    refine g_il1n (pc := 17) C dX2_isOrUnder_17 ?_
    refine g_icmp_ne (pc := 18) (tgt := 23) C dX2_isOrUnder_18 (by decide) (fun c_18_2 => ?_) (fun c_18_2 => ?_)
    · refine g_getsA (pc := 23) (j := 0) C rfl sX2_19 dX2_isOrUnder_23 ?_
      refine g_il2n (pc := 26) C dX2_isOrUnder_26 ?_
      refine g_ialdAv (pc := 27) (v := 0) C rfl (by exact vp_in_nI (show 2 < 6 by decide) (by decide)) (by decide) dX2_isOrUnder_27 ?_
      refine g_is2n (pc := 28) C dX2_isOrUnder_28 ?_
      refine g_ii3 (pc := 29) (v := 2) C dX2_isOrUnder_29 (by decide) ?_
      refine g_goto (pc := 32) (tgt := 4) C dX2_isOrUnder_32 (by decide) ?_
      refine g_il3n (pc := 4) C dX2_isOrUnder_4 ?_
      refine g_iconst (pc := 5) (v := 5) C dX2_isOrUnder_5 (by decide) ?_
      refine g_icmp_gt (pc := 6) (tgt := 35) C dX2_isOrUnder_6 (by decide) (fun c => absurd c (by decide)) (fun _ => ?_)
      refine g_il2n (pc := 9) C dX2_isOrUnder_9 ?_
      refine s_SB (pc := 10) (st := []) C (c_X2_has (d := d - 1) (by omega) σ 0) (by omega) lX2_15 dX2_isOrUnder_10 rfl (Nat.le_of_ble_eq_true rfl) rfl (fun b_10 => ?_) (fun b_10 => absurd (by decide) b_10)
      refine g_if_eq (pc := 13) (tgt := 35) C dX2_isOrUnder_13 (by decide) (fun c => absurd c (by decide)) (fun _ => ?_)
      refine g_il2n (pc := 16) C dX2_isOrUnder_16 ?_
      refine g_il1n (pc := 17) C dX2_isOrUnder_17 ?_
      refine g_icmp_ne (pc := 18) (tgt := 23) C dX2_isOrUnder_18 (by decide) (fun c_18_3 => ?_) (fun c_18_3 => ?_)
      · refine g_getsA (pc := 23) (j := 0) C rfl sX2_19 dX2_isOrUnder_23 ?_
        refine g_il2n (pc := 26) C dX2_isOrUnder_26 ?_
        refine g_ialdAv (pc := 27) (v := (-1)) C rfl (by exact vp_in_nI (show 0 < 6 by decide) (by decide)) (by decide) dX2_isOrUnder_27 ?_
        refine g_is2n (pc := 28) C dX2_isOrUnder_28 ?_
        refine g_ii3 (pc := 29) (v := 3) C dX2_isOrUnder_29 (by decide) ?_
        refine g_goto (pc := 32) (tgt := 4) C dX2_isOrUnder_32 (by decide) ?_
        refine g_il3n (pc := 4) C dX2_isOrUnder_4 ?_
        refine g_iconst (pc := 5) (v := 5) C dX2_isOrUnder_5 (by decide) ?_
        refine g_icmp_gt (pc := 6) (tgt := 35) C dX2_isOrUnder_6 (by decide) (fun c => absurd c (by decide)) (fun _ => ?_)
        refine g_il2n (pc := 9) C dX2_isOrUnder_9 ?_
        refine s_SB (pc := 10) (st := []) C (c_X2_has (d := d - 1) (by omega) σ ((-1))) (by omega) lX2_15 dX2_isOrUnder_10 rfl (Nat.le_of_ble_eq_true rfl) rfl (fun b_10 => absurd b_10 (by decide)) (fun b_10 => ?_)
        refine g_if_eq (pc := 13) (tgt := 35) C dX2_isOrUnder_13 (by decide) (fun _ => ?_) (fun c => absurd c (by decide))
        refine g_iconst (pc := 35) (v := 0) C dX2_isOrUnder_35 (by decide) ?_
        exact r_B0 C hr dX2_isOrUnder_36 (by simp [undK, Ne.symm c_18, Ne.symm c_18_2, Ne.symm c_18_3]) rfl
      · refine g_iconst (pc := 21) (v := 1) C dX2_isOrUnder_21 (by decide) ?_
        exact r_B1 C hr dX2_isOrUnder_22 (by rw [← c_18_3]; decide) rfl
    · refine g_iconst (pc := 21) (v := 1) C dX2_isOrUnder_21 (by decide) ?_
      exact r_B1 C hr dX2_isOrUnder_22 (by rw [← c_18_2]; decide) rfl
  · refine g_iconst (pc := 21) (v := 1) C dX2_isOrUnder_21 (by decide) ?_
    exact r_B1 C hr dX2_isOrUnder_22 (by rw [← c_18]; decide) rfl

theorem c_isOrUnder5 {d : Nat} (hd : 3 ≤ d) (σ : Sg) (u : Int32) : CB d mX2_isOrUnder [.int 5, .int u] σ (undK 5 u = true) σ := by
  refine con_of (by decide) (catL rfl) (Nat.le_of_ble_eq_true rfl) ?_
  intro μ ω C hr
  have C : Cx μ ω "TowField$Kinds" cX2_isOrUnder 4 d := C
  have hr : (mH μ).sig.returnType = some .boolean := hr
  show G μ ω (RQ μ ω (pB (undK 5 u = true) σ)) 0 [some (.int 5), some (.int u), none, none] [] (mk σ) 0 0
  refine g_il0n (pc := 0) C dX2_isOrUnder_0 ?_
  refine g_is2n (pc := 1) C dX2_isOrUnder_1 ?_
  refine g_iconst (pc := 2) (v := 0) C dX2_isOrUnder_2 (by decide) ?_
  refine g_is3n (pc := 3) C dX2_isOrUnder_3 ?_
  refine g_il3n (pc := 4) C dX2_isOrUnder_4 ?_
  refine g_iconst (pc := 5) (v := 5) C dX2_isOrUnder_5 (by decide) ?_
  refine g_icmp_gt (pc := 6) (tgt := 35) C dX2_isOrUnder_6 (by decide) (fun c => absurd c (by decide)) (fun _ => ?_)
  refine g_il2n (pc := 9) C dX2_isOrUnder_9 ?_
  refine s_SB (pc := 10) (st := []) C (c_X2_has (d := d - 1) (by omega) σ 5) (by omega) lX2_15 dX2_isOrUnder_10 rfl (Nat.le_of_ble_eq_true rfl) rfl (fun b_10 => ?_) (fun b_10 => absurd (by decide) b_10)
  refine g_if_eq (pc := 13) (tgt := 35) C dX2_isOrUnder_13 (by decide) (fun c => absurd c (by decide)) (fun _ => ?_)
  refine g_il2n (pc := 16) C dX2_isOrUnder_16 ?_
  refine g_il1n (pc := 17) C dX2_isOrUnder_17 ?_
  refine g_icmp_ne (pc := 18) (tgt := 23) C dX2_isOrUnder_18 (by decide) (fun c_18 => ?_) (fun c_18 => ?_)
  · refine g_getsA (pc := 23) (j := 0) C rfl sX2_19 dX2_isOrUnder_23 ?_
    refine g_il2n (pc := 26) C dX2_isOrUnder_26 ?_
    refine g_ialdAv (pc := 27) (v := 2) C rfl (by exact vp_in_nI (show 5 < 6 by decide) (by decide)) (by decide) dX2_isOrUnder_27 ?_
    refine g_is2n (pc := 28) C dX2_isOrUnder_28 ?_
    refine g_ii3 (pc := 29) (v := 1) C dX2_isOrUnder_29 (by decide) ?_
    refine g_goto (pc := 32) (tgt := 4) C dX2_isOrUnder_32 (by decide) ?_
    refine g_il3n (pc := 4) C dX2_isOrUnder_4 ?_
    refine g_iconst (pc := 5) (v := 5) C dX2_isOrUnder_5 (by decide) ?_
    refine g_icmp_gt (pc := 6) (tgt := 35) C dX2_isOrUnder_6 (by decide) (fun c => absurd c (by decide)) (fun _ => ?_)
    refine g_il2n (pc := 9) C dX2_isOrUnder_9 ?_
    refine s_SB (pc := 10) (st := []) C (c_X2_has (d := d - 1) (by omega) σ 2) (by omega) lX2_15 dX2_isOrUnder_10 rfl (Nat.le_of_ble_eq_true rfl) rfl (fun b_10 => ?_) (fun b_10 => absurd (by decide) b_10)
    refine g_if_eq (pc := 13) (tgt := 35) C dX2_isOrUnder_13 (by decide) (fun c => absurd c (by decide)) (fun _ => ?_)
    refine g_il2n (pc := 16) C dX2_isOrUnder_16 ?_
    refine g_il1n (pc := 17) C dX2_isOrUnder_17 ?_
    refine g_icmp_ne (pc := 18) (tgt := 23) C dX2_isOrUnder_18 (by decide) (fun c_18_2 => ?_) (fun c_18_2 => ?_)
    · refine g_getsA (pc := 23) (j := 0) C rfl sX2_19 dX2_isOrUnder_23 ?_
      refine g_il2n (pc := 26) C dX2_isOrUnder_26 ?_
      refine g_ialdAv (pc := 27) (v := 0) C rfl (by exact vp_in_nI (show 2 < 6 by decide) (by decide)) (by decide) dX2_isOrUnder_27 ?_
      refine g_is2n (pc := 28) C dX2_isOrUnder_28 ?_
      refine g_ii3 (pc := 29) (v := 2) C dX2_isOrUnder_29 (by decide) ?_
      refine g_goto (pc := 32) (tgt := 4) C dX2_isOrUnder_32 (by decide) ?_
      refine g_il3n (pc := 4) C dX2_isOrUnder_4 ?_
      refine g_iconst (pc := 5) (v := 5) C dX2_isOrUnder_5 (by decide) ?_
      refine g_icmp_gt (pc := 6) (tgt := 35) C dX2_isOrUnder_6 (by decide) (fun c => absurd c (by decide)) (fun _ => ?_)
      refine g_il2n (pc := 9) C dX2_isOrUnder_9 ?_
      refine s_SB (pc := 10) (st := []) C (c_X2_has (d := d - 1) (by omega) σ 0) (by omega) lX2_15 dX2_isOrUnder_10 rfl (Nat.le_of_ble_eq_true rfl) rfl (fun b_10 => ?_) (fun b_10 => absurd (by decide) b_10)
      refine g_if_eq (pc := 13) (tgt := 35) C dX2_isOrUnder_13 (by decide) (fun c => absurd c (by decide)) (fun _ => ?_)
      refine g_il2n (pc := 16) C dX2_isOrUnder_16 ?_
      refine g_il1n (pc := 17) C dX2_isOrUnder_17 ?_
      refine g_icmp_ne (pc := 18) (tgt := 23) C dX2_isOrUnder_18 (by decide) (fun c_18_3 => ?_) (fun c_18_3 => ?_)
      · refine g_getsA (pc := 23) (j := 0) C rfl sX2_19 dX2_isOrUnder_23 ?_
        refine g_il2n (pc := 26) C dX2_isOrUnder_26 ?_
        refine g_ialdAv (pc := 27) (v := (-1)) C rfl (by exact vp_in_nI (show 0 < 6 by decide) (by decide)) (by decide) dX2_isOrUnder_27 ?_
        refine g_is2n (pc := 28) C dX2_isOrUnder_28 ?_
        refine g_ii3 (pc := 29) (v := 3) C dX2_isOrUnder_29 (by decide) ?_
        refine g_goto (pc := 32) (tgt := 4) C dX2_isOrUnder_32 (by decide) ?_
        refine g_il3n (pc := 4) C dX2_isOrUnder_4 ?_
        refine g_iconst (pc := 5) (v := 5) C dX2_isOrUnder_5 (by decide) ?_
        refine g_icmp_gt (pc := 6) (tgt := 35) C dX2_isOrUnder_6 (by decide) (fun c => absurd c (by decide)) (fun _ => ?_)
        refine g_il2n (pc := 9) C dX2_isOrUnder_9 ?_
        refine s_SB (pc := 10) (st := []) C (c_X2_has (d := d - 1) (by omega) σ ((-1))) (by omega) lX2_15 dX2_isOrUnder_10 rfl (Nat.le_of_ble_eq_true rfl) rfl (fun b_10 => absurd b_10 (by decide)) (fun b_10 => ?_)
        refine g_if_eq (pc := 13) (tgt := 35) C dX2_isOrUnder_13 (by decide) (fun _ => ?_) (fun c => absurd c (by decide))
        refine g_iconst (pc := 35) (v := 0) C dX2_isOrUnder_35 (by decide) ?_
        exact r_B0 C hr dX2_isOrUnder_36 (by simp [undK, Ne.symm c_18, Ne.symm c_18_2, Ne.symm c_18_3]) rfl
      · refine g_iconst (pc := 21) (v := 1) C dX2_isOrUnder_21 (by decide) ?_
        exact r_B1 C hr dX2_isOrUnder_22 (by rw [← c_18_3]; decide) rfl
    · refine g_iconst (pc := 21) (v := 1) C dX2_isOrUnder_21 (by decide) ?_
      exact r_B1 C hr dX2_isOrUnder_22 (by rw [← c_18_2]; decide) rfl
  · refine g_iconst (pc := 21) (v := 1) C dX2_isOrUnder_21 (by decide) ?_
    exact r_B1 C hr dX2_isOrUnder_22 (by rw [← c_18]; decide) rfl

theorem c_isOrUnder {d : Nat} (hd : 3 ≤ d) (σ : Sg) {k : Nat} (hk : k ≤ 5) (u : Int32) : CB d mX2_isOrUnder [.int (nI k), .int u] σ (undK (nI k) u = true) σ := by
  rcases (show k = 0 ∨ k = 1 ∨ k = 2 ∨ k = 3 ∨ k = 4 ∨ k = 5 by omega) with e | e | e | e | e | e
  · rw [e]; exact c_isOrUnder0 hd σ u
  · rw [e]; exact c_isOrUnder1 hd σ u
  · rw [e]; exact c_isOrUnder2 hd σ u
  · rw [e]; exact c_isOrUnder3 hd σ u
  · rw [e]; exact c_isOrUnder4 hd σ u
  · rw [e]; exact c_isOrUnder5 hd σ u

theorem c_mostWind {d : Nat} (hd : 1 ≤ d) (σ : Sg) (k : Int32) : CI d mX2_mostWind [.int k] σ (boundK k) σ := by
  refine con_of (by decide) (catL rfl) (Nat.le_of_ble_eq_true rfl) ?_
  intro μ ω C hr
  have C : Cx μ ω "TowField$Kinds" cX2_mostWind 1 d := C
  have hr : (mH μ).sig.returnType = some .int := hr
  show G μ ω (RQ μ ω (pI (boundK k) σ)) 0 [some (.int k)] [] (mk σ) 0 0
  refine g_il0n (pc := 0) C dX2_mostWind_0 ?_
  rcases sw_1_5 k with w_1 | w_1 | w_1 | w_1 | w_1 | w_1
  · refine g_tabE (pc := 1) (tgt := 36) (off := 35) (v := 1) C dX2_mostWind_1 w_1 (by decide) (by decide) (by decide) (by decide) ?_
    refine g_bipush (pc := 36) (v := 20) C dX2_mostWind_36 (by decide) ?_
    subst w_1
    exact r_I C hr dX2_mostWind_38 rfl rfl
  · refine g_tabE (pc := 1) (tgt := 39) (off := 38) (v := 2) C dX2_mostWind_1 w_1 (by decide) (by decide) (by decide) (by decide) ?_
    refine g_bipush (pc := 39) (v := 25) C dX2_mostWind_39 (by decide) ?_
    subst w_1
    exact r_I C hr dX2_mostWind_41 rfl rfl
  · refine g_tabE (pc := 1) (tgt := 42) (off := 41) (v := 3) C dX2_mostWind_1 w_1 (by decide) (by decide) (by decide) (by decide) ?_
    refine g_bipush (pc := 42) (v := 10) C dX2_mostWind_42 (by decide) ?_
    subst w_1
    exact r_I C hr dX2_mostWind_44 rfl rfl
  · refine g_tabE (pc := 1) (tgt := 45) (off := 44) (v := 4) C dX2_mostWind_1 w_1 (by decide) (by decide) (by decide) (by decide) ?_
    refine g_bipush (pc := 45) (v := 15) C dX2_mostWind_45 (by decide) ?_
    subst w_1
    exact r_I C hr dX2_mostWind_47 rfl rfl
  · refine g_tabE (pc := 1) (tgt := 48) (off := 47) (v := 5) C dX2_mostWind_1 w_1 (by decide) (by decide) (by decide) (by decide) ?_
    refine g_bipush (pc := 48) (v := 28) C dX2_mostWind_48 (by decide) ?_
    subst w_1
    exact r_I C hr dX2_mostWind_50 rfl rfl
  · refine g_tabOut (pc := 1) (tgt := 51) C dX2_mostWind_1 w_1 (by decide) ?_
    refine g_bipush (pc := 51) (v := 25) C dX2_mostWind_51 (by decide) ?_
    have hne : ∀ z : Int32, (1 ≤ z.toInt ∧ z.toInt ≤ 5) → ¬ k = z := fun z hz q => by subst q; omega
    exact r_I C hr dX2_mostWind_53 (by simp only [boundK, hne 1 (by decide), hne 2 (by decide), hne 3 (by decide), hne 4 (by decide), hne 5 (by decide), if_false]) rfl

theorem c_minutesOnLane {d : Nat} (hd : 2 ≤ d) (σ : Sg) (k h : Int32) : CI d mX2_minutesOnLane [.int k, .int h] σ (spanK k h) σ := by
  refine con_of (by decide) (catL rfl) (Nat.le_of_ble_eq_true rfl) ?_
  intro μ ω C hr
  have C : Cx μ ω "TowField$Kinds" cX2_minutesOnLane 3 d := C
  have hr : (mH μ).sig.returnType = some .int := hr
  show G μ ω (RQ μ ω (pI (spanK k h) σ)) 0 [some (.int k), some (.int h), none] [] (mk σ) 0 0
  refine g_iconst (pc := 0) (v := 1) C dX2_minutesOnLane_0 (by decide) ?_
  refine g_il1n (pc := 1) C dX2_minutesOnLane_1 ?_
  refine g_iconst (pc := 2) (v := 5) C dX2_minutesOnLane_2 (by decide) ?_
  refine g_idiv (pc := 3) C dX2_minutesOnLane_3 (by decide) ?_
  refine g_iadd (pc := 4) C dX2_minutesOnLane_4 ?_
  refine g_is2n (pc := 5) C dX2_minutesOnLane_5 ?_
  refine g_il0n (pc := 6) C dX2_minutesOnLane_6 ?_
  rcases sw_1_5 k with w_7 | w_7 | w_7 | w_7 | w_7 | w_7
  · refine g_tabE (pc := 7) (tgt := 40) (off := 33) (v := 1) C dX2_minutesOnLane_7 w_7 (by decide) (by decide) (by decide) (by decide) ?_
    refine g_iconst (pc := 40) (v := 2) C dX2_minutesOnLane_40 (by decide) ?_
    subst w_7
    exact r_I C hr dX2_minutesOnLane_41 rfl rfl
  · refine g_tabE (pc := 7) (tgt := 42) (off := 35) (v := 2) C dX2_minutesOnLane_7 w_7 (by decide) (by decide) (by decide) (by decide) ?_
    refine g_il2n (pc := 42) C dX2_minutesOnLane_42 ?_
    subst w_7
    exact r_I C hr dX2_minutesOnLane_43 rfl rfl
  · refine g_tabE (pc := 7) (tgt := 44) (off := 37) (v := 3) C dX2_minutesOnLane_7 w_7 (by decide) (by decide) (by decide) (by decide) ?_
    refine g_iconst (pc := 44) (v := 4) C dX2_minutesOnLane_44 (by decide) ?_
    subst w_7
    exact r_I C hr dX2_minutesOnLane_45 rfl rfl
  · refine g_tabE (pc := 7) (tgt := 46) (off := 39) (v := 4) C dX2_minutesOnLane_7 w_7 (by decide) (by decide) (by decide) (by decide) ?_
    refine g_iconst (pc := 46) (v := 1) C dX2_minutesOnLane_46 (by decide) ?_
    refine g_il2n (pc := 47) C dX2_minutesOnLane_47 ?_
    refine g_iconst (pc := 48) (v := 1) C dX2_minutesOnLane_48 (by decide) ?_
    refine g_isub (pc := 49) C dX2_minutesOnLane_49 ?_
    refine s_SI (pc := 50) (st := []) C (c_max (d := d - 1) (by omega) σ 1 ((1 + (h / 5)) - 1)) (by omega) lX2_23 dX2_minutesOnLane_50 rfl (Nat.le_of_ble_eq_true rfl) rfl ?_
    subst w_7
    exact r_I C hr dX2_minutesOnLane_53 rfl rfl
  · refine g_tabE (pc := 7) (tgt := 54) (off := 47) (v := 5) C dX2_minutesOnLane_7 w_7 (by decide) (by decide) (by decide) (by decide) ?_
    refine g_il2n (pc := 54) C dX2_minutesOnLane_54 ?_
    refine g_iconst (pc := 55) (v := 4) C dX2_minutesOnLane_55 (by decide) ?_
    refine g_iadd (pc := 56) C dX2_minutesOnLane_56 ?_
    subst w_7
    exact r_I C hr dX2_minutesOnLane_57 rfl rfl
  · refine g_tabOut (pc := 7) (tgt := 58) C dX2_minutesOnLane_7 w_7 (by decide) ?_
    refine g_iconst (pc := 58) (v := 1) C dX2_minutesOnLane_58 (by decide) ?_
    have hne : ∀ z : Int32, (1 ≤ z.toInt ∧ z.toInt ≤ 5) → ¬ k = z := fun z hz q => by subst q; omega
    exact r_I C hr dX2_minutesOnLane_59 (by simp only [spanK, hne 1 (by decide), hne 2 (by decide), hne 3 (by decide), hne 4 (by decide), hne 5 (by decide), if_false]) rfl

theorem c_isBits {d : Nat} (hd : 1 ≤ d) (σ : Sg) (b : Int32) : CB d mX6_isBits [.int b] σ (b = 0 ∨ b = 8 ∨ b = 16 ∨ b = 32) σ := by
  refine con_of (by decide) (catL rfl) (Nat.le_of_ble_eq_true rfl) ?_
  intro μ ω C hr
  have C : Cx μ ω "TowField$Sheets" cX6_isBits 1 d := C
  have hr : (mH μ).sig.returnType = some .boolean := hr
  show G μ ω (RQ μ ω (pB (b = 0 ∨ b = 8 ∨ b = 16 ∨ b = 32) σ)) 0 [some (.int b)] [] (mk σ) 0 0
  refine g_il0n (pc := 0) C dX6_isBits_0 ?_
  refine g_if_eq (pc := 1) (tgt := 22) C dX6_isBits_1 (by decide) (fun c_1 => ?_) (fun c_1 => ?_)
  · refine g_iconst (pc := 22) (v := 1) C dX6_isBits_22 (by decide) ?_
    refine g_goto (pc := 23) (tgt := 27) C dX6_isBits_23 (by decide) ?_
    exact r_B1 C hr dX6_isBits_27 (by simp [c_1]) rfl
  · refine g_il0n (pc := 4) C dX6_isBits_4 ?_
    refine g_bipush (pc := 5) (v := 8) C dX6_isBits_5 (by decide) ?_
    refine g_icmp_eq (pc := 7) (tgt := 22) C dX6_isBits_7 (by decide) (fun c_7 => ?_) (fun c_7 => ?_)
    · refine g_iconst (pc := 22) (v := 1) C dX6_isBits_22 (by decide) ?_
      refine g_goto (pc := 23) (tgt := 27) C dX6_isBits_23 (by decide) ?_
      exact r_B1 C hr dX6_isBits_27 (by simp [c_1, c_7]) rfl
    · refine g_il0n (pc := 10) C dX6_isBits_10 ?_
      refine g_bipush (pc := 11) (v := 16) C dX6_isBits_11 (by decide) ?_
      refine g_icmp_eq (pc := 13) (tgt := 22) C dX6_isBits_13 (by decide) (fun c_13 => ?_) (fun c_13 => ?_)
      · refine g_iconst (pc := 22) (v := 1) C dX6_isBits_22 (by decide) ?_
        refine g_goto (pc := 23) (tgt := 27) C dX6_isBits_23 (by decide) ?_
        exact r_B1 C hr dX6_isBits_27 (by simp [c_1, c_7, c_13]) rfl
      · refine g_il0n (pc := 16) C dX6_isBits_16 ?_
        refine g_bipush (pc := 17) (v := 32) C dX6_isBits_17 (by decide) ?_
        refine g_icmp_ne (pc := 19) (tgt := 26) C dX6_isBits_19 (by decide) (fun c_19 => ?_) (fun c_19 => ?_)
        · refine g_iconst (pc := 26) (v := 0) C dX6_isBits_26 (by decide) ?_
          exact r_B0 C hr dX6_isBits_27 (by simp [c_1, c_7, c_13, c_19]) rfl
        · refine g_iconst (pc := 22) (v := 1) C dX6_isBits_22 (by decide) ?_
          refine g_goto (pc := 23) (tgt := 27) C dX6_isBits_23 (by decide) ?_
          exact r_B1 C hr dX6_isBits_27 (by simp [c_1, c_7, c_13, c_19]) rfl

theorem c_lowest {d : Nat} (hd : 1 ≤ d) (σ : Sg) (b v : Int32) : CI d mX6_lowest [.int b, .int v] σ (cutK v b) σ := by
  refine con_of (by decide) (catL rfl) (Nat.le_of_ble_eq_true rfl) ?_
  intro μ ω C hr
  have C : Cx μ ω "TowField$Sheets" cX6_lowest 2 d := C
  have hr : (mH μ).sig.returnType = some .int := hr
  show G μ ω (RQ μ ω (pI (cutK v b) σ)) 0 [some (.int b), some (.int v)] [] (mk σ) 0 0
  refine g_il0n (pc := 0) C dX6_lowest_0 ?_
  refine g_bipush (pc := 1) (v := 8) C dX6_lowest_1 (by decide) ?_
  refine g_icmp_ne (pc := 3) (tgt := 9) C dX6_lowest_3 (by decide) (fun c_3 => ?_) (fun c_3 => ?_)
  · refine g_il0n (pc := 9) C dX6_lowest_9 ?_
    refine g_bipush (pc := 10) (v := 16) C dX6_lowest_10 (by decide) ?_
    refine g_icmp_ne (pc := 12) (tgt := 20) C dX6_lowest_12 (by decide) (fun c_12 => ?_) (fun c_12 => ?_)
    · refine g_il1n (pc := 20) C dX6_lowest_20 ?_
      exact r_I C hr dX6_lowest_21 (by simp [cutK, c_3, c_12]) rfl
    · refine g_il1n (pc := 15) C dX6_lowest_15 ?_
      refine g_i2s (pc := 16) C dX6_lowest_16 ?_
      refine g_goto (pc := 17) (tgt := 21) C dX6_lowest_17 (by decide) ?_
      exact r_I C hr dX6_lowest_21 (by simp [cutK, c_3, c_12]) rfl
  · refine g_il1n (pc := 6) C dX6_lowest_6 ?_
    refine g_i2b (pc := 7) C dX6_lowest_7 ?_
    exact r_I C hr dX6_lowest_8 (by simp [cutK, c_3]) rfl

