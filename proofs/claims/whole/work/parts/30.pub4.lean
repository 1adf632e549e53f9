/-! ===== the model: tape, shares, sheets, counts ===== -/
def fdT (t : Nu) (s : Nat) (b : Int32) : Nat → Nu
  | 0 => t
  | k + 1 => fdT (upd t s ((b >>> ((8 * nI k) &&& 31)) &&& 255)) (s + 1) b k
def sp_feed (α : Al) (b n : Int32) : Int32 × Al := if ¬ (1 ≤ n ∧ n ≤ 4) then FB α else if 100 < aS α + n then FF α else
  (aS α + n, α.1, α.2.1, α.2.2.1, α.2.2.2.1, fdT (aT α) (aS α).toNatClampNeg b n.toNatClampNeg, aS α + n, α.2.2.2.2.2.2)
def bitf (o : Int32) (p : Nat) : Int32 := (o >>> (nI p &&& 31)) &&& 1
def shr (ν : Nu) (o s m : Int32) : Nat → Nu × Int32
  | 0 => (ν, jrem s m)
  | p + 1 => let q := shr ν o s m p; if hb o (nI p) = true then (upd q.1 (90 + 4 * p + 3) (q.1 (90 + 4 * p + 3) + (s / m + (if 0 < q.2 then 1 else 0))), q.2 - 1) else q
def sp_share (α : Al) (g s : Int32) : Int32 × Al := if ¬ ((0 ≤ g ∧ g ≤ aN α 3 - 1) ∧ (0 ≤ s ∧ s ≤ 9999)) then FB α else
  let o := aN α (50 + 4 * g.toNatClampNeg + 3)
  let m := sumL (bitf o) 14
  if m = 0 then FN α else (m, sN α (shr (aN α) o s m 14).1)
def cutK (v b : Int32) : Int32 := if b = 8 then v.toInt8.toInt32 else if b = 16 then v.toInt16.toInt32 else v
def sW (α : Al) (w z u : Nu) : Al := (α.1, α.2.1, α.2.2.1, α.2.2.2.1, α.2.2.2.2.1, α.2.2.2.2.2.1, w, z, u)
/-- the numbers of a sheet put to nothing -/
def zrU (u : Nu) (s n : Nat) : Nu := fun j => if 24 * s ≤ j ∧ j < 24 * s + n then 0 else u j
def sp_sheet (α : Al) (s b n : Int32) : Int32 × Al := if ¬ ((0 ≤ s ∧ s ≤ 3) ∧ (b = 0 ∨ b = 8 ∨ b = 16 ∨ b = 32)) then FB α else if n < 0 then FZ α else if 24 < n then FB α else
  (if b = 0 then 0 else n, sW α (upd (aW α) s.toNatClampNeg b) (upd (aZ α) s.toNatClampNeg (if b = 0 then 0 else n)) (zrU (aU α) s.toNatClampNeg 24))
def sp_write (α : Al) (s i v : Int32) : Int32 × Al := if ¬ (0 ≤ s ∧ s ≤ 3) then FB α else if aW α s.toNatClampNeg = 0 then FM α else if ¬ (0 ≤ i ∧ i ≤ aZ α s.toNatClampNeg - 1) then FB α else
  (1, sW α (aW α) (aZ α) (upd (aU α) (24 * s.toNatClampNeg + i.toNatClampNeg) (cutK v (aW α s.toNatClampNeg))))
def cpU (u : Nu) (p q n : Nat) : Nu := fun j => if q ≤ j ∧ j < q + n then u (p + (j - q)) else u j
def sp_copy (α : Al) (s f t o n : Int32) : Int32 × Al := if ¬ ((0 ≤ s ∧ s ≤ 3) ∧ (0 ≤ t ∧ t ≤ 3)) then FB α else if aW α s.toNatClampNeg = 0 ∨ aW α t.toNatClampNeg = 0 then FM α else if ¬ aW α s.toNatClampNeg = aW α t.toNatClampNeg then FK α else
  if ¬ (0 ≤ f.toInt ∧ 0 ≤ o.toInt ∧ 0 ≤ n.toInt ∧ f.toInt + n.toInt ≤ (aZ α s.toNatClampNeg).toInt ∧ o.toInt + n.toInt ≤ (aZ α t.toNatClampNeg).toInt) then FB α else
  (n, sW α (aW α) (aZ α) (cpU (aU α) (24 * s.toNatClampNeg + f.toNatClampNeg) (24 * t.toNatClampNeg + o.toNatClampNeg) n.toNatClampNeg))
def billsS (ν : Nu) : Int32 := sumL (fun p => aP ν p 3) (cnt ν 4)
def busyS (ν : Nu) : Int32 := sumL (fun k => if ν 0 < ν (20 + k) then 1 else 0) 6
def sp_count (α : Al) (w : Int32) : Int32 × Al :=
  if w = 0 then (aN α 3, α) else if w = 1 then (aN α 4, α) else if w = 2 then (aN α 5, α) else if w = 3 then (aN α 6, α) else if w = 4 then (aN α 7, α)
  else if w = 5 ∨ w = 6 ∨ w = 7 ∨ w = 8 then (sumL (bitf (setS (aN α) (w - 5))) 20, α) else if w = 9 then (aN α 8, α) else if w = 10 then (aN α 0, α) else if w = 11 then (aS α, α)
  else if w = 12 then (billsS (aN α), α) else if w = 13 then (busyS (aN α), α) else FB α
def fndT (f : Nu) (w : Int32) (k : Nat) : Int32 := if w < 0 ∨ w = nI k then f k else 0
def sp_status (α : Al) (w : Int32) : Int32 × Al := if ¬ (-1 ≤ w ∧ w ≤ 6) then FB α else (sumL (fndT (aF α) w) 7, α)
theorem c_X12_cutK {d : Nat} (hd : 1 ≤ d) (σ : Sg) (v b : Int32) : CI d mX12_cut [.int v, .int b] σ (cutK v b) σ := c_X12_cut hd σ v b
theorem lp_X12_bits {μ : Mx} {ω : Om} {d : Nat} (hd : 1 ≤ d) (C : Cx μ ω "TowFieldModel" cX12_bits 3 d) (hr : (mH μ).sig.returnType = some .int) (σ : Sg) (s : Int32) : ∀ (f i : Nat) (v : Int32), i + f = 20 → (v = sumL (bitf s) i) → G μ ω (RQ μ ω (pI (sumL (bitf s) 20) σ)) 4 [some (.int s), some (.int v), some (.int (nI i))] [] (mk σ) 0 0 := by
  intro f
  induction f with
  | zero =>
    intro i v hif hv
    have hin : i = 20 := by omega
    refine g_il2n (pc := 4) C dX12_bits_4 ?_
    refine g_bipush (pc := 5) (v := 20) C dX12_bits_5 (by decide) ?_
    refine g_icmp_geL (pc := 7) (tgt := 24) C dX12_bits_7 (by decide) (fun c_7 => ?_) (fun c_7 => absurd c_7 (by rw [hin]; decide))
    refine g_il1n (pc := 24) C dX12_bits_24 ?_
    exact r_I C hr dX12_bits_25 (by rw [hv, hin]) rfl
  | succ f ih =>
    intro i v hif hv
    refine g_il2n (pc := 4) C dX12_bits_4 ?_
    refine g_bipush (pc := 5) (v := 20) C dX12_bits_5 (by decide) ?_
    refine g_icmp_geL (pc := 7) (tgt := 24) C dX12_bits_7 (by decide) (fun c_7 => absurd (show nI i < nI 20 from nI_lt (by omega) (by decide)) c_7) (fun c_7 => ?_)
    refine g_il1n (pc := 10) C dX12_bits_10 ?_
    refine g_il0n (pc := 11) C dX12_bits_11 ?_
    refine g_il2n (pc := 12) C dX12_bits_12 ?_
    refine g_ishr (pc := 13) C dX12_bits_13 ?_
    refine g_iconst (pc := 14) (v := 1) C dX12_bits_14 (by decide) ?_
    refine g_iand (pc := 15) C dX12_bits_15 ?_
    refine g_iadd (pc := 16) C dX12_bits_16 ?_
    refine g_is1n (pc := 17) C dX12_bits_17 ?_
    refine g_ii2 (pc := 18) (v := nI (i + 1)) C dX12_bits_18 (nI_inc1 _) ?_
    refine g_goto (pc := 21) (tgt := 4) C dX12_bits_21 (by decide) ?_
    exact ih (i + 1) _ (by omega) (by rw [hv]; rfl)

theorem c_X12_bits {d : Nat} (hd : 1 ≤ d) (σ : Sg) (s : Int32) : CI d mX12_bits [.int s] σ (sumL (bitf s) 20) σ := by
  refine con_of (by decide) (catL rfl) (Nat.le_of_ble_eq_true rfl) ?_
  intro μ ω C hr
  have C : Cx μ ω "TowFieldModel" cX12_bits 3 d := C
  have hr : (mH μ).sig.returnType = some .int := hr
  show G μ ω (RQ μ ω (pI (sumL (bitf s) 20) σ)) 0 [some (.int s), none, none] [] (mk σ) 0 0
  refine g_iconst (pc := 0) (v := 0) C dX12_bits_0 (by decide) ?_
  refine g_is1n (pc := 1) C dX12_bits_1 ?_
  refine g_iconst (pc := 2) (v := 0) C dX12_bits_2 (by decide) ?_
  refine g_is2n (pc := 3) C dX12_bits_3 ?_
  exact lp_X12_bits hd C hr σ s 20 0 _ (by omega) rfl

theorem lp_X12_feed {μ : Mx} {ω : Om} {d : Nat} (hd : 1 ≤ d) (C : Cx μ ω "TowFieldModel" cX12_feed 4 d) (hr : (mH μ).sig.returnType = some .int) (σ : Sg) (b n : Int32) {N e : Nat} {T : Nu} (he : e ≤ 100) (Φ : Int32 → Sg → Prop) (hΦ : ∀ τ', τ' 140 = T → τ' 135 6 = nI e → (∀ j, j ≠ 6 → τ' 135 j = σ 135 j) → Eqx [135, 140] σ τ' → Φ (nI e) τ') : ∀ (f i : Nat) (v : Int32) (t : Nat) (τ : Sg), i + f = N → (v = nI f - 1) → (τ 135 6 = nI t) → (t + f = e) → (fdT (τ 140) t b f = T) → (∀ j, j ≠ 6 → τ 135 j = σ 135 j) → (Eqx [135, 140] σ τ) → G μ ω (RQ μ ω (pP Φ)) 38 [some (.ref 135), some (.int b), some (.int n), some (.int v)] [] (mk τ) 0 0 := by
  intro f
  induction f with
  | zero =>
    intro i v t τ hif hv hv1 hv2 hv3 hv4 hv5
    have hin : i = N := by omega
    have hvv : v = -1 := hv.trans (by decide)
    subst hvv
    · refine g_il3n (pc := 38) C dX12_feed_38 ?_
      refine g_if_lt (pc := 39) (tgt := 77) C dX12_feed_39 (by decide) (fun _ => ?_) (fun c => absurd c (by decide))
      refine g_al0n (pc := 77) C dX12_feed_77 ?_
      refine s_getI (pc := 78) C fX12_223 h135 rfl dX12_feed_78 ?_
      obtain rfl : t = e := by omega
      rw [hv1]
      exact r_P C hr dX12_feed_81 (hΦ τ hv3 hv1 hv4 hv5)
  | succ f ih =>
    intro i v t τ hif hv hv1 hv2 hv3 hv4 hv5
    have hvv : v = nI f := hv.trans (nI_pred f)
    subst hvv
    · refine g_il3n (pc := 38) C dX12_feed_38 ?_
      refine g_if_lt (pc := 39) (tgt := 77) C dX12_feed_39 (by decide) (fun c_39 => absurd c_39 (nI_pos (by omega))) (fun c_39 => ?_)
      refine g_al0n (pc := 42) C dX12_feed_42 ?_
      refine s_getR (pc := 43) C fX12_22 h135 rfl dX12_feed_43 ?_
      refine g_al0n (pc := 46) C dX12_feed_46 ?_
      refine s_getI (pc := 47) C fX12_223 h135 rfl dX12_feed_47 ?_
      refine g_il1n (pc := 50) C dX12_feed_50 ?_
      refine g_bipush (pc := 51) (v := 8) C dX12_feed_51 (by decide) ?_
      refine g_il3n (pc := 53) C dX12_feed_53 ?_
      refine g_imul (pc := 54) C dX12_feed_54 ?_
      refine g_ishr (pc := 55) C dX12_feed_55 ?_
      refine g_sipush (pc := 56) (v := 255) C dX12_feed_56 (by decide) ?_
      refine g_iand (pc := 59) C dX12_feed_59 ?_
      refine s_iast (pc := 60) (q := t) C h140 hv1 (by omega) (Nat.le_of_ble_eq_true rfl) dX12_feed_60 ?_
      refine g_al0n (pc := 61) C dX12_feed_61 ?_
      refine g_dup (pc := 62) C dX12_feed_62 rfl ?_
      refine s_getI (pc := 63) C fX12_223 h135 rfl dX12_feed_63 ?_
      refine g_iconst (pc := 66) (v := 1) C dX12_feed_66 (by decide) ?_
      refine g_iadd (pc := 67) C dX12_feed_67 ?_
      refine s_putI (pc := 68) C pX12_223 h135 rfl dX12_feed_68 ?_
      refine g_ii3 (pc := 71) (v := (nI f) + (-1)) C dX12_feed_71 rfl ?_
      refine g_goto (pc := 74) (tgt := 38) C dX12_feed_74 (by decide) ?_
      exact ih (i + 1) (nI f + (-1)) (t + 1) _ (by omega) (by rw [Int32.sub_eq_add_neg]) (by show τ 135 6 + 1 = _; rw [hv1]; exact nI_1 t) (by omega) hv3 (fun j hj => by rw [up_at, upd_apply, if_neg hj, up_ne _ _ _ (by decide)]; exact hv4 j hj) (fun k hk => by simp only [List.mem_cons, List.not_mem_nil, or_false, not_or] at hk; rw [up_ne _ _ _ hk.1, up_ne _ _ _ hk.2]; exact hv5 k (by simp; exact hk))

theorem m_feed {d : Nat} (hd : 3 ≤ d) (σ : Sg) (h6 : ∃ t, t ≤ 100 ∧ σ 135 6 = nI t) (b n : Int32) : CP d mX12_feed [.ref 135, .int b, .int n] σ (MPo σ (sp_feed (mv σ) b n)) := by
  obtain ⟨t, ht100, h6⟩ := h6
  refine con_of (by decide) (catL rfl) (Nat.le_of_ble_eq_true rfl) ?_
  intro μ ω C hr
  have C : Cx μ ω "TowFieldModel" cX12_feed 4 d := C
  have hr : (mH μ).sig.returnType = some .int := hr
  show G μ ω (RQ μ ω (pP (MPo σ (sp_feed (mv σ) b n)))) 0 [some (.ref 135), some (.int b), some (.int n), none] [] (mk σ) 0 0
  refine g_il2n (pc := 0) C dX12_feed_0 ?_
  refine g_iconst (pc := 1) (v := 1) C dX12_feed_1 (by decide) ?_
  refine g_iconst (pc := 2) (v := 4) C dX12_feed_2 (by decide) ?_
  refine s_SB (pc := 3) (st := []) C (c_X12_within (d := d - 1) (by omega) σ n 1 4) (by omega) lX12_58 dX12_feed_3 rfl (Nat.le_of_ble_eq_true rfl) rfl (fun b_3 => ?_) (fun b_3 => ?_)
  · obtain ⟨j, hj, rfl⟩ := rgL b_3 (by decide) (B := 4) (by decide)
    have kj : (nI j).toNatClampNeg = j := nI_clamp (by omega)
    refine g_if_ne (pc := 6) (tgt := 16) C dX12_feed_6 (by decide) (fun _ => ?_) (fun c => absurd c (by decide))
    refine g_al0n (pc := 16) C dX12_feed_16 ?_
    refine s_getI (pc := 17) C fX12_223 h135 rfl dX12_feed_17 ?_
    refine g_il2n (pc := 20) C dX12_feed_20 ?_
    refine g_iadd (pc := 21) C dX12_feed_21 ?_
    refine g_bipush (pc := 22) (v := 100) C dX12_feed_22 (by decide) ?_
    refine g_icmp_leL (pc := 24) (tgt := 34) C dX12_feed_24 (by decide) (fun c_24 => ?_) (fun c_24 => ?_)
    · refine g_il2n (pc := 34) C dX12_feed_34 ?_
      refine g_iconst (pc := 35) (v := 1) C dX12_feed_35 (by decide) ?_
      refine g_isub (pc := 36) C dX12_feed_36 ?_
      refine g_is3n (pc := 37) C dX12_feed_37 ?_
      have e6 : σ 135 6 + nI j = nI (t + j) := by rw [h6, nI_add]
      have ht : t + j ≤ 100 := by rw [e6] at c_24; have := Int32.not_lt.mp c_24; exact (nI_leI (by omega) (by decide)).mp this
      exact lp_X12_feed (by omega) C hr σ b _ ht _ (fun τ' q1 q2 q3 q4 => ⟨by simp only [sp_feed, mv, aS, b_3, c_24, kj, if_true, if_false, not_true_eq_false, not_false_eq_true, and_self]; exact e6.symm, by
        simp only [sp_feed, mv, aS, aT, b_3, c_24, kj, if_true, if_false, not_true_eq_false, not_false_eq_true, and_self]
        rw [q1, q2, q4 136 (by decide), q4 137 (by decide), q3 3 (by decide), q4 139 (by decide), q4 144 (by decide), q4 145 (by decide), q4 146 (by decide), e6]
        simp only [h6, nI_clamp (show t < 2 ^ 31 by omega)], frE q4 (fun k hk => by simp; omega), mtE q4 (by decide)⟩) j 0 _ t σ (Nat.zero_add j) rfl h6 rfl rfl (fun _ _ => rfl) Eqx.rf
    · refine g_al0n (pc := 27) C dX12_feed_27 ?_
      refine g_ldc (pc := 28) C dX12_feed_28 kX12_66 ?_
      refine s_VI (pc := 30) (st := []) C h135 rfl (c_X12_finding (d := d - 1) (by omega) σ (i := 1) (by decide) (w := ((-1000002))) (by decide)) (by omega) lX12_62 dX12_feed_30 rfl (Nat.le_of_ble_eq_true rfl) rfl ?_
      refine r_P C hr dX12_feed_33 ⟨?_, ?_, ?_, ?_⟩
      · first | (simp only [sp_feed, FB, FF, FK, FN, FS, FM, FZ, fnd, becS, bitS, sN, mv, aN, aF, aK, aH, aT, aS, aW, aZ, aU, b_3, c_24, kj, eq_self, ne_eq, not_true_eq_false, not_false_eq_true, Classical.not_not, decide_true, decide_false, and_true, true_and, and_false, false_and, and_self, or_true, true_or, or_false, false_or, or_self, if_true, if_false, ite_true, ite_false, Bool.eq_false_iff, Bool.not_eq_eq_eq_not, Bool.true_eq_false, Bool.false_eq_true, reduceCtorEq]; done) | (simp only [sp_feed, FB, FF, FK, FN, FS, FM, FZ, fnd, becS, bitS, sN, mv, aN, aF, aK, aH, aT, aS, aW, aZ, aU, b_3, c_24, kj, eq_self, ne_eq, not_true_eq_false, not_false_eq_true, Classical.not_not, decide_true, decide_false, and_true, true_and, and_false, false_and, and_self, or_true, true_or, or_false, false_or, or_self, if_true, if_false, ite_true, ite_false, Bool.eq_false_iff, Bool.not_eq_eq_eq_not, Bool.true_eq_false, Bool.false_eq_true, reduceCtorEq]; rfl) | (simp [becS, bitS, sp_feed, FB, FF, FK, FN, FS, FM, FZ, fnd, mv, aN, b_3, c_24, kj]; done)
      · try simp only [mv_now, mv_fnd, mv_tap, mv_kep]
        first | (simp only [up_at, sN, becS, bitS, sp_feed, FB, FF, FK, FN, FS, FM, FZ, fnd, mv, aN, aF, aK, aH, aT, aS, aW, aZ, aU, b_3, c_24, kj, eq_self, ne_eq, not_true_eq_false, not_false_eq_true, Classical.not_not, decide_true, decide_false, and_true, true_and, and_false, false_and, and_self, or_true, true_or, or_false, false_or, or_self, if_true, if_false, ite_true, ite_false, Bool.eq_false_iff, Bool.not_eq_eq_eq_not, Bool.true_eq_false, Bool.false_eq_true, reduceCtorEq]; done) | (simp only [up_at, sN, becS, bitS, sp_feed, FB, FF, FK, FN, FS, FM, FZ, fnd, mv, aN, aF, aK, aH, aT, aS, aW, aZ, aU, b_3, c_24, kj, eq_self, ne_eq, not_true_eq_false, not_false_eq_true, Classical.not_not, decide_true, decide_false, and_true, true_and, and_false, false_and, and_self, or_true, true_or, or_false, false_or, or_self, if_true, if_false, ite_true, ite_false, Bool.eq_false_iff, Bool.not_eq_eq_eq_not, Bool.true_eq_false, Bool.false_eq_true, reduceCtorEq]; rfl) | (simp [mv_now, mv_fnd, up_at, sN, becS, bitS, sp_feed, FB, FF, FK, FN, FS, FM, FZ, fnd, mv, aN, b_3, c_24, kj]; done)
      · repeat first | exact (fun _ _ => rfl) | refine frU (by decide) ?_
      · repeat first | exact id | refine mtU (by decide) ?_
  · refine g_if_ne (pc := 6) (tgt := 16) C dX12_feed_6 (by decide) (fun c => absurd c (by decide)) (fun _ => ?_)
    refine g_al0n (pc := 9) C dX12_feed_9 ?_
    refine g_ldc (pc := 10) C dX12_feed_10 kX12_57 ?_
    refine s_VI (pc := 12) (st := []) C h135 rfl (c_X12_finding (d := d - 1) (by omega) σ (i := 0) (by decide) (w := ((-1000001))) (by decide)) (by omega) lX12_62 dX12_feed_12 rfl (Nat.le_of_ble_eq_true rfl) rfl ?_
    refine r_P C hr dX12_feed_15 ⟨?_, ?_, ?_, ?_⟩
    · first | (simp only [sp_feed, FB, FF, FK, FN, FS, FM, FZ, fnd, becS, bitS, sN, mv, aN, aF, aK, aH, aT, aS, aW, aZ, aU, b_3, eq_self, ne_eq, not_true_eq_false, not_false_eq_true, Classical.not_not, decide_true, decide_false, and_true, true_and, and_false, false_and, and_self, or_true, true_or, or_false, false_or, or_self, if_true, if_false, ite_true, ite_false, Bool.eq_false_iff, Bool.not_eq_eq_eq_not, Bool.true_eq_false, Bool.false_eq_true, reduceCtorEq]; done) | (simp only [sp_feed, FB, FF, FK, FN, FS, FM, FZ, fnd, becS, bitS, sN, mv, aN, aF, aK, aH, aT, aS, aW, aZ, aU, b_3, eq_self, ne_eq, not_true_eq_false, not_false_eq_true, Classical.not_not, decide_true, decide_false, and_true, true_and, and_false, false_and, and_self, or_true, true_or, or_false, false_or, or_self, if_true, if_false, ite_true, ite_false, Bool.eq_false_iff, Bool.not_eq_eq_eq_not, Bool.true_eq_false, Bool.false_eq_true, reduceCtorEq]; rfl) | (simp [becS, bitS, sp_feed, FB, FF, FK, FN, FS, FM, FZ, fnd, mv, aN, b_3]; done)
    · try simp only [mv_now, mv_fnd, mv_tap, mv_kep]
      first | (simp only [up_at, sN, becS, bitS, sp_feed, FB, FF, FK, FN, FS, FM, FZ, fnd, mv, aN, aF, aK, aH, aT, aS, aW, aZ, aU, b_3, eq_self, ne_eq, not_true_eq_false, not_false_eq_true, Classical.not_not, decide_true, decide_false, and_true, true_and, and_false, false_and, and_self, or_true, true_or, or_false, false_or, or_self, if_true, if_false, ite_true, ite_false, Bool.eq_false_iff, Bool.not_eq_eq_eq_not, Bool.true_eq_false, Bool.false_eq_true, reduceCtorEq]; done) | (simp only [up_at, sN, becS, bitS, sp_feed, FB, FF, FK, FN, FS, FM, FZ, fnd, mv, aN, aF, aK, aH, aT, aS, aW, aZ, aU, b_3, eq_self, ne_eq, not_true_eq_false, not_false_eq_true, Classical.not_not, decide_true, decide_false, and_true, true_and, and_false, false_and, and_self, or_true, true_or, or_false, false_or, or_self, if_true, if_false, ite_true, ite_false, Bool.eq_false_iff, Bool.not_eq_eq_eq_not, Bool.true_eq_false, Bool.false_eq_true, reduceCtorEq]; rfl) | (simp [mv_now, mv_fnd, up_at, sN, becS, bitS, sp_feed, FB, FF, FK, FN, FS, FM, FZ, fnd, mv, aN, b_3]; done)
    · repeat first | exact (fun _ _ => rfl) | refine frU (by decide) ?_
    · repeat first | exact id | refine mtU (by decide) ?_

theorem lp_X12_share1 {μ : Mx} {ω : Om} {d : Nat} (hd : 1 ≤ d) (C : Cx μ ω "TowFieldModel" cX12_share 7 d) (hr : (mH μ).sig.returnType = some .int) (σ : Sg) (g s o : Int32) {post : Option Value → AH → Prop} (kk : ∀ m : Int32, m = sumL (bitf o) 14 → G μ ω (RQ μ ω post) 64 [some (.ref 135), some (.int g), some (.int s), some (.int o), some (.int m), some (.int 14), none] [] (mk σ) 0 0) : ∀ (f i : Nat) (v : Int32), i + f = 14 → (v = sumL (bitf o) i) → G μ ω (RQ μ ω (post)) 40 [some (.ref 135), some (.int g), some (.int s), some (.int o), some (.int v), some (.int (nI i)), none] [] (mk σ) 0 0 := by
  intro f
  induction f with
  | zero =>
    intro i v hif hv
    have hin : i = 14 := by omega
    subst hin
    refine g_il5 (pc := 40) C dX12_share_40 ?_
    refine g_bipush (pc := 42) (v := 14) C dX12_share_42 (by decide) ?_
    refine g_icmp_geL (pc := 44) (tgt := 64) C dX12_share_44 (by decide) (fun c_44 => ?_) (fun c_44 => absurd c_44 (by decide))
    exact kk v hv
  | succ f ih =>
    intro i v hif hv
    refine g_il5 (pc := 40) C dX12_share_40 ?_
    refine g_bipush (pc := 42) (v := 14) C dX12_share_42 (by decide) ?_
    refine g_icmp_geL (pc := 44) (tgt := 64) C dX12_share_44 (by decide) (fun c_44 => absurd (show nI i < nI 14 from nI_lt (by omega) (by decide)) c_44) (fun c_44 => ?_)
    refine g_il4 (pc := 47) C dX12_share_47 ?_
    refine g_il3n (pc := 49) C dX12_share_49 ?_
    refine g_il5 (pc := 50) C dX12_share_50 ?_
    refine g_ishr (pc := 52) C dX12_share_52 ?_
    refine g_iconst (pc := 53) (v := 1) C dX12_share_53 (by decide) ?_
    refine g_iand (pc := 54) C dX12_share_54 ?_
    refine g_iadd (pc := 55) C dX12_share_55 ?_
    refine g_is4 (pc := 56) C dX12_share_56 ?_
    refine g_ii5 (pc := 58) (v := nI (i + 1)) C dX12_share_58 (nI_inc1 _) ?_
    refine g_goto (pc := 61) (tgt := 40) C dX12_share_61 (by decide) ?_
    exact ih (i + 1) _ (by omega) (by rw [hv]; rfl)

theorem lp_X12_share2 {μ : Mx} {ω : Om} {d : Nat} (hd : 2 ≤ d) (C : Cx μ ω "TowFieldModel" cX12_share 7 d) (hr : (mH μ).sig.returnType = some .int) (σ : Sg) (g s o m : Int32) (hm : ¬ m = 0) (Φ : Int32 → Sg → Prop) (hΦ : ∀ τ', τ' 136 = (shr (σ 136) o s m 14).1 → Eqx [136] σ τ' → Φ m τ') : ∀ (f i : Nat) (l : Int32) (τ : Sg), i + f = 14 → (τ 136 = (shr (σ 136) o s m i).1) → (l = (shr (σ 136) o s m i).2) → (Eqx [136] σ τ) → G μ ω (RQ μ ω (pP Φ)) 86 [some (.ref 135), some (.int g), some (.int s), some (.int o), some (.int m), some (.int l), some (.int (nI i))] [] (mk τ) 0 0 := by
  intro f
  induction f with
  | zero =>
    intro i l τ hif hv hv1 hv2
    have hin : i = 14 := by omega
    subst hin
    refine g_il6 (pc := 86) C dX12_share_86 ?_
    refine g_bipush (pc := 88) (v := 14) C dX12_share_88 (by decide) ?_
    refine g_icmp_geL (pc := 90) (tgt := 143) C dX12_share_90 (by decide) (fun c_90 => ?_) (fun c_90 => absurd c_90 (by decide))
    refine g_il4 (pc := 143) C dX12_share_143 ?_
    exact r_P C hr dX12_share_145 (hΦ τ hv hv2)
  | succ f ih =>
    intro i l τ hif hv hv1 hv2
    refine g_il6 (pc := 86) C dX12_share_86 ?_
    refine g_bipush (pc := 88) (v := 14) C dX12_share_88 (by decide) ?_
    refine g_icmp_geL (pc := 90) (tgt := 143) C dX12_share_90 (by decide) (fun c_90 => absurd (show nI i < nI 14 from nI_lt (by omega) (by decide)) c_90) (fun c_90 => ?_)
    refine g_il3n (pc := 93) C dX12_share_93 ?_
    refine g_il6 (pc := 94) C dX12_share_94 ?_
    refine s_SB (pc := 96) (st := []) C (c_X12_has (d := d - 1) (by omega) τ o (nI i)) (by omega) lX12_127 dX12_share_96 rfl (Nat.le_of_ble_eq_true rfl) rfl (fun b_96 => ?_) (fun b_96 => ?_)
    · refine g_if_eq (pc := 99) (tgt := 137) C dX12_share_99 (by decide) (fun c => absurd c (by decide)) (fun _ => ?_)
      refine g_al0n (pc := 102) C dX12_share_102 ?_
      refine s_getR (pc := 103) C fX12_9 h135 rfl dX12_share_103 ?_
      refine g_bipush (pc := 106) (v := 90) C dX12_share_106 (by decide) ?_
      refine g_iconst (pc := 108) (v := 4) C dX12_share_108 (by decide) ?_
      refine g_il6 (pc := 109) C dX12_share_109 ?_
      refine g_imul (pc := 111) C dX12_share_111 ?_
      refine g_iadd (pc := 112) C dX12_share_112 ?_
      refine g_iconst (pc := 113) (v := 3) C dX12_share_113 (by decide) ?_
      refine g_iadd (pc := 114) C dX12_share_114 ?_
      refine g_dup2 (pc := 115) C dX12_share_115 rfl rfl ?_
      refine s_iald (pc := 116) (q := (90 + (4 * i)) + 3) C h136 (by first | (simp only [ixl, nI_add, pk_mul]; done) | rfl | decide) (by omega) (Nat.le_of_ble_eq_true rfl) dX12_share_116 ?_
      refine g_il2n (pc := 117) C dX12_share_117 ?_
      refine g_il4 (pc := 118) C dX12_share_118 ?_
      refine g_idiv (pc := 120) C dX12_share_120 hm ?_
      refine g_il5 (pc := 121) C dX12_share_121 ?_
      refine g_if_leL (pc := 123) (tgt := 130) C dX12_share_123 (by decide) (fun c_123 => ?_) (fun c_123 => ?_)
      · refine g_iconst (pc := 130) (v := 0) C dX12_share_130 (by decide) ?_
        refine g_iadd (pc := 131) C dX12_share_131 ?_
        refine g_iadd (pc := 132) C dX12_share_132 ?_
        refine s_iast (pc := 133) (q := (90 + (4 * i)) + 3) C h136 (by first | (simp only [ixl, nI_add, pk_mul]; done) | rfl | decide) (by omega) (Nat.le_of_ble_eq_true rfl) dX12_share_133 ?_
        refine g_ii5 (pc := 134) (v := l + (-1)) C dX12_share_134 rfl ?_
        refine g_ii6 (pc := 137) (v := nI (i + 1)) C dX12_share_137 (nI_inc1 _) ?_
        refine g_goto (pc := 140) (tgt := 86) C dX12_share_140 (by decide) ?_
        exact ih (i + 1) _ _ (by omega) (by rw [up_at, hv]; simp only [shr, b_96, if_true]; rw [← hv1]; simp only [c_123, if_true, if_false]) (by simp only [shr, b_96, if_true]; rw [← hv1, Int32.sub_eq_add_neg]) (hv2.tr (Eqx.up (by decide)))
      · refine g_iconst (pc := 126) (v := 1) C dX12_share_126 (by decide) ?_
        refine g_goto (pc := 127) (tgt := 131) C dX12_share_127 (by decide) ?_
        refine g_iadd (pc := 131) C dX12_share_131 ?_
        refine g_iadd (pc := 132) C dX12_share_132 ?_
        refine s_iast (pc := 133) (q := (90 + (4 * i)) + 3) C h136 (by first | (simp only [ixl, nI_add, pk_mul]; done) | rfl | decide) (by omega) (Nat.le_of_ble_eq_true rfl) dX12_share_133 ?_
        refine g_ii5 (pc := 134) (v := l + (-1)) C dX12_share_134 rfl ?_
        refine g_ii6 (pc := 137) (v := nI (i + 1)) C dX12_share_137 (nI_inc1 _) ?_
        refine g_goto (pc := 140) (tgt := 86) C dX12_share_140 (by decide) ?_
        exact ih (i + 1) _ _ (by omega) (by rw [up_at, hv]; simp only [shr, b_96, if_true]; rw [← hv1]; simp only [c_123, if_true, if_false]) (by simp only [shr, b_96, if_true]; rw [← hv1, Int32.sub_eq_add_neg]) (hv2.tr (Eqx.up (by decide)))
    · refine g_if_eq (pc := 99) (tgt := 137) C dX12_share_99 (by decide) (fun _ => ?_) (fun c => absurd c (by decide))
      refine g_ii6 (pc := 137) (v := nI (i + 1)) C dX12_share_137 (nI_inc1 _) ?_
      refine g_goto (pc := 140) (tgt := 86) C dX12_share_140 (by decide) ?_
      exact ih (i + 1) l τ (by omega) (by rw [hv]; simp only [shr, b_96]; rfl) (by rw [hv1]; simp only [shr, b_96]; rfl) hv2

theorem y_share_64 {μ : Mx} {ω : Om} {d : Nat} (hd : 2 ≤ d) (C : Cx μ ω "TowFieldModel" cX12_share 7 d) (hr : (mH μ).sig.returnType = some .int) (σ : Sg) (hI : INV (σ 136)) {j : Nat} (hj : j < cnt (σ 136) 3) {s m : Int32} (hm : m = sumL (bitf (σ 136 (50 + 4 * j + 3))) 14) (hs : 0 ≤ s ∧ s ≤ 9999) (hg : 0 ≤ nI j ∧ nI j ≤ σ 136 3 - 1) : G μ ω (RQ μ ω (pP (MPo σ (sp_share (mv σ) (nI j) s)))) 64 [some (.ref 135), some (.int (nI j)), some (.int s), some (.int (σ 136 (50 + 4 * j + 3))), some (.int m), some (.int 14), none] [] (mk σ) 0 0 := by
  have hn3 := hI.n3.2
  have kj : (nI j).toNatClampNeg = j := nI_clamp (by omega)
  have e0 : sp_share (mv σ) (nI j) s = if m = 0 then FN (mv σ) else (m, sN (mv σ) (shr (σ 136) (σ 136 (50 + 4 * j + 3)) s m 14).1) := by
    unfold sp_share
    rw [if_neg (not_not_intro ⟨hg, hs⟩), hm, kj]
    rfl
  refine g_il4 (pc := 64) C dX12_share_64 ?_
  refine g_if_ne (pc := 66) (tgt := 77) C dX12_share_66 (by decide) (fun c_66 => ?_) (fun c_66 => ?_)
  · refine g_il2n (pc := 77) C dX12_share_77 ?_
    refine g_il4 (pc := 78) C dX12_share_78 ?_
    refine g_irem (pc := 80) C dX12_share_80 c_66 ?_
    refine g_is5 (pc := 81) C dX12_share_81 ?_
    refine g_iconst (pc := 83) (v := 0) C dX12_share_83 (by decide) ?_
    refine g_is6 (pc := 84) C dX12_share_84 ?_
    exact lp_X12_share2 (by omega) C hr σ _ s _ m c_66 _ (fun τ' q1 q2 => by
      rw [e0, if_neg c_66]
      refine ⟨rfl, ?_, frE q2 (fun k hk => by simp; omega), mtE q2 (by decide)⟩
      unfold mv sN
      rw [q1, q2 137 (by decide), q2 135 (by decide), q2 139 (by decide), q2 140 (by decide), q2 144 (by decide), q2 145 (by decide), q2 146 (by decide)]) 14 0 _ σ (by omega) rfl rfl Eqx.rf
  · refine g_al0n (pc := 69) C dX12_share_69 ?_
    refine g_ldcw (pc := 70) C dX12_share_70 kX12_290 ?_
    refine s_VI (pc := 73) (st := []) C h135 rfl (c_X12_finding (d := d - 1) (by omega) σ (i := 3) (by decide) (w := ((-1000004))) (by decide)) (by omega) lX12_62 dX12_share_73 rfl (Nat.le_of_ble_eq_true rfl) rfl ?_
    rw [e0, if_pos c_66]
    exact r_P C hr dX12_share_76 ⟨rfl, rfl, frU (by decide) (fun _ _ => rfl), mtU (by decide) id⟩

theorem m_share {d : Nat} (hd : 3 ≤ d) (σ : Sg) (hI : INV (σ 136)) (g s : Int32) : CP d mX12_share [.ref 135, .int g, .int s] σ (MPo σ (sp_share (mv σ) g s)) := by
  refine con_of (by decide) (catL rfl) (Nat.le_of_ble_eq_true rfl) ?_
  intro μ ω C hr
  have C : Cx μ ω "TowFieldModel" cX12_share 7 d := C
  have hr : (mH μ).sig.returnType = some .int := hr
  show G μ ω (RQ μ ω (pP (MPo σ (sp_share (mv σ) g s)))) 0 [some (.ref 135), some (.int g), some (.int s), none, none, none, none] [] (mk σ) 0 0
  refine g_al0n (pc := 0) C dX12_share_0 ?_
  refine g_il1n (pc := 1) C dX12_share_1 ?_
  refine g_iconst (pc := 2) (v := 3) C dX12_share_2 (by decide) ?_
  refine s_VB (pc := 3) (st := []) C h135 rfl (c_X12_isE (d := d - 1) (by omega) σ g (c := 3) (by decide) rfl) (by omega) lX12_71 dX12_share_3 rfl (Nat.le_of_ble_eq_true rfl) rfl (fun b_3 => ?_) (fun b_3 => ?_)
  · have hn3 := hI.n3.2
    obtain ⟨j, hj, rfl⟩ := (is_iff hI.n3.1 (by have := hI.n3.2; omega)).mp b_3
    have kj : (nI j).toNatClampNeg = j := nI_clamp (by omega)
    refine g_if_eq (pc := 6) (tgt := 20) C dX12_share_6 (by decide) (fun c => absurd c (by decide)) (fun _ => ?_)
    refine g_il2n (pc := 9) C dX12_share_9 ?_
    refine g_iconst (pc := 10) (v := 0) C dX12_share_10 (by decide) ?_
    refine g_sipush (pc := 11) (v := 9999) C dX12_share_11 (by decide) ?_
    refine s_SB (pc := 14) (st := []) C (c_X12_within (d := d - 1) (by omega) σ s 0 9999) (by omega) lX12_58 dX12_share_14 rfl (Nat.le_of_ble_eq_true rfl) rfl (fun b_14 => ?_) (fun b_14 => ?_)
    · refine g_if_ne (pc := 17) (tgt := 27) C dX12_share_17 (by decide) (fun _ => ?_) (fun c => absurd c (by decide))
      refine g_al0n (pc := 27) C dX12_share_27 ?_
      refine g_il1n (pc := 28) C dX12_share_28 ?_
      refine g_iconst (pc := 29) (v := 3) C dX12_share_29 (by decide) ?_
      refine s_VI (pc := 30) (st := []) C h135 rfl (c_X12_gliderOf (d := d - 1) (by omega) σ (a := j) (f := 3) (by omega) (by omega) rfl rfl) (by omega) lX12_75 dX12_share_30 rfl (Nat.le_of_ble_eq_true rfl) rfl ?_
      refine g_is3n (pc := 33) C dX12_share_33 ?_
      refine g_iconst (pc := 34) (v := 0) C dX12_share_34 (by decide) ?_
      refine g_is4 (pc := 35) C dX12_share_35 ?_
      refine g_iconst (pc := 37) (v := 0) C dX12_share_37 (by decide) ?_
      refine g_is5 (pc := 38) C dX12_share_38 ?_
      refine lp_X12_share1 (by omega) C hr σ _ s _ (fun m hm => ?_) 14 0 _ (by omega) rfl
      exact y_share_64 (by omega) C hr σ hI hj hm b_14 b_3
    · refine g_if_ne (pc := 17) (tgt := 27) C dX12_share_17 (by decide) (fun c => absurd c (by decide)) (fun _ => ?_)
      refine g_al0n (pc := 20) C dX12_share_20 ?_
      refine g_ldc (pc := 21) C dX12_share_21 kX12_57 ?_
      refine s_VI (pc := 23) (st := []) C h135 rfl (c_X12_finding (d := d - 1) (by omega) σ (i := 0) (by decide) (w := ((-1000001))) (by decide)) (by omega) lX12_62 dX12_share_23 rfl (Nat.le_of_ble_eq_true rfl) rfl ?_
      have e : sp_share (mv σ) (nI j) s = FB (mv σ) := if_pos (fun q => b_14 q.2)
      rw [e]
      exact r_P C hr dX12_share_26 ⟨rfl, rfl, frU (by decide) (fun _ _ => rfl), mtU (by decide) id⟩
  · refine g_if_eq (pc := 6) (tgt := 20) C dX12_share_6 (by decide) (fun _ => ?_) (fun c => absurd c (by decide))
    refine g_al0n (pc := 20) C dX12_share_20 ?_
    refine g_ldc (pc := 21) C dX12_share_21 kX12_57 ?_
    refine s_VI (pc := 23) (st := []) C h135 rfl (c_X12_finding (d := d - 1) (by omega) σ (i := 0) (by decide) (w := ((-1000001))) (by decide)) (by omega) lX12_62 dX12_share_23 rfl (Nat.le_of_ble_eq_true rfl) rfl ?_
    have e : sp_share (mv σ) g s = FB (mv σ) := if_pos (fun q => b_3 q.1)
    rw [e]
    exact r_P C hr dX12_share_26 ⟨rfl, rfl, frU (by decide) (fun _ _ => rfl), mtU (by decide) id⟩

theorem lp_X12_status {μ : Mx} {ω : Om} {d : Nat} (hd : 1 ≤ d) (C : Cx μ ω "TowFieldModel" cX12_status 4 d) (hr : (mH μ).sig.returnType = some .int) (σ : Sg) (w : Int32) (Φ : Int32 → Sg → Prop) (hΦ : Φ (sumL (fndT (σ 139) w) 7) σ) : ∀ (f i : Nat) (v : Int32), i + f = 7 → (v = sumL (fndT (σ 139) w) i) → G μ ω (RQ μ ω (pP Φ)) 21 [some (.ref 135), some (.int w), some (.int v), some (.int (nI i))] [] (mk σ) 0 0 := by
  intro f
  induction f with
  | zero =>
    intro i v hif hv
    have hin : i = 7 := by omega
    subst hin
    refine g_il3n (pc := 21) C dX12_status_21 ?_
    refine g_bipush (pc := 22) (v := 7) C dX12_status_22 (by decide) ?_
    refine g_icmp_geL (pc := 24) (tgt := 55) C dX12_status_24 (by decide) (fun c_24 => ?_) (fun c_24 => absurd c_24 (by decide))
    refine g_il2n (pc := 55) C dX12_status_55 ?_
    exact r_P C hr dX12_status_56 (by rw [hv]; exact hΦ)
  | succ f ih =>
    intro i v hif hv
    refine g_il3n (pc := 21) C dX12_status_21 ?_
    refine g_bipush (pc := 22) (v := 7) C dX12_status_22 (by decide) ?_
    refine g_icmp_geL (pc := 24) (tgt := 55) C dX12_status_24 (by decide) (fun c_24 => absurd (show nI i < nI 7 from nI_lt (by omega) (by decide)) c_24) (fun c_24 => ?_)
    refine g_il2n (pc := 27) C dX12_status_27 ?_
    refine g_il1n (pc := 28) C dX12_status_28 ?_
    refine g_if_lt (pc := 29) (tgt := 37) C dX12_status_29 (by decide) (fun c_29 => ?_) (fun c_29 => ?_)
    · refine g_al0n (pc := 37) C dX12_status_37 ?_
      refine s_getR (pc := 38) C fX12_19 h135 rfl dX12_status_38 ?_
      refine g_il3n (pc := 41) C dX12_status_41 ?_
      refine s_iald (pc := 42) (q := i) C h139 rfl (by omega) (Nat.le_of_ble_eq_true rfl) dX12_status_42 ?_
      refine g_goto (pc := 43) (tgt := 47) C dX12_status_43 (by decide) ?_
      refine g_iadd (pc := 47) C dX12_status_47 ?_
      refine g_is2n (pc := 48) C dX12_status_48 ?_
      refine g_ii3 (pc := 49) (v := nI (i + 1)) C dX12_status_49 (nI_inc1 _) ?_
      refine g_goto (pc := 52) (tgt := 21) C dX12_status_52 (by decide) ?_
      exact ih (i + 1) _ (by omega) (by rw [hv, sumL_s]; simp only [fndT, c_29, true_or, false_or, or_true, or_false, if_true, if_false])
    · refine g_il1n (pc := 32) C dX12_status_32 ?_
      refine g_il3n (pc := 33) C dX12_status_33 ?_
      refine g_icmp_ne (pc := 34) (tgt := 46) C dX12_status_34 (by decide) (fun c_34 => ?_) (fun c_34 => ?_)
      · refine g_iconst (pc := 46) (v := 0) C dX12_status_46 (by decide) ?_
        refine g_iadd (pc := 47) C dX12_status_47 ?_
        refine g_is2n (pc := 48) C dX12_status_48 ?_
        refine g_ii3 (pc := 49) (v := nI (i + 1)) C dX12_status_49 (nI_inc1 _) ?_
        refine g_goto (pc := 52) (tgt := 21) C dX12_status_52 (by decide) ?_
        exact ih (i + 1) _ (by omega) (by rw [hv, sumL_s]; simp only [fndT, c_29, c_34, true_or, false_or, or_true, or_false, if_true, if_false])
      · refine g_al0n (pc := 37) C dX12_status_37 ?_
        refine s_getR (pc := 38) C fX12_19 h135 rfl dX12_status_38 ?_
        refine g_il3n (pc := 41) C dX12_status_41 ?_
        refine s_iald (pc := 42) (q := i) C h139 rfl (by omega) (Nat.le_of_ble_eq_true rfl) dX12_status_42 ?_
        refine g_goto (pc := 43) (tgt := 47) C dX12_status_43 (by decide) ?_
        refine g_iadd (pc := 47) C dX12_status_47 ?_
        refine g_is2n (pc := 48) C dX12_status_48 ?_
        refine g_ii3 (pc := 49) (v := nI (i + 1)) C dX12_status_49 (nI_inc1 _) ?_
        refine g_goto (pc := 52) (tgt := 21) C dX12_status_52 (by decide) ?_
        exact ih (i + 1) _ (by omega) (by rw [hv, sumL_s]; simp only [fndT, c_29, eq_true c_34, true_or, false_or, or_true, or_false, if_true, if_false])

theorem m_status {d : Nat} (hd : 3 ≤ d) (σ : Sg) (w : Int32) : CP d mX12_status [.ref 135, .int w] σ (MPo σ (sp_status (mv σ) w)) := by
  refine con_of (by decide) (catL rfl) (Nat.le_of_ble_eq_true rfl) ?_
  intro μ ω C hr
  have C : Cx μ ω "TowFieldModel" cX12_status 4 d := C
  have hr : (mH μ).sig.returnType = some .int := hr
  show G μ ω (RQ μ ω (pP (MPo σ (sp_status (mv σ) w)))) 0 [some (.ref 135), some (.int w), none, none] [] (mk σ) 0 0
  refine g_il1n (pc := 0) C dX12_status_0 ?_
  refine g_iconst (pc := 1) (v := (-1)) C dX12_status_1 (by decide) ?_
  refine g_bipush (pc := 2) (v := 6) C dX12_status_2 (by decide) ?_
  refine s_SB (pc := 4) (st := []) C (c_X12_within (d := d - 1) (by omega) σ w ((-1)) 6) (by omega) lX12_58 dX12_status_4 rfl (Nat.le_of_ble_eq_true rfl) rfl (fun b_4 => ?_) (fun b_4 => ?_)
  · refine g_if_ne (pc := 7) (tgt := 17) C dX12_status_7 (by decide) (fun _ => ?_) (fun c => absurd c (by decide))
    refine g_iconst (pc := 17) (v := 0) C dX12_status_17 (by decide) ?_
    refine g_is2n (pc := 18) C dX12_status_18 ?_
    refine g_iconst (pc := 19) (v := 0) C dX12_status_19 (by decide) ?_
    refine g_is3n (pc := 20) C dX12_status_20 ?_
    have e : sp_status (mv σ) w = (sumL (fndT (σ 139) w) 7, mv σ) := if_neg (not_not_intro b_4)
    rw [e]
    exact lp_X12_status (by omega) C hr σ w _ ⟨rfl, rfl, fun _ _ => rfl, id⟩ 7 0 _ (by omega) rfl
  · refine g_if_ne (pc := 7) (tgt := 17) C dX12_status_7 (by decide) (fun c => absurd c (by decide)) (fun _ => ?_)
    refine g_al0n (pc := 10) C dX12_status_10 ?_
    refine g_ldc (pc := 11) C dX12_status_11 kX12_57 ?_
    refine s_VI (pc := 13) (st := []) C h135 rfl (c_X12_finding (d := d - 1) (by omega) σ (i := 0) (by decide) (w := ((-1000001))) (by decide)) (by omega) lX12_62 dX12_status_13 rfl (Nat.le_of_ble_eq_true rfl) rfl ?_
    have e : sp_status (mv σ) w = FB (mv σ) := if_pos b_4
    rw [e]
    exact r_P C hr dX12_status_16 ⟨rfl, rfl, frU (by decide) (fun _ _ => rfl), mtU (by decide) id⟩

theorem lp_X12_count12 {μ : Mx} {ω : Om} {d : Nat} (hd : 2 ≤ d) (C : Cx μ ω "TowFieldModel" cX12_count 4 d) (hr : (mH μ).sig.returnType = some .int) (σ : Sg) (w : Int32) {n : Nat} (hn : σ 136 4 = nI n) (hn14 : n ≤ 14) (Φ : Int32 → Sg → Prop) (hΦ : Φ (sumL (fun p => aP (σ 136) p 3) n) σ) : ∀ (f i : Nat) (v : Int32), i + f = n → (v = sumL (fun p => aP (σ 136) p 3) i) → G μ ω (RQ μ ω (pP Φ)) 142 [some (.ref 135), some (.int w), some (.int v), some (.int (nI i))] [] (mk σ) 0 0 := by
  intro f
  induction f with
  | zero =>
    intro i v hif hv
    have hin : i = n := by omega
    refine g_il3n (pc := 142) C dX12_count_142 ?_
    refine g_al0n (pc := 143) C dX12_count_143 ?_
    refine s_getR (pc := 144) C fX12_9 h135 rfl dX12_count_144 ?_
    refine g_iconst (pc := 147) (v := 4) C dX12_count_147 (by decide) ?_
    refine s_iald (pc := 148) (q := 4) C h136 rfl (by omega) (Nat.le_of_ble_eq_true rfl) dX12_count_148 ?_
    refine g_icmp_geL (pc := 149) (tgt := 167) C dX12_count_149 (by decide) (fun c_149 => ?_) (fun c_149 => absurd c_149 (by rw [hn, hin]; exact nI_nlt (by omega) (by omega)))
    refine g_il2n (pc := 167) C dX12_count_167 ?_
    exact r_P C hr dX12_count_168 (by rw [hv, hin]; exact hΦ)
  | succ f ih =>
    intro i v hif hv
    refine g_il3n (pc := 142) C dX12_count_142 ?_
    refine g_al0n (pc := 143) C dX12_count_143 ?_
    refine s_getR (pc := 144) C fX12_9 h135 rfl dX12_count_144 ?_
    refine g_iconst (pc := 147) (v := 4) C dX12_count_147 (by decide) ?_
    refine s_iald (pc := 148) (q := 4) C h136 rfl (by omega) (Nat.le_of_ble_eq_true rfl) dX12_count_148 ?_
    refine g_icmp_geL (pc := 149) (tgt := 167) C dX12_count_149 (by decide) (fun c_149 => absurd (by rw [hn]; exact nI_lt (by omega) (by omega)) c_149) (fun c_149 => ?_)
    refine g_il2n (pc := 152) C dX12_count_152 ?_
    refine g_al0n (pc := 153) C dX12_count_153 ?_
    refine g_il3n (pc := 154) C dX12_count_154 ?_
    refine g_iconst (pc := 155) (v := 3) C dX12_count_155 (by decide) ?_
    refine s_VI (pc := 156) (st := [(.int v)]) C h135 rfl (c_X12_personOf (d := d - 1) (by omega) σ (a := i) (f := 3) (by omega) (by omega) rfl rfl) (by omega) lX12_82 dX12_count_156 rfl (Nat.le_of_ble_eq_true rfl) rfl ?_
    refine g_iadd (pc := 159) C dX12_count_159 ?_
    refine g_is2n (pc := 160) C dX12_count_160 ?_
    refine g_ii3 (pc := 161) (v := nI (i + 1)) C dX12_count_161 (nI_inc1 _) ?_
    refine g_goto (pc := 164) (tgt := 142) C dX12_count_164 (by decide) ?_
    exact ih (i + 1) _ (by omega) (by rw [hv]; rfl)

theorem lp_X12_count13 {μ : Mx} {ω : Om} {d : Nat} (hd : 2 ≤ d) (C : Cx μ ω "TowFieldModel" cX12_count 4 d) (hr : (mH μ).sig.returnType = some .int) (σ : Sg) (w : Int32) (Φ : Int32 → Sg → Prop) (hΦ : Φ (busyS (σ 136)) σ) : ∀ (f i : Nat) (v : Int32), i + f = 6 → (v = sumL (fun k => if σ 136 0 < σ 136 (20 + k) then 1 else 0) i) → G μ ω (RQ μ ω (pP Φ)) 171 [some (.ref 135), some (.int w), some (.int v), some (.int (nI i))] [] (mk σ) 0 0 := by
  intro f
  induction f with
  | zero =>
    intro i v hif hv
    have hin : i = 6 := by omega
    subst hin
    refine g_il3n (pc := 171) C dX12_count_171 ?_
    refine g_bipush (pc := 172) (v := 6) C dX12_count_172 (by decide) ?_
    refine g_icmp_geL (pc := 174) (tgt := 209) C dX12_count_174 (by decide) (fun c_174 => ?_) (fun c_174 => absurd c_174 (by decide))
    refine g_il2n (pc := 209) C dX12_count_209 ?_
    exact r_P C hr dX12_count_210 (by rw [hv]; exact hΦ)
  | succ f ih =>
    intro i v hif hv
    refine g_il3n (pc := 171) C dX12_count_171 ?_
    refine g_bipush (pc := 172) (v := 6) C dX12_count_172 (by decide) ?_
    refine g_icmp_geL (pc := 174) (tgt := 209) C dX12_count_174 (by decide) (fun c_174 => absurd (show nI i < nI 6 from nI_lt (by omega) (by decide)) c_174) (fun c_174 => ?_)
    refine g_il2n (pc := 177) C dX12_count_177 ?_
    refine g_al0n (pc := 178) C dX12_count_178 ?_
    refine s_getR (pc := 179) C fX12_9 h135 rfl dX12_count_179 ?_
    refine g_bipush (pc := 182) (v := 20) C dX12_count_182 (by decide) ?_
    refine g_il3n (pc := 184) C dX12_count_184 ?_
    refine g_iadd (pc := 185) C dX12_count_185 ?_
    refine s_iald (pc := 186) (q := 20 + i) C h136 (by first | (simp only [ixl, nI_add, pk_mul]; done) | rfl | decide) (by omega) (Nat.le_of_ble_eq_true rfl) dX12_count_186 ?_
    refine g_al0n (pc := 187) C dX12_count_187 ?_
    refine s_getR (pc := 188) C fX12_9 h135 rfl dX12_count_188 ?_
    refine g_iconst (pc := 191) (v := 0) C dX12_count_191 (by decide) ?_
    refine s_iald (pc := 192) (q := 0) C h136 rfl (by omega) (Nat.le_of_ble_eq_true rfl) dX12_count_192 ?_
    refine g_icmp_leL (pc := 193) (tgt := 200) C dX12_count_193 (by decide) (fun c_193 => ?_) (fun c_193 => ?_)
    · refine g_iconst (pc := 200) (v := 0) C dX12_count_200 (by decide) ?_
      refine g_iadd (pc := 201) C dX12_count_201 ?_
      refine g_is2n (pc := 202) C dX12_count_202 ?_
      refine g_ii3 (pc := 203) (v := nI (i + 1)) C dX12_count_203 (nI_inc1 _) ?_
      refine g_goto (pc := 206) (tgt := 171) C dX12_count_206 (by decide) ?_
      exact ih (i + 1) _ (by omega) (by rw [hv, sumL_s]; simp only [c_193, if_true, if_false])
    · refine g_iconst (pc := 196) (v := 1) C dX12_count_196 (by decide) ?_
      refine g_goto (pc := 197) (tgt := 201) C dX12_count_197 (by decide) ?_
      refine g_iadd (pc := 201) C dX12_count_201 ?_
      refine g_is2n (pc := 202) C dX12_count_202 ?_
      refine g_ii3 (pc := 203) (v := nI (i + 1)) C dX12_count_203 (nI_inc1 _) ?_
      refine g_goto (pc := 206) (tgt := 171) C dX12_count_206 (by decide) ?_
      exact ih (i + 1) _ (by omega) (by rw [hv, sumL_s]; simp only [c_193, if_true, if_false])

theorem sw_0_13 (x : Int32) : x = 0 ∨ x = 1 ∨ x = 2 ∨ x = 3 ∨ x = 4 ∨ x = 5 ∨ x = 6 ∨ x = 7 ∨ x = 8 ∨ x = 9 ∨ x = 10 ∨ x = 11 ∨ x = 12 ∨ x = 13 ∨ (x.toInt < 0 ∨ 13 < x.toInt) := by
  by_cases h : x.toInt < 0 ∨ 13 < x.toInt
  · exact Or.inr (Or.inr (Or.inr (Or.inr (Or.inr (Or.inr (Or.inr (Or.inr (Or.inr (Or.inr (Or.inr (Or.inr (Or.inr (Or.inr (h))))))))))))))
  · have h2 : x.toInt = 0 ∨ x.toInt = 1 ∨ x.toInt = 2 ∨ x.toInt = 3 ∨ x.toInt = 4 ∨ x.toInt = 5 ∨ x.toInt = 6 ∨ x.toInt = 7 ∨ x.toInt = 8 ∨ x.toInt = 9 ∨ x.toInt = 10 ∨ x.toInt = 11 ∨ x.toInt = 12 ∨ x.toInt = 13 := by omega
    rcases h2 with h2 | h2 | h2 | h2 | h2 | h2 | h2 | h2 | h2 | h2 | h2 | h2 | h2 | h2
    · exact Or.inl (Int32.toInt_inj.mp (h2.trans (by decide)))
    · exact Or.inr (Or.inl (Int32.toInt_inj.mp (h2.trans (by decide))))
    · exact Or.inr (Or.inr (Or.inl (Int32.toInt_inj.mp (h2.trans (by decide)))))
    · exact Or.inr (Or.inr (Or.inr (Or.inl (Int32.toInt_inj.mp (h2.trans (by decide))))))
    · exact Or.inr (Or.inr (Or.inr (Or.inr (Or.inl (Int32.toInt_inj.mp (h2.trans (by decide)))))))
    · exact Or.inr (Or.inr (Or.inr (Or.inr (Or.inr (Or.inl (Int32.toInt_inj.mp (h2.trans (by decide))))))))
    · exact Or.inr (Or.inr (Or.inr (Or.inr (Or.inr (Or.inr (Or.inl (Int32.toInt_inj.mp (h2.trans (by decide)))))))))
    · exact Or.inr (Or.inr (Or.inr (Or.inr (Or.inr (Or.inr (Or.inr (Or.inl (Int32.toInt_inj.mp (h2.trans (by decide))))))))))
    · exact Or.inr (Or.inr (Or.inr (Or.inr (Or.inr (Or.inr (Or.inr (Or.inr (Or.inl (Int32.toInt_inj.mp (h2.trans (by decide)))))))))))
    · exact Or.inr (Or.inr (Or.inr (Or.inr (Or.inr (Or.inr (Or.inr (Or.inr (Or.inr (Or.inl (Int32.toInt_inj.mp (h2.trans (by decide))))))))))))
    · exact Or.inr (Or.inr (Or.inr (Or.inr (Or.inr (Or.inr (Or.inr (Or.inr (Or.inr (Or.inr (Or.inl (Int32.toInt_inj.mp (h2.trans (by decide)))))))))))))
    · exact Or.inr (Or.inr (Or.inr (Or.inr (Or.inr (Or.inr (Or.inr (Or.inr (Or.inr (Or.inr (Or.inr (Or.inl (Int32.toInt_inj.mp (h2.trans (by decide))))))))))))))
    · exact Or.inr (Or.inr (Or.inr (Or.inr (Or.inr (Or.inr (Or.inr (Or.inr (Or.inr (Or.inr (Or.inr (Or.inr (Or.inl (Int32.toInt_inj.mp (h2.trans (by decide)))))))))))))))
    · exact Or.inr (Or.inr (Or.inr (Or.inr (Or.inr (Or.inr (Or.inr (Or.inr (Or.inr (Or.inr (Or.inr (Or.inr (Or.inr (Or.inl (Int32.toInt_inj.mp (h2.trans (by decide))))))))))))))))

theorem m_count {d : Nat} (hd : 4 ≤ d) (σ : Sg) (hI : INV (σ 136)) (w : Int32) : CP d mX12_count [.ref 135, .int w] σ (MPo σ (sp_count (mv σ) w)) := by
  refine con_of (by decide) (catL rfl) (Nat.le_of_ble_eq_true rfl) ?_
  intro μ ω C hr
  have C : Cx μ ω "TowFieldModel" cX12_count 4 d := C
  have hr : (mH μ).sig.returnType = some .int := hr
  show G μ ω (RQ μ ω (pP (MPo σ (sp_count (mv σ) w)))) 0 [some (.ref 135), some (.int w), none, none] [] (mk σ) 0 0
  refine g_iconst (pc := 0) (v := 0) C dX12_count_0 (by decide) ?_
  refine g_is2n (pc := 1) C dX12_count_1 ?_
  refine g_il1n (pc := 2) C dX12_count_2 ?_
  rcases sw_0_13 w with w_3 | w_3 | w_3 | w_3 | w_3 | w_3 | w_3 | w_3 | w_3 | w_3 | w_3 | w_3 | w_3 | w_3 | w_3
  · refine g_tabE (pc := 3) (tgt := 72) (off := 69) (v := 0) C dX12_count_3 w_3 (by decide) (by decide) (by decide) (by decide) ?_
    refine g_al0n (pc := 72) C dX12_count_72 ?_
    refine s_getR (pc := 73) C fX12_9 h135 rfl dX12_count_73 ?_
    refine g_iconst (pc := 76) (v := 3) C dX12_count_76 (by decide) ?_
    refine s_iald (pc := 77) (q := 3) C h136 rfl (by omega) (Nat.le_of_ble_eq_true rfl) dX12_count_77 ?_
    subst w_3
    exact r_P C hr dX12_count_78 ⟨rfl, rfl, fun _ _ => rfl, id⟩
  · refine g_tabE (pc := 3) (tgt := 79) (off := 76) (v := 1) C dX12_count_3 w_3 (by decide) (by decide) (by decide) (by decide) ?_
    refine g_al0n (pc := 79) C dX12_count_79 ?_
    refine s_getR (pc := 80) C fX12_9 h135 rfl dX12_count_80 ?_
    refine g_iconst (pc := 83) (v := 4) C dX12_count_83 (by decide) ?_
    refine s_iald (pc := 84) (q := 4) C h136 rfl (by omega) (Nat.le_of_ble_eq_true rfl) dX12_count_84 ?_
    subst w_3
    exact r_P C hr dX12_count_85 ⟨rfl, rfl, fun _ _ => rfl, id⟩
  · refine g_tabE (pc := 3) (tgt := 86) (off := 83) (v := 2) C dX12_count_3 w_3 (by decide) (by decide) (by decide) (by decide) ?_
    refine g_al0n (pc := 86) C dX12_count_86 ?_
    refine s_getR (pc := 87) C fX12_9 h135 rfl dX12_count_87 ?_
    refine g_iconst (pc := 90) (v := 5) C dX12_count_90 (by decide) ?_
    refine s_iald (pc := 91) (q := 5) C h136 rfl (by omega) (Nat.le_of_ble_eq_true rfl) dX12_count_91 ?_
    subst w_3
    exact r_P C hr dX12_count_92 ⟨rfl, rfl, fun _ _ => rfl, id⟩
  · refine g_tabE (pc := 3) (tgt := 93) (off := 90) (v := 3) C dX12_count_3 w_3 (by decide) (by decide) (by decide) (by decide) ?_
    refine g_al0n (pc := 93) C dX12_count_93 ?_
    refine s_getR (pc := 94) C fX12_9 h135 rfl dX12_count_94 ?_
    refine g_bipush (pc := 97) (v := 6) C dX12_count_97 (by decide) ?_
    refine s_iald (pc := 99) (q := 6) C h136 rfl (by omega) (Nat.le_of_ble_eq_true rfl) dX12_count_99 ?_
    subst w_3
    exact r_P C hr dX12_count_100 ⟨rfl, rfl, fun _ _ => rfl, id⟩
  · refine g_tabE (pc := 3) (tgt := 101) (off := 98) (v := 4) C dX12_count_3 w_3 (by decide) (by decide) (by decide) (by decide) ?_
    refine g_al0n (pc := 101) C dX12_count_101 ?_
    refine s_getR (pc := 102) C fX12_9 h135 rfl dX12_count_102 ?_
    refine g_bipush (pc := 105) (v := 7) C dX12_count_105 (by decide) ?_
    refine s_iald (pc := 107) (q := 7) C h136 rfl (by omega) (Nat.le_of_ble_eq_true rfl) dX12_count_107 ?_
    subst w_3
    exact r_P C hr dX12_count_108 ⟨rfl, rfl, fun _ _ => rfl, id⟩
  · refine g_tabE (pc := 3) (tgt := 109) (off := 106) (v := 5) C dX12_count_3 w_3 (by decide) (by decide) (by decide) (by decide) ?_
    refine g_al0n (pc := 109) C dX12_count_109 ?_
    refine g_il1n (pc := 110) C dX12_count_110 ?_
    refine g_iconst (pc := 111) (v := 5) C dX12_count_111 (by decide) ?_
    refine g_isub (pc := 112) C dX12_count_112 ?_
    refine s_VI (pc := 113) (st := []) C h135 rfl (c_X12_asksThat (d := d - 1) (by omega) σ hI (w - 5)) (by omega) lX12_211 dX12_count_113 rfl (Nat.le_of_ble_eq_true rfl) rfl ?_
    refine s_SI (pc := 116) (st := []) C (c_X12_bits (d := d - 1) (by omega) σ (setS (σ 136) (w - 5))) (by omega) lX12_307 dX12_count_116 rfl (Nat.le_of_ble_eq_true rfl) rfl ?_
    subst w_3
    exact r_P C hr dX12_count_119 ⟨rfl, rfl, fun _ _ => rfl, id⟩
  · refine g_tabE (pc := 3) (tgt := 109) (off := 106) (v := 6) C dX12_count_3 w_3 (by decide) (by decide) (by decide) (by decide) ?_
    refine g_al0n (pc := 109) C dX12_count_109 ?_
    refine g_il1n (pc := 110) C dX12_count_110 ?_
    refine g_iconst (pc := 111) (v := 5) C dX12_count_111 (by decide) ?_
    refine g_isub (pc := 112) C dX12_count_112 ?_
    refine s_VI (pc := 113) (st := []) C h135 rfl (c_X12_asksThat (d := d - 1) (by omega) σ hI (w - 5)) (by omega) lX12_211 dX12_count_113 rfl (Nat.le_of_ble_eq_true rfl) rfl ?_
    refine s_SI (pc := 116) (st := []) C (c_X12_bits (d := d - 1) (by omega) σ (setS (σ 136) (w - 5))) (by omega) lX12_307 dX12_count_116 rfl (Nat.le_of_ble_eq_true rfl) rfl ?_
    subst w_3
    exact r_P C hr dX12_count_119 ⟨rfl, rfl, fun _ _ => rfl, id⟩
  · refine g_tabE (pc := 3) (tgt := 109) (off := 106) (v := 7) C dX12_count_3 w_3 (by decide) (by decide) (by decide) (by decide) ?_
    refine g_al0n (pc := 109) C dX12_count_109 ?_
    refine g_il1n (pc := 110) C dX12_count_110 ?_
    refine g_iconst (pc := 111) (v := 5) C dX12_count_111 (by decide) ?_
    refine g_isub (pc := 112) C dX12_count_112 ?_
    refine s_VI (pc := 113) (st := []) C h135 rfl (c_X12_asksThat (d := d - 1) (by omega) σ hI (w - 5)) (by omega) lX12_211 dX12_count_113 rfl (Nat.le_of_ble_eq_true rfl) rfl ?_
    refine s_SI (pc := 116) (st := []) C (c_X12_bits (d := d - 1) (by omega) σ (setS (σ 136) (w - 5))) (by omega) lX12_307 dX12_count_116 rfl (Nat.le_of_ble_eq_true rfl) rfl ?_
    subst w_3
    exact r_P C hr dX12_count_119 ⟨rfl, rfl, fun _ _ => rfl, id⟩
  · refine g_tabE (pc := 3) (tgt := 109) (off := 106) (v := 8) C dX12_count_3 w_3 (by decide) (by decide) (by decide) (by decide) ?_
    refine g_al0n (pc := 109) C dX12_count_109 ?_
    refine g_il1n (pc := 110) C dX12_count_110 ?_
    refine g_iconst (pc := 111) (v := 5) C dX12_count_111 (by decide) ?_
    refine g_isub (pc := 112) C dX12_count_112 ?_
    refine s_VI (pc := 113) (st := []) C h135 rfl (c_X12_asksThat (d := d - 1) (by omega) σ hI (w - 5)) (by omega) lX12_211 dX12_count_113 rfl (Nat.le_of_ble_eq_true rfl) rfl ?_
    refine s_SI (pc := 116) (st := []) C (c_X12_bits (d := d - 1) (by omega) σ (setS (σ 136) (w - 5))) (by omega) lX12_307 dX12_count_116 rfl (Nat.le_of_ble_eq_true rfl) rfl ?_
    subst w_3
    exact r_P C hr dX12_count_119 ⟨rfl, rfl, fun _ _ => rfl, id⟩
  · refine g_tabE (pc := 3) (tgt := 120) (off := 117) (v := 9) C dX12_count_3 w_3 (by decide) (by decide) (by decide) (by decide) ?_
    refine g_al0n (pc := 120) C dX12_count_120 ?_
    refine s_getR (pc := 121) C fX12_9 h135 rfl dX12_count_121 ?_
    refine g_bipush (pc := 124) (v := 8) C dX12_count_124 (by decide) ?_
    refine s_iald (pc := 126) (q := 8) C h136 rfl (by omega) (Nat.le_of_ble_eq_true rfl) dX12_count_126 ?_
    subst w_3
    exact r_P C hr dX12_count_127 ⟨rfl, rfl, fun _ _ => rfl, id⟩
  · refine g_tabE (pc := 3) (tgt := 128) (off := 125) (v := 10) C dX12_count_3 w_3 (by decide) (by decide) (by decide) (by decide) ?_
    refine g_al0n (pc := 128) C dX12_count_128 ?_
    refine s_getR (pc := 129) C fX12_9 h135 rfl dX12_count_129 ?_
    refine g_iconst (pc := 132) (v := 0) C dX12_count_132 (by decide) ?_
    refine s_iald (pc := 133) (q := 0) C h136 rfl (by omega) (Nat.le_of_ble_eq_true rfl) dX12_count_133 ?_
    subst w_3
    exact r_P C hr dX12_count_134 ⟨rfl, rfl, fun _ _ => rfl, id⟩
  · refine g_tabE (pc := 3) (tgt := 135) (off := 132) (v := 11) C dX12_count_3 w_3 (by decide) (by decide) (by decide) (by decide) ?_
    refine g_al0n (pc := 135) C dX12_count_135 ?_
    refine s_getI (pc := 136) C fX12_223 h135 rfl dX12_count_136 ?_
    subst w_3
    exact r_P C hr dX12_count_139 ⟨rfl, rfl, fun _ _ => rfl, id⟩
  · refine g_tabE (pc := 3) (tgt := 140) (off := 137) (v := 12) C dX12_count_3 w_3 (by decide) (by decide) (by decide) (by decide) ?_
    refine g_iconst (pc := 140) (v := 0) C dX12_count_140 (by decide) ?_
    refine g_is3n (pc := 141) C dX12_count_141 ?_
    subst w_3
    exact lp_X12_count12 (by omega) C hr σ _ hI.n4.1 hI.n4.2 _ ⟨rfl, rfl, fun _ _ => rfl, id⟩ (cnt (σ 136) 4) 0 _ (by omega) rfl
  · refine g_tabE (pc := 3) (tgt := 169) (off := 166) (v := 13) C dX12_count_3 w_3 (by decide) (by decide) (by decide) (by decide) ?_
    refine g_iconst (pc := 169) (v := 0) C dX12_count_169 (by decide) ?_
    refine g_is3n (pc := 170) C dX12_count_170 ?_
    subst w_3
    exact lp_X12_count13 (by omega) C hr σ _ _ ⟨rfl, rfl, fun _ _ => rfl, id⟩ 6 0 _ (by omega) rfl
  · refine g_tabOut (pc := 3) (tgt := 211) C dX12_count_3 w_3 (by decide) ?_
    refine g_al0n (pc := 211) C dX12_count_211 ?_
    refine g_ldc (pc := 212) C dX12_count_212 kX12_57 ?_
    refine s_VI (pc := 214) (st := []) C h135 rfl (c_X12_finding (d := d - 1) (by omega) σ (i := 0) (by decide) (w := ((-1000001))) (by decide)) (by omega) lX12_62 dX12_count_214 rfl (Nat.le_of_ble_eq_true rfl) rfl ?_
    have hne : ∀ k : Int32, (0 ≤ k.toInt ∧ k.toInt ≤ 13) → ¬ w = k := fun k hk q => by subst q; omega
    have e : sp_count (mv σ) w = FB (mv σ) := by
      unfold sp_count
      simp only [hne 0 (by decide), hne 1 (by decide), hne 2 (by decide), hne 3 (by decide), hne 4 (by decide), hne 5 (by decide), hne 6 (by decide), hne 7 (by decide), hne 8 (by decide), hne 9 (by decide), hne 10 (by decide), hne 11 (by decide), hne 12 (by decide), hne 13 (by decide), or_self, if_false]
    rw [e]
    exact r_P C hr dX12_count_217 ⟨rfl, rfl, frU (by decide) (fun _ _ => rfl), mtU (by decide) id⟩

theorem zrU_s (u : Nu) (s i : Nat) : upd (zrU u s i) (24 * s + i) 0 = zrU u s (i + 1) := by
  funext j
  rw [upd_apply]
  unfold zrU
  by_cases h : j = 24 * s + i
  · rw [if_pos h, if_pos (by omega)]
  · rw [if_neg h]
    by_cases h2 : 24 * s ≤ j ∧ j < 24 * s + i
    · rw [if_pos h2, if_pos (by omega)]
    · rw [if_neg h2, if_neg (by omega)]
theorem zrU_0 (u : Nu) (s : Nat) : zrU u s 0 = u := by
  funext j
  exact if_neg (by omega)
theorem lp_X12_sheet {μ : Mx} {ω : Om} {d : Nat} (hd : 1 ≤ d) (C : Cx μ ω "TowFieldModel" cX12_sheet 5 d) (hr : (mH μ).sig.returnType = some .int) (σ : Sg) {s : Nat} (hs : s ≤ 3) (b n : Int32) (Φ : Int32 → Sg → Prop) (hΦ : ∀ τ', τ' 146 = zrU (σ 146) s 24 → Eqx [146] σ τ' → Φ (σ 145 s) τ') : ∀ (f i : Nat) (τ : Sg), i + f = 24 → (τ 146 = zrU (σ 146) s i) → (Eqx [146] σ τ) → G μ ω (RQ μ ω (pP Φ)) 86 [some (.ref 135), some (.int (nI s)), some (.int b), some (.int n), some (.int (nI i))] [] (mk τ) 0 0 := by
  intro f
  induction f with
  | zero =>
    intro i τ hif hv hv1
    have hin : i = 24 := by omega
    subst hin
    refine g_il4 (pc := 86) C dX12_sheet_86 ?_
    refine g_bipush (pc := 88) (v := 24) C dX12_sheet_88 (by decide) ?_
    refine g_icmp_geL (pc := 90) (tgt := 112) C dX12_sheet_90 (by decide) (fun c_90 => ?_) (fun c_90 => absurd c_90 (by decide))
    refine g_al0n (pc := 112) C dX12_sheet_112 ?_
    refine s_getR (pc := 113) C fX12_48 h135 rfl dX12_sheet_113 ?_
    refine g_il1n (pc := 116) C dX12_sheet_116 ?_
    refine s_iald (pc := 117) (q := s) C h145 rfl (by omega) (Nat.le_of_ble_eq_true rfl) dX12_sheet_117 ?_
    exact r_P C hr dX12_sheet_118 (by rw [hv1 145 (by decide)]; exact hΦ τ hv hv1)
  | succ f ih =>
    intro i τ hif hv hv1
    refine g_il4 (pc := 86) C dX12_sheet_86 ?_
    refine g_bipush (pc := 88) (v := 24) C dX12_sheet_88 (by decide) ?_
    refine g_icmp_geL (pc := 90) (tgt := 112) C dX12_sheet_90 (by decide) (fun c_90 => absurd (show nI i < nI 24 from nI_lt (by omega) (by decide)) c_90) (fun c_90 => ?_)
    refine g_al0n (pc := 93) C dX12_sheet_93 ?_
    refine s_getR (pc := 94) C fX12_51 h135 rfl dX12_sheet_94 ?_
    refine g_bipush (pc := 97) (v := 24) C dX12_sheet_97 (by decide) ?_
    refine g_il1n (pc := 99) C dX12_sheet_99 ?_
    refine g_imul (pc := 100) C dX12_sheet_100 ?_
    refine g_il4 (pc := 101) C dX12_sheet_101 ?_
    refine g_iadd (pc := 103) C dX12_sheet_103 ?_
    refine g_iconst (pc := 104) (v := 0) C dX12_sheet_104 (by decide) ?_
    refine s_iast (pc := 105) (q := 24 * s + i) C h146 (by first | (simp only [ixl, nI_add, pk_mul]; done) | rfl | decide) (by omega) (Nat.le_of_ble_eq_true rfl) dX12_sheet_105 ?_
    refine g_ii4 (pc := 106) (v := nI (i + 1)) C dX12_sheet_106 (nI_inc1 _) ?_
    refine g_goto (pc := 109) (tgt := 86) C dX12_sheet_109 (by decide) ?_
    exact ih (i + 1) _ (by omega) (by rw [up_at, hv, zrU_s]) (hv1.tr (Eqx.up (by decide)))

theorem y_sheet_36 {μ : Mx} {ω : Om} {d : Nat} (hd : 3 ≤ d) (C : Cx μ ω "TowFieldModel" cX12_sheet 5 d) (hr : (mH μ).sig.returnType = some .int) (σ : Sg) {j : Nat} (hj : j ≤ 3) (b n : Int32) (b_1 : 0 ≤ nI j ∧ nI j ≤ 3) (hb4 : b = 0 ∨ b = 8 ∨ b = 16 ∨ b = 32) : G μ ω (RQ μ ω (pP (MPo σ (sp_sheet (mv σ) (nI j) b n)))) 36 [some (.ref 135), some (.int (nI j)), some (.int b), some (.int n), none] [] (mk σ) 0 0 := by
  have kj : (nI j).toNatClampNeg = j := nI_clamp (by omega)
  refine g_il3n (pc := 36) C dX12_sheet_36 ?_
  refine g_if_geL (pc := 37) (tgt := 48) C dX12_sheet_37 (by decide) (fun c_37 => ?_) (fun c_37 => ?_)
  · refine g_il3n (pc := 48) C dX12_sheet_48 ?_
    refine g_bipush (pc := 49) (v := 24) C dX12_sheet_49 (by decide) ?_
    refine g_icmp_leL (pc := 51) (tgt := 61) C dX12_sheet_51 (by decide) (fun c_51 => ?_) (fun c_51 => ?_)
    · refine g_al0n (pc := 61) C dX12_sheet_61 ?_
      refine s_getR (pc := 62) C fX12_45 h135 rfl dX12_sheet_62 ?_
      refine g_il1n (pc := 65) C dX12_sheet_65 ?_
      refine g_il2n (pc := 66) C dX12_sheet_66 ?_
      refine s_iast (pc := 67) (q := j) C h144 rfl (by omega) (Nat.le_of_ble_eq_true rfl) dX12_sheet_67 ?_
      refine g_al0n (pc := 68) C dX12_sheet_68 ?_
      refine s_getR (pc := 69) C fX12_48 h135 rfl dX12_sheet_69 ?_
      refine g_il1n (pc := 72) C dX12_sheet_72 ?_
      refine g_il2n (pc := 73) C dX12_sheet_73 ?_
      refine g_if_ne (pc := 74) (tgt := 81) C dX12_sheet_74 (by decide) (fun c_74 => ?_) (fun c_74 => ?_)
      · refine g_il3n (pc := 81) C dX12_sheet_81 ?_
        refine s_iast (pc := 82) (q := j) C h145 rfl (by omega) (Nat.le_of_ble_eq_true rfl) dX12_sheet_82 ?_
        refine g_iconst (pc := 83) (v := 0) C dX12_sheet_83 (by decide) ?_
        refine g_is4 (pc := 84) C dX12_sheet_84 ?_
        have e : sp_sheet (mv σ) (nI j) b n = (if b = 0 then 0 else n, sW (mv σ) (upd (aW (mv σ)) j b) (upd (aZ (mv σ)) j (if b = 0 then 0 else n)) (zrU (aU (mv σ)) j 24)) := by
          unfold sp_sheet
          rw [if_neg (not_not_intro ⟨b_1, hb4⟩), if_neg c_37, if_neg c_51, kj]
        rw [e]
        rw [if_neg c_74]
        refine lp_X12_sheet (by omega) C hr _ hj b n _ (fun τ' q1 q2 => ⟨?_, ?_, fun k hk => ?_, ?_⟩) 24 0 _ (by omega) (zrU_0 _ _).symm Eqx.rf
        · rw [up_at, upd_at]
        · unfold mv sW
          rw [q1, q2 136 (by decide), q2 137 (by decide), q2 135 (by decide), q2 139 (by decide), q2 140 (by decide), q2 144 (by decide), q2 145 (by decide)]
          rfl
        · rw [q2 k (by simp; omega), up_ne _ _ _ (by omega), up_ne _ _ _ (by omega)]
        · intro q
          exact mtE q2 (by decide) (mtU (by decide) (mtU (by decide) id) q)
      · refine g_iconst (pc := 77) (v := 0) C dX12_sheet_77 (by decide) ?_
        refine g_goto (pc := 78) (tgt := 82) C dX12_sheet_78 (by decide) ?_
        refine s_iast (pc := 82) (q := j) C h145 rfl (by omega) (Nat.le_of_ble_eq_true rfl) dX12_sheet_82 ?_
        refine g_iconst (pc := 83) (v := 0) C dX12_sheet_83 (by decide) ?_
        refine g_is4 (pc := 84) C dX12_sheet_84 ?_
        have e : sp_sheet (mv σ) (nI j) b n = (if b = 0 then 0 else n, sW (mv σ) (upd (aW (mv σ)) j b) (upd (aZ (mv σ)) j (if b = 0 then 0 else n)) (zrU (aU (mv σ)) j 24)) := by
          unfold sp_sheet
          rw [if_neg (not_not_intro ⟨b_1, hb4⟩), if_neg c_37, if_neg c_51, kj]
        rw [e]
        rw [if_pos c_74]
        refine lp_X12_sheet (by omega) C hr _ hj b n _ (fun τ' q1 q2 => ⟨?_, ?_, fun k hk => ?_, ?_⟩) 24 0 _ (by omega) (zrU_0 _ _).symm Eqx.rf
        · rw [up_at, upd_at]
        · unfold mv sW
          rw [q1, q2 136 (by decide), q2 137 (by decide), q2 135 (by decide), q2 139 (by decide), q2 140 (by decide), q2 144 (by decide), q2 145 (by decide)]
          rfl
        · rw [q2 k (by simp; omega), up_ne _ _ _ (by omega), up_ne _ _ _ (by omega)]
        · intro q
          exact mtE q2 (by decide) (mtU (by decide) (mtU (by decide) id) q)
    · refine g_al0n (pc := 54) C dX12_sheet_54 ?_
      refine g_ldc (pc := 55) C dX12_sheet_55 kX12_57 ?_
      refine s_VI (pc := 57) (st := []) C h135 rfl (c_X12_finding (d := d - 1) (by omega) σ (i := 0) (by decide) (w := ((-1000001))) (by decide)) (by omega) lX12_62 dX12_sheet_57 rfl (Nat.le_of_ble_eq_true rfl) rfl ?_
      have e : sp_sheet (mv σ) (nI j) b n = FB (mv σ) := by
        unfold sp_sheet
        rw [if_neg (not_not_intro ⟨b_1, hb4⟩), if_neg c_37, if_pos c_51]
      rw [e]
      exact r_P C hr dX12_sheet_60 ⟨rfl, rfl, frU (by decide) (fun _ _ => rfl), mtU (by decide) id⟩
  · refine g_al0n (pc := 40) C dX12_sheet_40 ?_
    refine g_ldcw (pc := 41) C dX12_sheet_41 kX12_300 ?_
    refine s_VI (pc := 44) (st := []) C h135 rfl (c_X12_finding (d := d - 1) (by omega) σ (i := 6) (by decide) (w := ((-1000007))) (by decide)) (by omega) lX12_62 dX12_sheet_44 rfl (Nat.le_of_ble_eq_true rfl) rfl ?_
    have e : sp_sheet (mv σ) (nI j) b n = FZ (mv σ) := by
      unfold sp_sheet
      rw [if_neg (not_not_intro ⟨b_1, hb4⟩), if_pos c_37]
    rw [e]
    exact r_P C hr dX12_sheet_47 ⟨rfl, rfl, frU (by decide) (fun _ _ => rfl), mtU (by decide) id⟩

theorem m_sheet {d : Nat} (hd : 4 ≤ d) (σ : Sg) (s b n : Int32) : CP d mX12_sheet [.ref 135, .int s, .int b, .int n] σ (MPo σ (sp_sheet (mv σ) s b n)) := by
  refine con_of (by decide) (catL rfl) (Nat.le_of_ble_eq_true rfl) ?_
  intro μ ω C hr
  have C : Cx μ ω "TowFieldModel" cX12_sheet 5 d := C
  have hr : (mH μ).sig.returnType = some .int := hr
  show G μ ω (RQ μ ω (pP (MPo σ (sp_sheet (mv σ) s b n)))) 0 [some (.ref 135), some (.int s), some (.int b), some (.int n), none] [] (mk σ) 0 0
  refine g_il1n (pc := 0) C dX12_sheet_0 ?_
  refine s_SB (pc := 1) (st := []) C (c_X12_isSheet (d := d - 1) (by omega) σ s) (by omega) lX12_296 dX12_sheet_1 rfl (Nat.le_of_ble_eq_true rfl) rfl (fun b_1 => ?_) (fun b_1 => ?_)
  · obtain ⟨j, hj, rfl⟩ := rg b_1 (B := 3) (by decide)
    have kj : (nI j).toNatClampNeg = j := nI_clamp (by omega)
    refine g_if_eq (pc := 4) (tgt := 29) C dX12_sheet_4 (by decide) (fun c => absurd c (by decide)) (fun _ => ?_)
    refine g_il2n (pc := 7) C dX12_sheet_7 ?_
    refine g_if_eq (pc := 8) (tgt := 36) C dX12_sheet_8 (by decide) (fun c_8 => ?_) (fun c_8 => ?_)
    · have hb4 : b = 0 ∨ b = 8 ∨ b = 16 ∨ b = 32 := Or.inl c_8
      exact y_sheet_36 (by omega) C hr σ hj b n b_1 hb4
    · refine g_il2n (pc := 11) C dX12_sheet_11 ?_
      refine g_bipush (pc := 12) (v := 8) C dX12_sheet_12 (by decide) ?_
      refine g_icmp_eq (pc := 14) (tgt := 36) C dX12_sheet_14 (by decide) (fun c_14 => ?_) (fun c_14 => ?_)
      · have hb4 : b = 0 ∨ b = 8 ∨ b = 16 ∨ b = 32 := Or.inr (Or.inl c_14)
        exact y_sheet_36 (by omega) C hr σ hj b n b_1 hb4
      · refine g_il2n (pc := 17) C dX12_sheet_17 ?_
        refine g_bipush (pc := 18) (v := 16) C dX12_sheet_18 (by decide) ?_
        refine g_icmp_eq (pc := 20) (tgt := 36) C dX12_sheet_20 (by decide) (fun c_20 => ?_) (fun c_20 => ?_)
        · have hb4 : b = 0 ∨ b = 8 ∨ b = 16 ∨ b = 32 := Or.inr (Or.inr (Or.inl c_20))
          exact y_sheet_36 (by omega) C hr σ hj b n b_1 hb4
        · refine g_il2n (pc := 23) C dX12_sheet_23 ?_
          refine g_bipush (pc := 24) (v := 32) C dX12_sheet_24 (by decide) ?_
          refine g_icmp_eq (pc := 26) (tgt := 36) C dX12_sheet_26 (by decide) (fun c_26 => ?_) (fun c_26 => ?_)
          · have hb4 : b = 0 ∨ b = 8 ∨ b = 16 ∨ b = 32 := Or.inr (Or.inr (Or.inr c_26))
            exact y_sheet_36 (by omega) C hr σ hj b n b_1 hb4
          · refine g_al0n (pc := 29) C dX12_sheet_29 ?_
            refine g_ldc (pc := 30) C dX12_sheet_30 kX12_57 ?_
            refine s_VI (pc := 32) (st := []) C h135 rfl (c_X12_finding (d := d - 1) (by omega) σ (i := 0) (by decide) (w := ((-1000001))) (by decide)) (by omega) lX12_62 dX12_sheet_32 rfl (Nat.le_of_ble_eq_true rfl) rfl ?_
            have e : sp_sheet (mv σ) (nI j) b n = FB (mv σ) := by
              unfold sp_sheet
              rw [if_pos (fun q => by rcases q.2 with z | z | z | z; exact c_8 z; exact c_14 z; exact c_20 z; exact c_26 z)]
            rw [e]
            exact r_P C hr dX12_sheet_35 ⟨rfl, rfl, frU (by decide) (fun _ _ => rfl), mtU (by decide) id⟩
  · refine g_if_eq (pc := 4) (tgt := 29) C dX12_sheet_4 (by decide) (fun _ => ?_) (fun c => absurd c (by decide))
    refine g_al0n (pc := 29) C dX12_sheet_29 ?_
    refine g_ldc (pc := 30) C dX12_sheet_30 kX12_57 ?_
    refine s_VI (pc := 32) (st := []) C h135 rfl (c_X12_finding (d := d - 1) (by omega) σ (i := 0) (by decide) (w := ((-1000001))) (by decide)) (by omega) lX12_62 dX12_sheet_32 rfl (Nat.le_of_ble_eq_true rfl) rfl ?_
    have e : sp_sheet (mv σ) s b n = FB (mv σ) := by
      unfold sp_sheet
      rw [if_pos (fun q => b_1 q.1)]
    rw [e]
    exact r_P C hr dX12_sheet_35 ⟨rfl, rfl, frU (by decide) (fun _ _ => rfl), mtU (by decide) id⟩

theorem m_write {d : Nat} (hd : 3 ≤ d) (σ : Sg) (hZ : ∀ s, s < 4 → ∃ n, n ≤ 24 ∧ σ 145 s = nI n) (s i v : Int32) : CP d mX12_write [.ref 135, .int s, .int i, .int v] σ (MPo σ (sp_write (mv σ) s i v)) := by
  refine con_of (by decide) (catL rfl) (Nat.le_of_ble_eq_true rfl) ?_
  intro μ ω C hr
  have C : Cx μ ω "TowFieldModel" cX12_write 4 d := C
  have hr : (mH μ).sig.returnType = some .int := hr
  show G μ ω (RQ μ ω (pP (MPo σ (sp_write (mv σ) s i v)))) 0 [some (.ref 135), some (.int s), some (.int i), some (.int v)] [] (mk σ) 0 0
  refine g_il1n (pc := 0) C dX12_write_0 ?_
  refine s_SB (pc := 1) (st := []) C (c_X12_isSheet (d := d - 1) (by omega) σ s) (by omega) lX12_296 dX12_write_1 rfl (Nat.le_of_ble_eq_true rfl) rfl (fun b_1 => ?_) (fun b_1 => ?_)
  · obtain ⟨j, hj, rfl⟩ := rg b_1 (B := 3) (by decide)
    have kj : (nI j).toNatClampNeg = j := nI_clamp (by omega)
    refine g_if_ne (pc := 4) (tgt := 14) C dX12_write_4 (by decide) (fun _ => ?_) (fun c => absurd c (by decide))
    refine g_al0n (pc := 14) C dX12_write_14 ?_
    refine s_getR (pc := 15) C fX12_45 h135 rfl dX12_write_15 ?_
    refine g_il1n (pc := 18) C dX12_write_18 ?_
    refine s_iald (pc := 19) (q := j) C h144 rfl (by omega) (Nat.le_of_ble_eq_true rfl) dX12_write_19 ?_
    refine g_if_ne (pc := 20) (tgt := 31) C dX12_write_20 (by decide) (fun c_20 => ?_) (fun c_20 => ?_)
    · refine g_il2n (pc := 31) C dX12_write_31 ?_
      refine g_iconst (pc := 32) (v := 0) C dX12_write_32 (by decide) ?_
      refine g_al0n (pc := 33) C dX12_write_33 ?_
      refine s_getR (pc := 34) C fX12_48 h135 rfl dX12_write_34 ?_
      refine g_il1n (pc := 37) C dX12_write_37 ?_
      refine s_iald (pc := 38) (q := j) C h145 rfl (by omega) (Nat.le_of_ble_eq_true rfl) dX12_write_38 ?_
      refine g_iconst (pc := 39) (v := 1) C dX12_write_39 (by decide) ?_
      refine g_isub (pc := 40) C dX12_write_40 ?_
      refine s_SB (pc := 41) (st := []) C (c_X12_within (d := d - 1) (by omega) σ i 0 ((σ 145 j) - 1)) (by omega) lX12_58 dX12_write_41 rfl (Nat.le_of_ble_eq_true rfl) rfl (fun b_41 => ?_) (fun b_41 => ?_)
      · refine g_if_ne (pc := 44) (tgt := 54) C dX12_write_44 (by decide) (fun _ => ?_) (fun c => absurd c (by decide))
        obtain ⟨z, hz24, hz⟩ := hZ j (by omega)
        obtain ⟨q, hq, rfl⟩ := (is_iff hz (by omega)).mp b_41
        have kq : (nI q).toNatClampNeg = q := nI_clamp (by omega)
        refine g_al0n (pc := 54) C dX12_write_54 ?_
        refine s_getR (pc := 55) C fX12_51 h135 rfl dX12_write_55 ?_
        refine g_bipush (pc := 58) (v := 24) C dX12_write_58 (by decide) ?_
        refine g_il1n (pc := 60) C dX12_write_60 ?_
        refine g_imul (pc := 61) C dX12_write_61 ?_
        refine g_il2n (pc := 62) C dX12_write_62 ?_
        refine g_iadd (pc := 63) C dX12_write_63 ?_
        refine g_il3n (pc := 64) C dX12_write_64 ?_
        refine g_al0n (pc := 65) C dX12_write_65 ?_
        refine s_getR (pc := 66) C fX12_45 h135 rfl dX12_write_66 ?_
        refine g_il1n (pc := 69) C dX12_write_69 ?_
        refine s_iald (pc := 70) (q := j) C h144 rfl (by omega) (Nat.le_of_ble_eq_true rfl) dX12_write_70 ?_
        refine s_SI (pc := 71) (st := [(.int ((24 * (nI j)) + (nI q))), (.ref 146)]) C (c_X12_cutK (d := d - 1) (by omega) σ v (σ 144 j)) (by omega) lX12_301 dX12_write_71 rfl (Nat.le_of_ble_eq_true rfl) rfl ?_
        refine s_iast (pc := 74) (q := 24 * j + q) C h146 (by first | (simp only [ixl, nI_add, pk_mul]; done) | rfl | decide) (by omega) (Nat.le_of_ble_eq_true rfl) dX12_write_74 ?_
        refine g_iconst (pc := 75) (v := 1) C dX12_write_75 (by decide) ?_
        have e : sp_write (mv σ) (nI j) (nI q) v = (1, sW (mv σ) (aW (mv σ)) (aZ (mv σ)) (upd (aU (mv σ)) (24 * j + q) (cutK v (aW (mv σ) j)))) := by
          unfold sp_write
          rw [if_neg (not_not_intro b_1), kj, if_neg (show ¬ aW (mv σ) j = 0 from c_20), if_neg (not_not_intro (show 0 ≤ nI q ∧ nI q ≤ aZ (mv σ) j - 1 from b_41)), kq]
        rw [e]
        exact r_P C hr dX12_write_76 ⟨rfl, rfl, frU (by decide) (fun _ _ => rfl), mtU (by decide) id⟩
      · refine g_if_ne (pc := 44) (tgt := 54) C dX12_write_44 (by decide) (fun c => absurd c (by decide)) (fun _ => ?_)
        refine g_al0n (pc := 47) C dX12_write_47 ?_
        refine g_ldc (pc := 48) C dX12_write_48 kX12_57 ?_
        refine s_VI (pc := 50) (st := []) C h135 rfl (c_X12_finding (d := d - 1) (by omega) σ (i := 0) (by decide) (w := ((-1000001))) (by decide)) (by omega) lX12_62 dX12_write_50 rfl (Nat.le_of_ble_eq_true rfl) rfl ?_
        have e : sp_write (mv σ) (nI j) i v = FB (mv σ) := by
          unfold sp_write
          rw [if_neg (not_not_intro b_1), kj, if_neg (show ¬ aW (mv σ) j = 0 from c_20), if_pos (show ¬ (0 ≤ i ∧ i ≤ aZ (mv σ) j - 1) from b_41)]
        rw [e]
        exact r_P C hr dX12_write_53 ⟨rfl, rfl, frU (by decide) (fun _ _ => rfl), mtU (by decide) id⟩
    · refine g_al0n (pc := 23) C dX12_write_23 ?_
      refine g_ldcw (pc := 24) C dX12_write_24 kX12_299 ?_
      refine s_VI (pc := 27) (st := []) C h135 rfl (c_X12_finding (d := d - 1) (by omega) σ (i := 5) (by decide) (w := ((-1000006))) (by decide)) (by omega) lX12_62 dX12_write_27 rfl (Nat.le_of_ble_eq_true rfl) rfl ?_
      have e : sp_write (mv σ) (nI j) i v = FM (mv σ) := by
        unfold sp_write
        rw [if_neg (not_not_intro b_1), kj, if_pos (show aW (mv σ) j = 0 from c_20)]
      rw [e]
      exact r_P C hr dX12_write_30 ⟨rfl, rfl, frU (by decide) (fun _ _ => rfl), mtU (by decide) id⟩
  · refine g_if_ne (pc := 4) (tgt := 14) C dX12_write_4 (by decide) (fun c => absurd c (by decide)) (fun _ => ?_)
    refine g_al0n (pc := 7) C dX12_write_7 ?_
    refine g_ldc (pc := 8) C dX12_write_8 kX12_57 ?_
    refine s_VI (pc := 10) (st := []) C h135 rfl (c_X12_finding (d := d - 1) (by omega) σ (i := 0) (by decide) (w := ((-1000001))) (by decide)) (by omega) lX12_62 dX12_write_10 rfl (Nat.le_of_ble_eq_true rfl) rfl ?_
    have e : sp_write (mv σ) s i v = FB (mv σ) := by
      unfold sp_write
      rw [if_pos b_1]
    rw [e]
    exact r_P C hr dX12_write_13 ⟨rfl, rfl, frU (by decide) (fun _ _ => rfl), mtU (by decide) id⟩

theorem lcmp_gt {x y : Int64} : 0 < lg_cmp x y ↔ y < x := by
  unfold lg_cmp
  by_cases h : x > y
  · rw [if_pos h]; exact ⟨fun _ => h, fun _ => by decide⟩
  · rw [if_neg h]
    by_cases h2 : x = y
    · rw [if_pos h2]; exact ⟨fun q => absurd q (by decide), fun q => absurd q h⟩
    · rw [if_neg h2]; exact ⟨fun q => absurd q (by decide), fun q => absurd q h⟩
theorem l_add {a b c : Int32} : 0 < lg_cmp (a.toInt64 + b.toInt64) c.toInt64 ↔ c.toInt < a.toInt + b.toInt := by
  rw [lcmp_gt, Int64.lt_iff_toInt_lt, Int64.toInt_add, Int32.toInt_toInt64, Int32.toInt_toInt64, Int32.toInt_toInt64]
  have h1 := Int32.toInt_lt a
  have h2 := Int32.toInt_lt b
  have h3 := Int32.le_toInt a
  have h4 := Int32.le_toInt b
  rw [Int.bmod_eq_of_le (by omega) (by omega)]
theorem lp_X12_copy1 {μ : Mx} {ω : Om} {d : Nat} (hd : 1 ≤ d) (C : Cx μ ω "TowFieldModel" cX12_copy 7 d) (hr : (mH μ).sig.returnType = some .int) (σ : Sg) {s f0 t o0 m : Nat} (hs : s ≤ 3) (ht : t ≤ 3) (h1 : f0 + m ≤ 24) (h2 : o0 + m ≤ 24) {post : Option Value → AH → Prop} (kk : ∀ τ', (∀ j, j < m → τ' 147 j = σ 146 (24 * s + f0 + j)) → Eqx [147] σ τ' → G μ ω (RQ μ ω post) 162 [some (.ref 135), some (.int (nI s)), some (.int (nI f0)), some (.int (nI t)), some (.int (nI o0)), some (.int (nI m)), some (.int (nI m))] [] (mk τ') 0 0) : ∀ (f i : Nat) (τ : Sg), i + f = m → (∀ j, j < i → τ 147 j = σ 146 (24 * s + f0 + j)) → (Eqx [147] σ τ) → G μ ω (RQ μ ω (post)) 128 [some (.ref 135), some (.int (nI s)), some (.int (nI f0)), some (.int (nI t)), some (.int (nI o0)), some (.int (nI m)), some (.int (nI i))] [] (mk τ) 0 0 := by
  intro f
  induction f with
  | zero =>
    intro i τ hif hv hv1
    have hin : i = m := by omega
    subst hin
    refine g_il6 (pc := 128) C dX12_copy_128 ?_
    refine g_il5 (pc := 130) C dX12_copy_130 ?_
    refine g_icmp_geL (pc := 132) (tgt := 162) C dX12_copy_132 (by decide) (fun c_132 => ?_) (fun c_132 => absurd c_132 (nI_nlt (by omega) (by omega)))
    exact kk τ hv hv1
  | succ f ih =>
    intro i τ hif hv hv1
    refine g_il6 (pc := 128) C dX12_copy_128 ?_
    refine g_il5 (pc := 130) C dX12_copy_130 ?_
    refine g_icmp_geL (pc := 132) (tgt := 162) C dX12_copy_132 (by decide) (fun c_132 => absurd (nI_lt (by omega) (by omega)) c_132) (fun c_132 => ?_)
    refine g_al0n (pc := 135) C dX12_copy_135 ?_
    refine s_getR (pc := 136) C fX12_54 h135 rfl dX12_copy_136 ?_
    refine g_il6 (pc := 139) C dX12_copy_139 ?_
    refine g_al0n (pc := 141) C dX12_copy_141 ?_
    refine s_getR (pc := 142) C fX12_51 h135 rfl dX12_copy_142 ?_
    refine g_bipush (pc := 145) (v := 24) C dX12_copy_145 (by decide) ?_
    refine g_il1n (pc := 147) C dX12_copy_147 ?_
    refine g_imul (pc := 148) C dX12_copy_148 ?_
    refine g_il2n (pc := 149) C dX12_copy_149 ?_
    refine g_iadd (pc := 150) C dX12_copy_150 ?_
    refine g_il6 (pc := 151) C dX12_copy_151 ?_
    refine g_iadd (pc := 153) C dX12_copy_153 ?_
    refine s_iald (pc := 154) (q := 24 * s + f0 + i) C h146 (by first | (simp only [ixl, nI_add, pk_mul]; done) | rfl | decide) (by omega) (Nat.le_of_ble_eq_true rfl) dX12_copy_154 ?_
    refine s_iast (pc := 155) (q := i) C h147 rfl (by omega) (Nat.le_of_ble_eq_true rfl) dX12_copy_155 ?_
    refine g_ii6 (pc := 156) (v := nI (i + 1)) C dX12_copy_156 (nI_inc1 _) ?_
    refine g_goto (pc := 159) (tgt := 128) C dX12_copy_159 (by decide) ?_
    refine ih (i + 1) _ (by omega) (fun j hj => ?_) (hv1.tr (Eqx.up (by decide)))
    rw [up_at, upd_apply]
    by_cases h : j = i
    · rw [if_pos h, h, hv1 146 (by decide)]
    · rw [if_neg h]; exact hv j (by omega)

theorem cpU_s (u v : Nu) (p q i : Nat) (hv : v = cpU u p q i) : upd v (q + i) (u (p + i)) = cpU u p q (i + 1) := by
  subst hv
  funext j
  rw [upd_apply]
  unfold cpU
  by_cases h : j = q + i
  · rw [if_pos h, if_pos (by omega), h]; congr 1; omega
  · rw [if_neg h]
    by_cases h2 : q ≤ j ∧ j < q + i
    · rw [if_pos h2, if_pos (by omega)]
    · rw [if_neg h2, if_neg (by omega)]
theorem cpU_0 (u : Nu) (p q : Nat) : cpU u p q 0 = u := by
  funext j
  exact if_neg (by omega)
theorem lp_X12_copy2 {μ : Mx} {ω : Om} {d : Nat} (hd : 1 ≤ d) (C : Cx μ ω "TowFieldModel" cX12_copy 7 d) (hr : (mH μ).sig.returnType = some .int) (σ : Sg) {s f0 t o0 m : Nat} (hs : s ≤ 3) (ht : t ≤ 3) (h1 : f0 + m ≤ 24) (h2 : o0 + m ≤ 24) (Φ : Int32 → Sg → Prop) (hΦ : ∀ τ', τ' 146 = cpU (σ 146) (24 * s + f0) (24 * t + o0) m → Eqx [146, 147] σ τ' → Φ (nI m) τ') : ∀ (f i : Nat) (τ : Sg), i + f = m → (∀ j, j < m → τ 147 j = σ 146 (24 * s + f0 + j)) → (τ 146 = cpU (σ 146) (24 * s + f0) (24 * t + o0) i) → (Eqx [146, 147] σ τ) → G μ ω (RQ μ ω (pP Φ)) 165 [some (.ref 135), some (.int (nI s)), some (.int (nI f0)), some (.int (nI t)), some (.int (nI o0)), some (.int (nI m)), some (.int (nI i))] [] (mk τ) 0 0 := by
  intro f
  induction f with
  | zero =>
    intro i τ hif hv hv1 hv2
    have hin : i = m := by omega
    subst hin
    refine g_il6 (pc := 165) C dX12_copy_165 ?_
    refine g_il5 (pc := 167) C dX12_copy_167 ?_
    refine g_icmp_geL (pc := 169) (tgt := 200) C dX12_copy_169 (by decide) (fun c_169 => ?_) (fun c_169 => absurd c_169 (nI_nlt (by omega) (by omega)))
    refine g_il5 (pc := 200) C dX12_copy_200 ?_
    exact r_P C hr dX12_copy_202 (hΦ τ hv1 hv2)
  | succ f ih =>
    intro i τ hif hv hv1 hv2
    refine g_il6 (pc := 165) C dX12_copy_165 ?_
    refine g_il5 (pc := 167) C dX12_copy_167 ?_
    refine g_icmp_geL (pc := 169) (tgt := 200) C dX12_copy_169 (by decide) (fun c_169 => absurd (nI_lt (by omega) (by omega)) c_169) (fun c_169 => ?_)
    refine g_al0n (pc := 172) C dX12_copy_172 ?_
    refine s_getR (pc := 173) C fX12_51 h135 rfl dX12_copy_173 ?_
    refine g_bipush (pc := 176) (v := 24) C dX12_copy_176 (by decide) ?_
    refine g_il3n (pc := 178) C dX12_copy_178 ?_
    refine g_imul (pc := 179) C dX12_copy_179 ?_
    refine g_il4 (pc := 180) C dX12_copy_180 ?_
    refine g_iadd (pc := 182) C dX12_copy_182 ?_
    refine g_il6 (pc := 183) C dX12_copy_183 ?_
    refine g_iadd (pc := 185) C dX12_copy_185 ?_
    refine g_al0n (pc := 186) C dX12_copy_186 ?_
    refine s_getR (pc := 187) C fX12_54 h135 rfl dX12_copy_187 ?_
    refine g_il6 (pc := 190) C dX12_copy_190 ?_
    refine s_iald (pc := 192) (q := i) C h147 rfl (by omega) (Nat.le_of_ble_eq_true rfl) dX12_copy_192 ?_
    refine s_iast (pc := 193) (q := 24 * t + o0 + i) C h146 (by first | (simp only [ixl, nI_add, pk_mul]; done) | rfl | decide) (by omega) (Nat.le_of_ble_eq_true rfl) dX12_copy_193 ?_
    refine g_ii6 (pc := 194) (v := nI (i + 1)) C dX12_copy_194 (nI_inc1 _) ?_
    refine g_goto (pc := 197) (tgt := 165) C dX12_copy_197 (by decide) ?_
    refine ih (i + 1) _ (by omega) (fun j hj => by rw [up_ne _ _ _ (by decide)]; exact hv j hj) ?_ (hv2.tr (Eqx.up (by decide)))
    rw [up_at, hv i (by omega)]
    exact cpU_s _ _ _ _ _ hv1

theorem toN {x : Int32} (h : 0 ≤ x.toInt) : ∃ k : Nat, k < 2 ^ 31 ∧ x = nI k ∧ x.toInt = k := by
  obtain ⟨k, hk, rfl⟩ := nI_of (x := x) (by rw [Int32.lt_iff_toInt_lt]; have : (0 : Int32).toInt = 0 := rfl; omega)
  exact ⟨k, hk, rfl, nI_toInt hk⟩
theorem nlt0 {x : Int32} : ¬ x < 0 ↔ 0 ≤ x.toInt := by
  rw [Int32.lt_iff_toInt_lt]; have : (0 : Int32).toInt = 0 := rfl; omega
theorem y_copy_162 {μ : Mx} {ω : Om} {d : Nat} (hd : 1 ≤ d) (C : Cx μ ω "TowFieldModel" cX12_copy 7 d) (hr : (mH μ).sig.returnType = some .int) (σ τ : Sg) {s f0 t o0 m : Nat} (hs : s ≤ 3) (ht : t ≤ 3) (h1 : f0 + m ≤ 24) (h2 : o0 + m ≤ 24) (Φ : Int32 → Sg → Prop) (hΦ : ∀ τ', τ' 146 = cpU (σ 146) (24 * s + f0) (24 * t + o0) m → Eqx [146, 147] σ τ' → Φ (nI m) τ') (hv : ∀ j, j < m → τ 147 j = σ 146 (24 * s + f0 + j)) (hE : Eqx [147] σ τ) : G μ ω (RQ μ ω (pP Φ)) 162 [some (.ref 135), some (.int (nI s)), some (.int (nI f0)), some (.int (nI t)), some (.int (nI o0)), some (.int (nI m)), some (.int (nI m))] [] (mk τ) 0 0 := by
  refine g_iconst (pc := 162) (v := 0) C dX12_copy_162 (by decide) ?_
  refine g_is6 (pc := 163) C dX12_copy_163 ?_
  exact lp_X12_copy2 hd C hr σ hs ht h1 h2 Φ hΦ m 0 τ (by omega) hv (by rw [cpU_0, hE 146 (by decide)]) (fun k hk => hE k (by simp at hk ⊢; omega))

theorem m_copy {d : Nat} (hd : 3 ≤ d) (σ : Sg) (hZ : ∀ s, s < 4 → ∃ n, n ≤ 24 ∧ σ 145 s = nI n) (s f t o n : Int32) : CP d mX12_copy [.ref 135, .int s, .int f, .int t, .int o, .int n] σ (MPo σ (sp_copy (mv σ) s f t o n)) := by
  refine con_of (by decide) (catL rfl) (Nat.le_of_ble_eq_true rfl) ?_
  intro μ ω C hr
  have C : Cx μ ω "TowFieldModel" cX12_copy 7 d := C
  have hr : (mH μ).sig.returnType = some .int := hr
  show G μ ω (RQ μ ω (pP (MPo σ (sp_copy (mv σ) s f t o n)))) 0 [some (.ref 135), some (.int s), some (.int f), some (.int t), some (.int o), some (.int n), none] [] (mk σ) 0 0
  refine g_il1n (pc := 0) C dX12_copy_0 ?_
  refine s_SB (pc := 1) (st := []) C (c_X12_isSheet (d := d - 1) (by omega) σ s) (by omega) lX12_296 dX12_copy_1 rfl (Nat.le_of_ble_eq_true rfl) rfl (fun b_1 => ?_) (fun b_1 => ?_)
  · obtain ⟨j, hj, rfl⟩ := rg b_1 (B := 3) (by decide)
    have kj : (nI j).toNatClampNeg = j := nI_clamp (by omega)
    refine g_if_eq (pc := 4) (tgt := 14) C dX12_copy_4 (by decide) (fun c => absurd c (by decide)) (fun _ => ?_)
    refine g_il3n (pc := 7) C dX12_copy_7 ?_
    refine s_SB (pc := 8) (st := []) C (c_X12_isSheet (d := d - 1) (by omega) σ t) (by omega) lX12_296 dX12_copy_8 rfl (Nat.le_of_ble_eq_true rfl) rfl (fun b_8 => ?_) (fun b_8 => ?_)
    · obtain ⟨q, hq, rfl⟩ := rg b_8 (B := 3) (by decide)
      have kq : (nI q).toNatClampNeg = q := nI_clamp (by omega)
      refine g_if_ne (pc := 11) (tgt := 21) C dX12_copy_11 (by decide) (fun _ => ?_) (fun c => absurd c (by decide))
      refine g_al0n (pc := 21) C dX12_copy_21 ?_
      refine s_getR (pc := 22) C fX12_45 h135 rfl dX12_copy_22 ?_
      refine g_il1n (pc := 25) C dX12_copy_25 ?_
      refine s_iald (pc := 26) (q := j) C h144 rfl (by omega) (Nat.le_of_ble_eq_true rfl) dX12_copy_26 ?_
      refine g_if_eq (pc := 27) (tgt := 39) C dX12_copy_27 (by decide) (fun c_27 => ?_) (fun c_27 => ?_)
      · refine g_al0n (pc := 39) C dX12_copy_39 ?_
        refine g_ldcw (pc := 40) C dX12_copy_40 kX12_299 ?_
        refine s_VI (pc := 43) (st := []) C h135 rfl (c_X12_finding (d := d - 1) (by omega) σ (i := 5) (by decide) (w := ((-1000006))) (by decide)) (by omega) lX12_62 dX12_copy_43 rfl (Nat.le_of_ble_eq_true rfl) rfl ?_
        have e : sp_copy (mv σ) (nI j) f (nI q) o n = FM (mv σ) := by
          unfold sp_copy
          rw [if_neg (not_not_intro ⟨b_1, b_8⟩), kj, kq, if_pos (show aW (mv σ) j = 0 ∨ aW (mv σ) q = 0 from Or.inl c_27)]
        rw [e]
        exact r_P C hr dX12_copy_46 ⟨rfl, rfl, frU (by decide) (fun _ _ => rfl), mtU (by decide) id⟩
      · refine g_al0n (pc := 30) C dX12_copy_30 ?_
        refine s_getR (pc := 31) C fX12_45 h135 rfl dX12_copy_31 ?_
        refine g_il3n (pc := 34) C dX12_copy_34 ?_
        refine s_iald (pc := 35) (q := q) C h144 rfl (by omega) (Nat.le_of_ble_eq_true rfl) dX12_copy_35 ?_
        refine g_if_ne (pc := 36) (tgt := 47) C dX12_copy_36 (by decide) (fun c_36 => ?_) (fun c_36 => ?_)
        · refine g_al0n (pc := 47) C dX12_copy_47 ?_
          refine s_getR (pc := 48) C fX12_45 h135 rfl dX12_copy_48 ?_
          refine g_il1n (pc := 51) C dX12_copy_51 ?_
          refine s_iald (pc := 52) (q := j) C h144 rfl (by omega) (Nat.le_of_ble_eq_true rfl) dX12_copy_52 ?_
          refine g_al0n (pc := 53) C dX12_copy_53 ?_
          refine s_getR (pc := 54) C fX12_45 h135 rfl dX12_copy_54 ?_
          refine g_il3n (pc := 57) C dX12_copy_57 ?_
          refine s_iald (pc := 58) (q := q) C h144 rfl (by omega) (Nat.le_of_ble_eq_true rfl) dX12_copy_58 ?_
          refine g_icmp_eq (pc := 59) (tgt := 69) C dX12_copy_59 (by decide) (fun c_59 => ?_) (fun c_59 => ?_)
          · refine g_il2n (pc := 69) C dX12_copy_69 ?_
            refine g_if_lt (pc := 70) (tgt := 118) C dX12_copy_70 (by decide) (fun c_70 => ?_) (fun c_70 => ?_)
            · refine g_al0n (pc := 118) C dX12_copy_118 ?_
              refine g_ldc (pc := 119) C dX12_copy_119 kX12_57 ?_
              refine s_VI (pc := 121) (st := []) C h135 rfl (c_X12_finding (d := d - 1) (by omega) σ (i := 0) (by decide) (w := ((-1000001))) (by decide)) (by omega) lX12_62 dX12_copy_121 rfl (Nat.le_of_ble_eq_true rfl) rfl ?_
              have e : sp_copy (mv σ) (nI j) f (nI q) o n = FB (mv σ) := by
                unfold sp_copy
                rw [if_neg (not_not_intro ⟨b_1, b_8⟩), kj, kq, if_neg (fun z : aW (mv σ) j = 0 ∨ aW (mv σ) q = 0 => z.elim c_27 c_36), if_neg (not_not_intro (show aW (mv σ) j = aW (mv σ) q from c_59)), if_pos (fun z : 0 ≤ f.toInt ∧ 0 ≤ o.toInt ∧ 0 ≤ n.toInt ∧ f.toInt + n.toInt ≤ (aZ (mv σ) j).toInt ∧ o.toInt + n.toInt ≤ (aZ (mv σ) q).toInt => nlt0.mpr z.1 c_70)]
              rw [e]
              exact r_P C hr dX12_copy_124 ⟨rfl, rfl, frU (by decide) (fun _ _ => rfl), mtU (by decide) id⟩
            · refine g_il4 (pc := 73) C dX12_copy_73 ?_
              refine g_if_lt (pc := 75) (tgt := 118) C dX12_copy_75 (by decide) (fun c_75 => ?_) (fun c_75 => ?_)
              · refine g_al0n (pc := 118) C dX12_copy_118 ?_
                refine g_ldc (pc := 119) C dX12_copy_119 kX12_57 ?_
                refine s_VI (pc := 121) (st := []) C h135 rfl (c_X12_finding (d := d - 1) (by omega) σ (i := 0) (by decide) (w := ((-1000001))) (by decide)) (by omega) lX12_62 dX12_copy_121 rfl (Nat.le_of_ble_eq_true rfl) rfl ?_
                have e : sp_copy (mv σ) (nI j) f (nI q) o n = FB (mv σ) := by
                  unfold sp_copy
                  rw [if_neg (not_not_intro ⟨b_1, b_8⟩), kj, kq, if_neg (fun z : aW (mv σ) j = 0 ∨ aW (mv σ) q = 0 => z.elim c_27 c_36), if_neg (not_not_intro (show aW (mv σ) j = aW (mv σ) q from c_59)), if_pos (fun z : 0 ≤ f.toInt ∧ 0 ≤ o.toInt ∧ 0 ≤ n.toInt ∧ f.toInt + n.toInt ≤ (aZ (mv σ) j).toInt ∧ o.toInt + n.toInt ≤ (aZ (mv σ) q).toInt => nlt0.mpr z.2.1 c_75)]
                rw [e]
                exact r_P C hr dX12_copy_124 ⟨rfl, rfl, frU (by decide) (fun _ _ => rfl), mtU (by decide) id⟩
              · refine g_il5 (pc := 78) C dX12_copy_78 ?_
                refine g_if_lt (pc := 80) (tgt := 118) C dX12_copy_80 (by decide) (fun c_80 => ?_) (fun c_80 => ?_)
                · refine g_al0n (pc := 118) C dX12_copy_118 ?_
                  refine g_ldc (pc := 119) C dX12_copy_119 kX12_57 ?_
                  refine s_VI (pc := 121) (st := []) C h135 rfl (c_X12_finding (d := d - 1) (by omega) σ (i := 0) (by decide) (w := ((-1000001))) (by decide)) (by omega) lX12_62 dX12_copy_121 rfl (Nat.le_of_ble_eq_true rfl) rfl ?_
                  have e : sp_copy (mv σ) (nI j) f (nI q) o n = FB (mv σ) := by
                    unfold sp_copy
                    rw [if_neg (not_not_intro ⟨b_1, b_8⟩), kj, kq, if_neg (fun z : aW (mv σ) j = 0 ∨ aW (mv σ) q = 0 => z.elim c_27 c_36), if_neg (not_not_intro (show aW (mv σ) j = aW (mv σ) q from c_59)), if_pos (fun z : 0 ≤ f.toInt ∧ 0 ≤ o.toInt ∧ 0 ≤ n.toInt ∧ f.toInt + n.toInt ≤ (aZ (mv σ) j).toInt ∧ o.toInt + n.toInt ≤ (aZ (mv σ) q).toInt => nlt0.mpr z.2.2.1 c_80)]
                  rw [e]
                  exact r_P C hr dX12_copy_124 ⟨rfl, rfl, frU (by decide) (fun _ _ => rfl), mtU (by decide) id⟩
                · refine g_il2n (pc := 83) C dX12_copy_83 ?_
                  refine g_i2l (pc := 84) C dX12_copy_84 ?_
                  refine g_il5 (pc := 85) C dX12_copy_85 ?_
                  refine g_i2l (pc := 87) C dX12_copy_87 ?_
                  refine g_ladd (pc := 88) C dX12_copy_88 ?_
                  refine g_al0n (pc := 89) C dX12_copy_89 ?_
                  refine s_getR (pc := 90) C fX12_48 h135 rfl dX12_copy_90 ?_
                  refine g_il1n (pc := 93) C dX12_copy_93 ?_
                  refine s_iald (pc := 94) (q := j) C h145 rfl (by omega) (Nat.le_of_ble_eq_true rfl) dX12_copy_94 ?_
                  refine g_i2l (pc := 95) C dX12_copy_95 ?_
                  refine g_lcmp (pc := 96) C dX12_copy_96 ?_
                  refine g_if_gt (pc := 97) (tgt := 118) C dX12_copy_97 (by decide) (fun c_97 => ?_) (fun c_97 => ?_)
                  · refine g_al0n (pc := 118) C dX12_copy_118 ?_
                    refine g_ldc (pc := 119) C dX12_copy_119 kX12_57 ?_
                    refine s_VI (pc := 121) (st := []) C h135 rfl (c_X12_finding (d := d - 1) (by omega) σ (i := 0) (by decide) (w := ((-1000001))) (by decide)) (by omega) lX12_62 dX12_copy_121 rfl (Nat.le_of_ble_eq_true rfl) rfl ?_
                    have e : sp_copy (mv σ) (nI j) f (nI q) o n = FB (mv σ) := by
                      unfold sp_copy
                      rw [if_neg (not_not_intro ⟨b_1, b_8⟩), kj, kq, if_neg (fun z : aW (mv σ) j = 0 ∨ aW (mv σ) q = 0 => z.elim c_27 c_36), if_neg (not_not_intro (show aW (mv σ) j = aW (mv σ) q from c_59)), if_pos (fun z : 0 ≤ f.toInt ∧ 0 ≤ o.toInt ∧ 0 ≤ n.toInt ∧ f.toInt + n.toInt ≤ (aZ (mv σ) j).toInt ∧ o.toInt + n.toInt ≤ (aZ (mv σ) q).toInt => Int.not_lt.mpr z.2.2.2.1 (l_add.mp c_97))]
                    rw [e]
                    exact r_P C hr dX12_copy_124 ⟨rfl, rfl, frU (by decide) (fun _ _ => rfl), mtU (by decide) id⟩
                  · refine g_il4 (pc := 100) C dX12_copy_100 ?_
                    refine g_i2l (pc := 102) C dX12_copy_102 ?_
                    refine g_il5 (pc := 103) C dX12_copy_103 ?_
                    refine g_i2l (pc := 105) C dX12_copy_105 ?_
                    refine g_ladd (pc := 106) C dX12_copy_106 ?_
                    refine g_al0n (pc := 107) C dX12_copy_107 ?_
                    refine s_getR (pc := 108) C fX12_48 h135 rfl dX12_copy_108 ?_
                    refine g_il3n (pc := 111) C dX12_copy_111 ?_
                    refine s_iald (pc := 112) (q := q) C h145 rfl (by omega) (Nat.le_of_ble_eq_true rfl) dX12_copy_112 ?_
                    refine g_i2l (pc := 113) C dX12_copy_113 ?_
                    refine g_lcmp (pc := 114) C dX12_copy_114 ?_
                    refine g_if_leL (pc := 115) (tgt := 125) C dX12_copy_115 (by decide) (fun c_115 => ?_) (fun c_115 => ?_)
                    · rw [l_add] at c_97 c_115
                      obtain ⟨zs, hzs, ezs⟩ := hZ j (by omega)
                      obtain ⟨zt, hzt, ezt⟩ := hZ q (by omega)
                      have e : sp_copy (mv σ) (nI j) f (nI q) o n = (n, sW (mv σ) (aW (mv σ)) (aZ (mv σ)) (cpU (aU (mv σ)) (24 * j + f.toNatClampNeg) (24 * q + o.toNatClampNeg) n.toNatClampNeg)) := by
                        unfold sp_copy
                        rw [if_neg (not_not_intro ⟨b_1, b_8⟩), kj, kq, if_neg (fun z : aW (mv σ) j = 0 ∨ aW (mv σ) q = 0 => z.elim c_27 c_36), if_neg (not_not_intro (show aW (mv σ) j = aW (mv σ) q from c_59)), if_neg (not_not_intro (show 0 ≤ f.toInt ∧ 0 ≤ o.toInt ∧ 0 ≤ n.toInt ∧ f.toInt + n.toInt ≤ (aZ (mv σ) j).toInt ∧ o.toInt + n.toInt ≤ (aZ (mv σ) q).toInt from ⟨nlt0.mp c_70, nlt0.mp c_75, nlt0.mp c_80, Int.not_lt.mp c_97, Int.not_lt.mp c_115⟩))]
                      rw [e]
                      obtain ⟨f0, hf0, rfl, ef⟩ := toN (nlt0.mp c_70)
                      obtain ⟨o0, ho0, rfl, eo⟩ := toN (nlt0.mp c_75)
                      obtain ⟨m, hm, rfl, em⟩ := toN (nlt0.mp c_80)
                      rw [ezs, nI_toInt (by omega), ef, em] at c_97
                      rw [ezt, nI_toInt (by omega), eo, em] at c_115
                      rw [nI_clamp hf0, nI_clamp ho0, nI_clamp hm]
                      refine g_iconst (pc := 125) (v := 0) C dX12_copy_125 (by decide) ?_
                      refine g_is6 (pc := 126) C dX12_copy_126 ?_
                      refine lp_X12_copy1 (by omega) C hr σ hj hq (f0 := f0) (o0 := o0) (m := m) (by omega) (by omega) (fun τ' q1 q2 => ?_) m 0 σ (by omega) (fun j hj => absurd hj (by omega)) Eqx.rf
                      refine y_copy_162 (by omega) C hr σ τ' hj hq (by omega) (by omega) _ (fun t3 r1 r2 => ⟨rfl, ?_, frE r2 (fun k hk => by simp; omega), mtE r2 (by decide)⟩) q1 q2
                      unfold mv sW
                      rw [r1, r2 136 (by decide), r2 137 (by decide), r2 135 (by decide), r2 139 (by decide), r2 140 (by decide), r2 144 (by decide), r2 145 (by decide)]
                    · refine g_al0n (pc := 118) C dX12_copy_118 ?_
                      refine g_ldc (pc := 119) C dX12_copy_119 kX12_57 ?_
                      refine s_VI (pc := 121) (st := []) C h135 rfl (c_X12_finding (d := d - 1) (by omega) σ (i := 0) (by decide) (w := ((-1000001))) (by decide)) (by omega) lX12_62 dX12_copy_121 rfl (Nat.le_of_ble_eq_true rfl) rfl ?_
                      have e : sp_copy (mv σ) (nI j) f (nI q) o n = FB (mv σ) := by
                        unfold sp_copy
                        rw [if_neg (not_not_intro ⟨b_1, b_8⟩), kj, kq, if_neg (fun z : aW (mv σ) j = 0 ∨ aW (mv σ) q = 0 => z.elim c_27 c_36), if_neg (not_not_intro (show aW (mv σ) j = aW (mv σ) q from c_59)), if_pos (fun z : 0 ≤ f.toInt ∧ 0 ≤ o.toInt ∧ 0 ≤ n.toInt ∧ f.toInt + n.toInt ≤ (aZ (mv σ) j).toInt ∧ o.toInt + n.toInt ≤ (aZ (mv σ) q).toInt => Int.not_lt.mpr z.2.2.2.2 (l_add.mp c_115))]
                      rw [e]
                      exact r_P C hr dX12_copy_124 ⟨rfl, rfl, frU (by decide) (fun _ _ => rfl), mtU (by decide) id⟩
          · refine g_al0n (pc := 62) C dX12_copy_62 ?_
            refine g_ldc (pc := 63) C dX12_copy_63 kX12_126 ?_
            refine s_VI (pc := 65) (st := []) C h135 rfl (c_X12_finding (d := d - 1) (by omega) σ (i := 2) (by decide) (w := ((-1000003))) (by decide)) (by omega) lX12_62 dX12_copy_65 rfl (Nat.le_of_ble_eq_true rfl) rfl ?_
            have e : sp_copy (mv σ) (nI j) f (nI q) o n = FK (mv σ) := by
              unfold sp_copy
              rw [if_neg (not_not_intro ⟨b_1, b_8⟩), kj, kq, if_neg (fun z : aW (mv σ) j = 0 ∨ aW (mv σ) q = 0 => z.elim c_27 c_36), if_pos (show ¬ aW (mv σ) j = aW (mv σ) q from c_59)]
            rw [e]
            exact r_P C hr dX12_copy_68 ⟨rfl, rfl, frU (by decide) (fun _ _ => rfl), mtU (by decide) id⟩
        · refine g_al0n (pc := 39) C dX12_copy_39 ?_
          refine g_ldcw (pc := 40) C dX12_copy_40 kX12_299 ?_
          refine s_VI (pc := 43) (st := []) C h135 rfl (c_X12_finding (d := d - 1) (by omega) σ (i := 5) (by decide) (w := ((-1000006))) (by decide)) (by omega) lX12_62 dX12_copy_43 rfl (Nat.le_of_ble_eq_true rfl) rfl ?_
          have e : sp_copy (mv σ) (nI j) f (nI q) o n = FM (mv σ) := by
            unfold sp_copy
            rw [if_neg (not_not_intro ⟨b_1, b_8⟩), kj, kq, if_pos (show aW (mv σ) j = 0 ∨ aW (mv σ) q = 0 from Or.inr c_36)]
          rw [e]
          exact r_P C hr dX12_copy_46 ⟨rfl, rfl, frU (by decide) (fun _ _ => rfl), mtU (by decide) id⟩
    · refine g_if_ne (pc := 11) (tgt := 21) C dX12_copy_11 (by decide) (fun c => absurd c (by decide)) (fun _ => ?_)
      refine g_al0n (pc := 14) C dX12_copy_14 ?_
      refine g_ldc (pc := 15) C dX12_copy_15 kX12_57 ?_
      refine s_VI (pc := 17) (st := []) C h135 rfl (c_X12_finding (d := d - 1) (by omega) σ (i := 0) (by decide) (w := ((-1000001))) (by decide)) (by omega) lX12_62 dX12_copy_17 rfl (Nat.le_of_ble_eq_true rfl) rfl ?_
      have e : sp_copy (mv σ) (nI j) f t o n = FB (mv σ) := by
        unfold sp_copy
        rw [if_pos (fun q => b_8 q.2)]
      rw [e]
      exact r_P C hr dX12_copy_20 ⟨rfl, rfl, frU (by decide) (fun _ _ => rfl), mtU (by decide) id⟩
  · refine g_if_eq (pc := 4) (tgt := 14) C dX12_copy_4 (by decide) (fun _ => ?_) (fun c => absurd c (by decide))
    refine g_al0n (pc := 14) C dX12_copy_14 ?_
    refine g_ldc (pc := 15) C dX12_copy_15 kX12_57 ?_
    refine s_VI (pc := 17) (st := []) C h135 rfl (c_X12_finding (d := d - 1) (by omega) σ (i := 0) (by decide) (w := ((-1000001))) (by decide)) (by omega) lX12_62 dX12_copy_17 rfl (Nat.le_of_ble_eq_true rfl) rfl ?_
    have e : sp_copy (mv σ) s f t o n = FB (mv σ) := by
      unfold sp_copy
      rw [if_pos (fun q => b_1 q.1)]
    rw [e]
    exact r_P C hr dX12_copy_20 ⟨rfl, rfl, frU (by decide) (fun _ _ => rfl), mtU (by decide) id⟩

