/-! ===== the class: sheets, tape, counts, shares ===== -/
theorem sh24 {j : Nat} (hj : j < 4) : SH[127 + j]? = some (.inl 24) := by
  rcases (show j = 0 ∨ j = 1 ∨ j = 2 ∨ j = 3 by omega) with rfl | rfl | rfl | rfl
  · exact h127
  · exact h128
  · exact h129
  · exact h130
theorem rows4 : ∀ j, j < 4 → [127, 128, 129, 130][j]? = some (127 + j) := by decide
section SHE
variable {σ τ : Sg} {α : Al}
theorem RC_sheet (hA : IA α) (hC : RC σ α) {w z u : Nu} (hq : ∀ k, ¬ (124 ≤ k ∧ k ≤ 130) → τ k = σ k) (hs : ∀ s, s < 4 → τ 124 s = w s ∧ τ 125 s = z s ∧ ∀ i, i < (z s).toNatClampNeg → τ (127 + s) i = u (24 * s + i)) : RC τ (sW α w z u) := by
  obtain ⟨h1, h2, h3, h4, h5, h6⟩ := id hC
  have hkw := hC.kw (τ := τ) hA (fun k a b => hq _ (by omega)) (fun k a b => hq _ (by omega))
  have hkk := hC.kk (τ := τ) hA (fun k a b => hq _ (by omega)) (fun k a b => hq _ (by omega))
  exact ⟨hkw, hkk, by rw [hq 0 (by omega)]; exact h3, by rw [hq 134 (by omega)]; exact h4, by rw [hq 131 (by omega), hq 132 (by omega)]; exact h5, hs⟩
theorem RC_tape (hA : IA α) (hC : RC σ α) {T : Nu} {x : Int32} (hq : ∀ k, ¬ (131 ≤ k ∧ k ≤ 133) → τ k = σ k) (h2 : τ 131 2 = x) (hb : τ 132 = T) : RC τ (α.1, α.2.1, α.2.2.1, α.2.2.2.1, T, x, α.2.2.2.2.2.2) := by
  obtain ⟨h1, h2', h3, h4, h5, h6⟩ := id hC
  have hkw := hC.kw (τ := τ) hA (fun k a b => hq _ (by omega)) (fun k a b => hq _ (by omega))
  have hkk := hC.kk (τ := τ) hA (fun k a b => hq _ (by omega)) (fun k a b => hq _ (by omega))
  exact ⟨hkw, hkk, by rw [hq 0 (by omega)]; exact h3, by rw [hq 134 (by omega)]; exact h4, ⟨h2, hb⟩, fun s hs => by rw [hq 124 (by omega), hq 125 (by omega), hq (127 + s) (by omega)]; exact h6 s hs⟩
theorem RC.w0 (hC : RC σ α) {s : Nat} (hs : s < 4) : σ 124 s = aW α s := (hC.2.2.2.2.2 s hs).1
theorem RC.z0 (hC : RC σ α) {s : Nat} (hs : s < 4) : σ 125 s = aZ α s := (hC.2.2.2.2.2 s hs).2.1
theorem RC.u0 (hC : RC σ α) {s i : Nat} (hs : s < 4) (hi : i < (aZ α s).toNatClampNeg) : σ (127 + s) i = aU α (24 * s + i) := (hC.2.2.2.2.2 s hs).2.2 i hi
theorem XPo_write (hA : IA α) (hC : RC σ α) {j i z : Nat} (hj : j < 4) (hz : aZ α j = nI z) (hz2 : z ≤ 24) (hi : i < z) (x : Int32) {q : Int32 × Al} (hq : q = (1, sW α (aW α) (aZ α) (upd (aU α) (24 * j + i) x))) : XPo σ q 1 (up σ (127 + j) i x) := by
  subst hq
  refine ⟨rfl, RC_sheet hA hC (fun k hk => up_ne _ _ _ (by omega)) (fun s hs => ⟨by rw [up_ne _ _ _ (by omega)]; exact hC.w0 hs, by rw [up_ne _ _ _ (by omega)]; exact hC.z0 hs, fun k hk => ?_⟩), fun k hk => up_ne _ _ _ (by omega)⟩
  obtain ⟨zs, hzs, es⟩ := hA.z s hs
  have hk2 := hk
  rw [es, nI_clamp (by omega)] at hk2
  by_cases e : s = j
  · subst e
    rw [up_at]
    by_cases c : k = i
    · subst c; rw [upd_at, upd_at]
    · rw [upd_ne _ _ c, upd_ne _ _ (by omega)]; exact hC.u0 hs hk
  · rw [up_ne _ _ _ (by omega), upd_ne _ _ (by omega)]; exact hC.u0 hs hk
/-- a sheet laid -/
def LAY (σ : Sg) (j : Nat) (b : Int32) (k i : Nat) (τ : Sg) : Prop := τ 124 = upd (σ 124) j b ∧ τ 125 = upd (σ 125) j (nI k) ∧ (∀ x, x < i → τ (127 + j) x = 0) ∧ ∀ q, q ≠ 124 → q ≠ 125 → q ≠ 127 + j → τ q = σ q
theorem LAY_s {j k i : Nat} {b : Int32} (h : LAY σ j b k i τ) : LAY σ j b k (i + 1) (up τ (127 + j) i 0) := by
  obtain ⟨a, b2, c, d⟩ := h
  refine ⟨by rw [up_ne _ _ _ (by omega)]; exact a, by rw [up_ne _ _ _ (by omega)]; exact b2, fun x hx => ?_, fun q h1 h2 h3 => by rw [up_ne _ _ _ h3]; exact d q h1 h2 h3⟩
  rw [up_at]
  by_cases e : x = i
  · subst e; rw [upd_at]
  · rw [upd_ne _ _ e]; exact c x (by omega)
theorem XPo_lay (hA : IA α) (hC : RC σ α) {j k : Nat} {b v : Int32} (hj : j < 4) (hk : k ≤ 24) (h : LAY σ j b k k τ) (hv : v = nI k) {q : Int32 × Al} (hq : q = (nI k, sW α (upd (aW α) j b) (upd (aZ α) j (nI k)) (zrU (aU α) j 24))) : XPo σ q v τ := by
  subst hq
  obtain ⟨a, b2, c, d⟩ := h
  refine ⟨hv, RC_sheet hA hC (fun q hq => d q (by omega) (by omega) (by omega)) (fun s hs => ⟨?_, ?_, fun i hi => ?_⟩), fun q hq => d q (by omega) (by omega) (by omega)⟩
  · rw [a]
    by_cases e : s = j
    · subst e; rw [upd_at, upd_at]
    · rw [upd_ne _ _ e, upd_ne _ _ e]; exact hC.w0 hs
  · rw [b2]
    by_cases e : s = j
    · subst e; rw [upd_at, upd_at]
    · rw [upd_ne _ _ e, upd_ne _ _ e]; exact hC.z0 hs
  · unfold zrU
    by_cases e : s = j
    · subst e
      rw [upd_at, nI_clamp (by omega)] at hi
      rw [c i hi, if_pos (by omega)]
    · rw [upd_ne _ _ e] at hi
      obtain ⟨zs, hzs, es⟩ := hA.z s hs
      have hi2 := hi
      rw [es, nI_clamp (by omega)] at hi2
      rw [d _ (by omega) (by omega) (by omega), if_neg (by omega)]; exact hC.u0 hs hi
theorem part_iff {f n : Int32} {z : Nat} (hz : z ≤ 24) : (¬ f < 0 ∧ ¬ n < 0 ∧ ¬ nI z < n ∧ ¬ nI z - n < f) ↔ (0 ≤ f.toInt ∧ 0 ≤ n.toInt ∧ f.toInt + n.toInt ≤ (nI z).toInt) := by
  constructor
  · rintro ⟨h1, h2, h3, h4⟩
    obtain ⟨k, hk, rfl⟩ := nI_of h2
    obtain ⟨j, hj, rfl⟩ := nI_of h1
    have a := (nI_leI hk (by omega)).mp (Int32.not_lt.mp h3)
    rw [pk_sub a] at h4
    have b := (nI_leI hj (by omega)).mp (Int32.not_lt.mp h4)
    rw [nI_toInt hk, nI_toInt hj, nI_toInt (by omega)]
    omega
  · rintro ⟨h1, h2, h3⟩
    obtain ⟨j, hj, rfl, e1⟩ := toN h1
    obtain ⟨k, hk, rfl, e2⟩ := toN h2
    rw [nI_toInt hk, nI_toInt hj, nI_toInt (by omega)] at h3
    refine ⟨nI_pos hj, nI_pos hk, nI_nlt (by omega) (by omega), ?_⟩
    rw [pk_sub (by omega)]
    exact nI_nlt (by omega) (by omega)
theorem XPo_copy (hA : IA α) (hC : RC σ α) {s t f p m zs zt : Nat} (hs : s < 4) (ht : t < 4) (es : aZ α s = nI zs) (et : aZ α t = nI zt) (hzs : zs ≤ 24) (hzt : zt ≤ 24) (h1 : f + m ≤ zs) (h2 : p + m ≤ zt) {v : Int32} (hv : v = nI m) {q : Int32 × Al} (hq : q = (nI m, sW α (aW α) (aZ α) (cpU (aU α) (24 * s + f) (24 * t + p) m))) : XPo σ q v (sup σ (127 + t) (va_cpy (σ (127 + s)) (σ (127 + t)) f p m)) := by
  subst hq
  refine ⟨hv, RC_sheet hA hC (fun k hk => by rw [sup_apply, if_neg (by omega)]) (fun c hc => ⟨by rw [sup_apply, if_neg (by omega)]; exact hC.w0 hc, by rw [sup_apply, if_neg (by omega)]; exact hC.z0 hc, fun i hi => ?_⟩), fun k hk => by rw [sup_apply, if_neg (by omega)]⟩
  obtain ⟨zc, hzc, ec⟩ := hA.z c hc
  have hi2 := hi
  rw [ec, nI_clamp (by omega)] at hi2
  unfold cpU
  rw [sup_apply]
  by_cases e : c = t
  · subst e
    rw [if_pos rfl]
    by_cases d : p ≤ i ∧ i < p + m
    · rw [pk_cpy_in d.1 d.2, if_pos (by omega)]
      rw [hC.u0 hs (by rw [es, nI_clamp (by omega)]; omega)]
      congr 1; omega
    · rw [pk_cpy_out (by omega), if_neg (by omega)]; exact hC.u0 hc hi
  · rw [if_neg (by omega), if_neg (by omega)]; exact hC.u0 hc hi
theorem fdT_cg {X Y : Nu} {b : Int32} : ∀ (n s : Nat) (X Y : Nu), (∀ i, i < s → X i = Y i) → ∀ i, i < s + n → fdT X s b n i = fdT Y s b n i := by
  intro n
  induction n with
  | zero => intro s X Y h i hi; exact h i (by omega)
  | succ n ih =>
    intro s X Y h i hi
    show fdT (upd X s _) (s + 1) b n i = fdT (upd Y s _) (s + 1) b n i
    refine ih (s + 1) _ _ (fun j hj => ?_) i (by omega)
    by_cases e : j = s
    · subst e; rw [upd_at, upd_at]
    · rw [upd_ne _ _ e, upd_ne _ _ e]; exact h j (by omega)
theorem shr_keep (ν : Nu) (o s m : Int32) : ∀ n, n ≤ 14 → ∀ j, (j < 90 ∨ 146 ≤ j) → (shr ν o s m n).1 j = ν j := by
  intro n
  induction n with
  | zero => intro _ j _; rfl
  | succ n ih =>
    intro hn j hj
    show (if hb o (nI n) = true then (upd (shr ν o s m n).1 (90 + 4 * n + 3) _, _) else shr ν o s m n).1 j = ν j
    split
    · show upd (shr ν o s m n).1 (90 + 4 * n + 3) _ j = ν j
      rw [upd_ne _ _ (by omega)]; exact ih (by omega) j hj
    · exact ih (by omega) j hj
theorem shr_s (ν : Nu) (o s m : Int32) (p : Nat) : shr ν o s m (p + 1) = if hb o (nI p) = true then (upd (shr ν o s m p).1 (90 + 4 * p + 3) ((shr ν o s m p).1 (90 + 4 * p + 3) + (s / m + (if 0 < (shr ν o s m p).2 then 1 else 0))), (shr ν o s m p).2 - 1) else shr ν o s m p := rfl
theorem shr_hi (ν : Nu) {o : Nat} (s m : Int32) {c : Nat} (ho : o < 2 ^ c) : ∀ n, c ≤ n → n ≤ 14 → shr ν (nI o) s m n = shr ν (nI o) s m c := by
  intro n
  induction n with
  | zero => intro h _; rw [show c = 0 by omega]
  | succ n ih =>
    intro h hn
    by_cases e : c = n + 1
    · rw [e]
    · have hf : hb (nI o) (nI n) = false := by
        rw [hb_bit _ (by omega)]
        show (BitVec.ofNat 32 o).getLsbD n = false
        rw [BitVec.getLsbD_ofNat, Nat.testBit_lt_two_pow (Nat.lt_of_lt_of_le ho (Nat.pow_le_pow_right (by decide) (by omega)))]; simp
      rw [shr_s, hf, if_neg (by decide)]
      exact ih (by omega) (by omega)
end SHE
theorem st_0 (f : Nu) : sumL (fndT f (nI 0)) 7 = f 0 := by
  simp only [sumL, fndT, show (nI 0 < 0 ∨ nI 0 = nI 0) = True from eq_true (by decide), show (nI 0 < 0 ∨ nI 0 = nI 1) = False from eq_false (by decide), show (nI 0 < 0 ∨ nI 0 = nI 2) = False from eq_false (by decide), show (nI 0 < 0 ∨ nI 0 = nI 3) = False from eq_false (by decide), show (nI 0 < 0 ∨ nI 0 = nI 4) = False from eq_false (by decide), show (nI 0 < 0 ∨ nI 0 = nI 5) = False from eq_false (by decide), show (nI 0 < 0 ∨ nI 0 = nI 6) = False from eq_false (by decide), if_true, if_false, or_true, Int32.zero_add, Int32.add_zero]
theorem st_1 (f : Nu) : sumL (fndT f (nI 1)) 7 = f 1 := by
  simp only [sumL, fndT, show (nI 1 < 0 ∨ nI 1 = nI 0) = False from eq_false (by decide), show (nI 1 < 0 ∨ nI 1 = nI 1) = True from eq_true (by decide), show (nI 1 < 0 ∨ nI 1 = nI 2) = False from eq_false (by decide), show (nI 1 < 0 ∨ nI 1 = nI 3) = False from eq_false (by decide), show (nI 1 < 0 ∨ nI 1 = nI 4) = False from eq_false (by decide), show (nI 1 < 0 ∨ nI 1 = nI 5) = False from eq_false (by decide), show (nI 1 < 0 ∨ nI 1 = nI 6) = False from eq_false (by decide), if_true, if_false, or_true, Int32.zero_add, Int32.add_zero]
theorem st_2 (f : Nu) : sumL (fndT f (nI 2)) 7 = f 2 := by
  simp only [sumL, fndT, show (nI 2 < 0 ∨ nI 2 = nI 0) = False from eq_false (by decide), show (nI 2 < 0 ∨ nI 2 = nI 1) = False from eq_false (by decide), show (nI 2 < 0 ∨ nI 2 = nI 2) = True from eq_true (by decide), show (nI 2 < 0 ∨ nI 2 = nI 3) = False from eq_false (by decide), show (nI 2 < 0 ∨ nI 2 = nI 4) = False from eq_false (by decide), show (nI 2 < 0 ∨ nI 2 = nI 5) = False from eq_false (by decide), show (nI 2 < 0 ∨ nI 2 = nI 6) = False from eq_false (by decide), if_true, if_false, or_true, Int32.zero_add, Int32.add_zero]
theorem st_3 (f : Nu) : sumL (fndT f (nI 3)) 7 = f 3 := by
  simp only [sumL, fndT, show (nI 3 < 0 ∨ nI 3 = nI 0) = False from eq_false (by decide), show (nI 3 < 0 ∨ nI 3 = nI 1) = False from eq_false (by decide), show (nI 3 < 0 ∨ nI 3 = nI 2) = False from eq_false (by decide), show (nI 3 < 0 ∨ nI 3 = nI 3) = True from eq_true (by decide), show (nI 3 < 0 ∨ nI 3 = nI 4) = False from eq_false (by decide), show (nI 3 < 0 ∨ nI 3 = nI 5) = False from eq_false (by decide), show (nI 3 < 0 ∨ nI 3 = nI 6) = False from eq_false (by decide), if_true, if_false, or_true, Int32.zero_add, Int32.add_zero]
theorem st_4 (f : Nu) : sumL (fndT f (nI 4)) 7 = f 4 := by
  simp only [sumL, fndT, show (nI 4 < 0 ∨ nI 4 = nI 0) = False from eq_false (by decide), show (nI 4 < 0 ∨ nI 4 = nI 1) = False from eq_false (by decide), show (nI 4 < 0 ∨ nI 4 = nI 2) = False from eq_false (by decide), show (nI 4 < 0 ∨ nI 4 = nI 3) = False from eq_false (by decide), show (nI 4 < 0 ∨ nI 4 = nI 4) = True from eq_true (by decide), show (nI 4 < 0 ∨ nI 4 = nI 5) = False from eq_false (by decide), show (nI 4 < 0 ∨ nI 4 = nI 6) = False from eq_false (by decide), if_true, if_false, or_true, Int32.zero_add, Int32.add_zero]
theorem st_5 (f : Nu) : sumL (fndT f (nI 5)) 7 = f 5 := by
  simp only [sumL, fndT, show (nI 5 < 0 ∨ nI 5 = nI 0) = False from eq_false (by decide), show (nI 5 < 0 ∨ nI 5 = nI 1) = False from eq_false (by decide), show (nI 5 < 0 ∨ nI 5 = nI 2) = False from eq_false (by decide), show (nI 5 < 0 ∨ nI 5 = nI 3) = False from eq_false (by decide), show (nI 5 < 0 ∨ nI 5 = nI 4) = False from eq_false (by decide), show (nI 5 < 0 ∨ nI 5 = nI 5) = True from eq_true (by decide), show (nI 5 < 0 ∨ nI 5 = nI 6) = False from eq_false (by decide), if_true, if_false, or_true, Int32.zero_add, Int32.add_zero]
theorem st_6 (f : Nu) : sumL (fndT f (nI 6)) 7 = f 6 := by
  simp only [sumL, fndT, show (nI 6 < 0 ∨ nI 6 = nI 0) = False from eq_false (by decide), show (nI 6 < 0 ∨ nI 6 = nI 1) = False from eq_false (by decide), show (nI 6 < 0 ∨ nI 6 = nI 2) = False from eq_false (by decide), show (nI 6 < 0 ∨ nI 6 = nI 3) = False from eq_false (by decide), show (nI 6 < 0 ∨ nI 6 = nI 4) = False from eq_false (by decide), show (nI 6 < 0 ∨ nI 6 = nI 5) = False from eq_false (by decide), show (nI 6 < 0 ∨ nI 6 = nI 6) = True from eq_true (by decide), if_true, if_false, or_true, Int32.zero_add, Int32.add_zero]
theorem st_j (f : Nu) {j : Nat} (hj : j ≤ 6) : sumL (fndT f (nI j)) 7 = f j := by
  rcases (show j = 0 ∨ j = 1 ∨ j = 2 ∨ j = 3 ∨ j = 4 ∨ j = 5 ∨ j = 6 by omega) with rfl | rfl | rfl | rfl | rfl | rfl | rfl
  · exact st_0 f
  · exact st_1 f
  · exact st_2 f
  · exact st_3 f
  · exact st_4 f
  · exact st_5 f
  · exact st_6 f
theorem st_n {w : Int32} (h1 : ¬ w = -1) (h2 : ¬ (0 ≤ w ∧ w ≤ 6)) : ¬ (-1 ≤ w ∧ w ≤ 6) := by
  intro q
  have q1 := q.1
  refine h2 ⟨?_, q.2⟩
  rw [Int32.le_iff_toInt_le] at q1 ⊢
  have : ¬ w.toInt = -1 := fun e => h1 (Int32.toInt_inj.mp e)
  have e0 : (0 : Int32).toInt = 0 := rfl
  have e1 : (-1 : Int32).toInt = -1 := rfl
  omega
theorem st_y {w : Int32} (h : 0 ≤ w ∧ w ≤ 6) : -1 ≤ w ∧ w ≤ 6 := ⟨Int32.le_trans (by decide) h.1, h.2⟩
theorem x_count {d : Nat} (hd : 3 ≤ d) (σ : Sg) {α : Al} (hA : IA α) (hC : RC σ α) (w : Int32) : CP d mX11_count [.ref 0, .int w] σ (XPo σ (sp_count α w)) := by
  have hI := hA.i
  have hR := hC.w
  refine con_of (by decide) (catL rfl) (Nat.le_of_ble_eq_true rfl) ?_
  intro μ ω C hr
  have C : Cx μ ω "TowField" cX11_count 2 d := C
  have hr : (mH μ).sig.returnType = some .int := hr
  show G μ ω (RQ μ ω (pP (XPo σ (sp_count α w)))) 0 [some (.ref 0), some (.int w)] [] (mk σ) 0 0
  refine g_il1n (pc := 0) C dX11_count_0 ?_
  rcases sw_0_13 w with w_1 | w_1 | w_1 | w_1 | w_1 | w_1 | w_1 | w_1 | w_1 | w_1 | w_1 | w_1 | w_1 | w_1 | w_1
  · refine g_tabE (pc := 1) (tgt := 72) (off := 71) (v := 0) C dX11_count_1 w_1 (by decide) (by decide) (by decide) (by decide) ?_
    refine g_al0n (pc := 72) C dX11_count_72 ?_
    refine s_getR (pc := 73) C fX11_21 h0 rfl dX11_count_73 ?_
    refine s_getR (pc := 76) C fX11_72 (w0 (b := 12) isW12) rfl dX11_count_76 ?_
    refine s_getIv (pc := 79) (v := aN α 3) C fX11_76 (w1 (b := 12) isW12) rfl hR.g.1 dX11_count_79 ?_
    subst w_1
    exact r_P C hr dX11_count_82 (XPo_val hC rfl rfl)
  · refine g_tabE (pc := 1) (tgt := 83) (off := 82) (v := 1) C dX11_count_1 w_1 (by decide) (by decide) (by decide) (by decide) ?_
    refine g_al0n (pc := 83) C dX11_count_83 ?_
    refine s_getR (pc := 84) C fX11_21 h0 rfl dX11_count_84 ?_
    refine s_getR (pc := 87) C fX11_62 (w0 (b := 12) isW12) rfl dX11_count_87 ?_
    refine s_getIv (pc := 90) (v := aN α 4) C fX11_87 (w6 (b := 12) isW12) rfl hR.p.1 dX11_count_90 ?_
    subst w_1
    exact r_P C hr dX11_count_93 (XPo_val hC rfl rfl)
  · refine g_tabE (pc := 1) (tgt := 94) (off := 93) (v := 2) C dX11_count_1 w_1 (by decide) (by decide) (by decide) (by decide) ?_
    refine g_al0n (pc := 94) C dX11_count_94 ?_
    refine s_getR (pc := 95) C fX11_21 h0 rfl dX11_count_95 ?_
    refine s_getR (pc := 98) C fX11_91 (w0 (b := 12) isW12) rfl dX11_count_98 ?_
    refine s_getIv (pc := 101) (v := aN α 5) C fX11_95 (w11 (b := 12) isW12) rfl hR.w.1 dX11_count_101 ?_
    subst w_1
    exact r_P C hr dX11_count_104 (XPo_val hC rfl rfl)
  · refine g_tabE (pc := 1) (tgt := 105) (off := 104) (v := 3) C dX11_count_1 w_1 (by decide) (by decide) (by decide) (by decide) ?_
    refine g_al0n (pc := 105) C dX11_count_105 ?_
    refine s_getR (pc := 106) C fX11_21 h0 rfl dX11_count_106 ?_
    refine s_getR (pc := 109) C fX11_100 (w0 (b := 12) isW12) rfl dX11_count_109 ?_
    refine s_getIv (pc := 112) (v := aN α 6) C fX11_104 (w14 (b := 12) isW12) rfl hR.n.1 dX11_count_112 ?_
    subst w_1
    exact r_P C hr dX11_count_115 (XPo_val hC rfl rfl)
  · refine g_tabE (pc := 1) (tgt := 116) (off := 115) (v := 4) C dX11_count_1 w_1 (by decide) (by decide) (by decide) (by decide) ?_
    refine g_al0n (pc := 116) C dX11_count_116 ?_
    refine s_getR (pc := 117) C fX11_21 h0 rfl dX11_count_117 ?_
    refine s_getR (pc := 120) C fX11_190 (w0 (b := 12) isW12) rfl dX11_count_120 ?_
    refine s_getIv (pc := 123) (v := aN α 7) C fX11_194 (w22 (b := 12) isW12) rfl hR.a.1 dX11_count_123 ?_
    subst w_1
    exact r_P C hr dX11_count_126 (XPo_val hC rfl rfl)
  · refine g_tabE (pc := 1) (tgt := 127) (off := 126) (v := 5) C dX11_count_1 w_1 (by decide) (by decide) (by decide) (by decide) ?_
    refine g_al0n (pc := 127) C dX11_count_127 ?_
    refine s_getR (pc := 128) C fX11_21 h0 rfl dX11_count_128 ?_
    refine s_getR (pc := 131) C fX11_190 (w0 (b := 12) isW12) rfl dX11_count_131 ?_
    refine g_il1n (pc := 134) C dX11_count_134 ?_
    refine g_iconst (pc := 135) (v := 5) C dX11_count_135 (by decide) ?_
    refine g_isub (pc := 136) C dX11_count_136 ?_
    refine s_VI (pc := 137) (st := []) C (w22 (b := 12) isW12) rfl (c_thatAre (d := d - 1) (by omega) σ isW12 hI hR (w - 5)) (by omega) lX11_255 dX11_count_137 rfl (Nat.le_of_ble_eq_true rfl) rfl ?_
    refine s_SI (pc := 140) (st := []) C (by have := c_bitCount (d := d - 1) (by omega) σ (setS (aN α) (w - 5)); rw [bc_set hI] at this; exact this) (by omega) lX11_302 dX11_count_140 rfl (Nat.le_of_ble_eq_true rfl) rfl ?_
    subst w_1
    exact r_P C hr dX11_count_143 (XPo_val hC rfl rfl)
  · refine g_tabE (pc := 1) (tgt := 127) (off := 126) (v := 6) C dX11_count_1 w_1 (by decide) (by decide) (by decide) (by decide) ?_
    refine g_al0n (pc := 127) C dX11_count_127 ?_
    refine s_getR (pc := 128) C fX11_21 h0 rfl dX11_count_128 ?_
    refine s_getR (pc := 131) C fX11_190 (w0 (b := 12) isW12) rfl dX11_count_131 ?_
    refine g_il1n (pc := 134) C dX11_count_134 ?_
    refine g_iconst (pc := 135) (v := 5) C dX11_count_135 (by decide) ?_
    refine g_isub (pc := 136) C dX11_count_136 ?_
    refine s_VI (pc := 137) (st := []) C (w22 (b := 12) isW12) rfl (c_thatAre (d := d - 1) (by omega) σ isW12 hI hR (w - 5)) (by omega) lX11_255 dX11_count_137 rfl (Nat.le_of_ble_eq_true rfl) rfl ?_
    refine s_SI (pc := 140) (st := []) C (by have := c_bitCount (d := d - 1) (by omega) σ (setS (aN α) (w - 5)); rw [bc_set hI] at this; exact this) (by omega) lX11_302 dX11_count_140 rfl (Nat.le_of_ble_eq_true rfl) rfl ?_
    subst w_1
    exact r_P C hr dX11_count_143 (XPo_val hC rfl rfl)
  · refine g_tabE (pc := 1) (tgt := 127) (off := 126) (v := 7) C dX11_count_1 w_1 (by decide) (by decide) (by decide) (by decide) ?_
    refine g_al0n (pc := 127) C dX11_count_127 ?_
    refine s_getR (pc := 128) C fX11_21 h0 rfl dX11_count_128 ?_
    refine s_getR (pc := 131) C fX11_190 (w0 (b := 12) isW12) rfl dX11_count_131 ?_
    refine g_il1n (pc := 134) C dX11_count_134 ?_
    refine g_iconst (pc := 135) (v := 5) C dX11_count_135 (by decide) ?_
    refine g_isub (pc := 136) C dX11_count_136 ?_
    refine s_VI (pc := 137) (st := []) C (w22 (b := 12) isW12) rfl (c_thatAre (d := d - 1) (by omega) σ isW12 hI hR (w - 5)) (by omega) lX11_255 dX11_count_137 rfl (Nat.le_of_ble_eq_true rfl) rfl ?_
    refine s_SI (pc := 140) (st := []) C (by have := c_bitCount (d := d - 1) (by omega) σ (setS (aN α) (w - 5)); rw [bc_set hI] at this; exact this) (by omega) lX11_302 dX11_count_140 rfl (Nat.le_of_ble_eq_true rfl) rfl ?_
    subst w_1
    exact r_P C hr dX11_count_143 (XPo_val hC rfl rfl)
  · refine g_tabE (pc := 1) (tgt := 127) (off := 126) (v := 8) C dX11_count_1 w_1 (by decide) (by decide) (by decide) (by decide) ?_
    refine g_al0n (pc := 127) C dX11_count_127 ?_
    refine s_getR (pc := 128) C fX11_21 h0 rfl dX11_count_128 ?_
    refine s_getR (pc := 131) C fX11_190 (w0 (b := 12) isW12) rfl dX11_count_131 ?_
    refine g_il1n (pc := 134) C dX11_count_134 ?_
    refine g_iconst (pc := 135) (v := 5) C dX11_count_135 (by decide) ?_
    refine g_isub (pc := 136) C dX11_count_136 ?_
    refine s_VI (pc := 137) (st := []) C (w22 (b := 12) isW12) rfl (c_thatAre (d := d - 1) (by omega) σ isW12 hI hR (w - 5)) (by omega) lX11_255 dX11_count_137 rfl (Nat.le_of_ble_eq_true rfl) rfl ?_
    refine s_SI (pc := 140) (st := []) C (by have := c_bitCount (d := d - 1) (by omega) σ (setS (aN α) (w - 5)); rw [bc_set hI] at this; exact this) (by omega) lX11_302 dX11_count_140 rfl (Nat.le_of_ble_eq_true rfl) rfl ?_
    subst w_1
    exact r_P C hr dX11_count_143 (XPo_val hC rfl rfl)
  · refine g_tabE (pc := 1) (tgt := 144) (off := 143) (v := 9) C dX11_count_1 w_1 (by decide) (by decide) (by decide) (by decide) ?_
    refine g_al0n (pc := 144) C dX11_count_144 ?_
    refine s_getR (pc := 145) C fX11_21 h0 rfl dX11_count_145 ?_
    refine s_getIv (pc := 148) (v := aN α 8) C fX11_226 (w0 (b := 12) isW12) rfl hR.txc dX11_count_148 ?_
    subst w_1
    exact r_P C hr dX11_count_151 (XPo_val hC rfl rfl)
  · refine g_tabE (pc := 1) (tgt := 152) (off := 151) (v := 10) C dX11_count_1 w_1 (by decide) (by decide) (by decide) (by decide) ?_
    refine g_al0n (pc := 152) C dX11_count_152 ?_
    refine s_getR (pc := 153) C fX11_21 h0 rfl dX11_count_153 ?_
    refine s_getIv (pc := 156) (v := aN α 0) C fX11_138 (w0 (b := 12) isW12) rfl hR.min dX11_count_156 ?_
    subst w_1
    exact r_P C hr dX11_count_159 (XPo_val hC rfl rfl)
  · refine g_tabE (pc := 1) (tgt := 160) (off := 159) (v := 11) C dX11_count_1 w_1 (by decide) (by decide) (by decide) (by decide) ?_
    refine g_al0n (pc := 160) C dX11_count_160 ?_
    refine s_getR (pc := 161) C fX11_41 h0 rfl dX11_count_161 ?_
    refine s_getIv (pc := 164) (v := aS α) C fX11_222 h131 rfl hC.2.2.2.2.1.1 dX11_count_164 ?_
    subst w_1
    exact r_P C hr dX11_count_167 (XPo_val hC rfl rfl)
  · refine g_tabE (pc := 1) (tgt := 168) (off := 167) (v := 12) C dX11_count_1 w_1 (by decide) (by decide) (by decide) (by decide) ?_
    refine g_al0n (pc := 168) C dX11_count_168 ?_
    refine s_getR (pc := 169) C fX11_21 h0 rfl dX11_count_169 ?_
    refine s_getR (pc := 172) C fX11_62 (w0 (b := 12) isW12) rfl dX11_count_172 ?_
    refine s_VI (pc := 175) (st := []) C (w6 (b := 12) isW12) rfl (c_bills (d := d - 1) (by omega) σ isW12 hI hR) (by omega) lX11_307 dX11_count_175 rfl (Nat.le_of_ble_eq_true rfl) rfl ?_
    subst w_1
    exact r_P C hr dX11_count_178 (XPo_val hC rfl rfl)
  · refine g_tabE (pc := 1) (tgt := 179) (off := 178) (v := 13) C dX11_count_1 w_1 (by decide) (by decide) (by decide) (by decide) ?_
    refine g_al0n (pc := 179) C dX11_count_179 ?_
    refine s_getR (pc := 180) C fX11_21 h0 rfl dX11_count_180 ?_
    refine s_getR (pc := 183) C fX11_153 (w0 (b := 12) isW12) rfl dX11_count_183 ?_
    refine s_getIv (pc := 186) (v := busyS (aN α)) C fX11_310 (w16 (b := 12) isW12) rfl (by obtain ⟨n, hM⟩ := hR.l.2; exact hM.1.trans ((congrArg nI (MV_cnt hM)).trans (busyS_eq _).symm)) dX11_count_186 ?_
    subst w_1
    exact r_P C hr dX11_count_189 (XPo_val hC rfl rfl)
  · refine g_tabOut (pc := 1) (tgt := 190) C dX11_count_1 w_1 (by decide) ?_
    refine g_al0n (pc := 190) C dX11_count_190 ?_
    refine g_ldc (pc := 191) C dX11_count_191 kX11_57 ?_
    refine s_VI (pc := 193) (st := []) C h0 rfl (c_found0 (d := d - 1) (by omega) σ) (by omega) lX11_58 dX11_count_193 rfl (Nat.le_of_ble_eq_true rfl) rfl ?_
    have hne : ∀ z : Int32, (0 ≤ z.toInt ∧ z.toInt ≤ 13) → ¬ w = z := fun z hz q => by subst q; omega
    have hsp : sp_count α w = FB α := by simp only [sp_count, hne 0 (by decide), hne 1 (by decide), hne 2 (by decide), hne 3 (by decide), hne 4 (by decide), hne 5 (by decide), hne 6 (by decide), hne 7 (by decide), hne 8 (by decide), hne 9 (by decide), hne 10 (by decide), hne 11 (by decide), hne 12 (by decide), hne 13 (by decide), or_self, if_false]
    exact r_P C hr dX11_count_196 (by rw [hsp]; exact XPo_fnd hA hC (i := 0) (by decide) _)

theorem x_status {d : Nat} (hd : 3 ≤ d) (σ : Sg) {α : Al} (hA : IA α) (hC : RC σ α) (w : Int32) : CP d mX11_status [.ref 0, .int w] σ (XPo σ (sp_status α w)) := by
  have hI := hA.i
  have hR := hC.w
  refine con_of (by decide) (catL rfl) (Nat.le_of_ble_eq_true rfl) ?_
  intro μ ω C hr
  have C : Cx μ ω "TowField" cX11_status 4 d := C
  have hr : (mH μ).sig.returnType = some .int := hr
  show G μ ω (RQ μ ω (pP (XPo σ (sp_status α w)))) 0 [some (.ref 0), some (.int w), none, none] [] (mk σ) 0 0
  refine g_il1n (pc := 0) C dX11_status_0 ?_
  refine g_iconst (pc := 1) (v := (-1)) C dX11_status_1 (by decide) ?_
  refine g_icmp_ne (pc := 2) (tgt := 32) C dX11_status_2 (by decide) (fun c_2 => ?_) (fun c_2 => ?_)
  · refine g_il1n (pc := 32) C dX11_status_32 ?_
    refine g_iconst (pc := 33) (v := 0) C dX11_status_33 (by decide) ?_
    refine g_bipush (pc := 34) (v := 6) C dX11_status_34 (by decide) ?_
    refine s_SB (pc := 36) (st := []) C (c_X11_within (d := d - 1) (by omega) σ w 0 6) (by omega) lX11_53 dX11_status_36 rfl (Nat.le_of_ble_eq_true rfl) rfl (fun b_36 => ?_) (fun b_36 => ?_)
    · obtain ⟨j, hj, rfl⟩ := rgL b_36 (by decide) (B := 6) (by decide)
      have kj : (nI j).toNatClampNeg = j := nI_clamp (by omega)
      refine g_if_ne (pc := 39) (tgt := 49) C dX11_status_39 (by decide) (fun _ => ?_) (fun c => absurd c (by decide))
      refine g_al0n (pc := 49) C dX11_status_49 ?_
      refine s_getR (pc := 50) C fX11_45 h0 rfl dX11_status_50 ?_
      refine g_il1n (pc := 53) C dX11_status_53 ?_
      refine s_ialdv (pc := 54) (q := j) (v := aF α j) C h134 rfl (by omega) (Nat.le_of_ble_eq_true rfl) (hC.2.2.2.1 _ (by omega)) dX11_status_54 ?_
      exact r_P C hr dX11_status_55 (XPo_val hC (if_neg (fun q => q (st_y b_36))) (st_j _ (by omega)).symm)
    · refine g_if_ne (pc := 39) (tgt := 49) C dX11_status_39 (by decide) (fun c => absurd c (by decide)) (fun _ => ?_)
      refine g_al0n (pc := 42) C dX11_status_42 ?_
      refine g_ldc (pc := 43) C dX11_status_43 kX11_57 ?_
      refine s_VI (pc := 45) (st := []) C h0 rfl (c_found0 (d := d - 1) (by omega) σ) (by omega) lX11_58 dX11_status_45 rfl (Nat.le_of_ble_eq_true rfl) rfl ?_
      have hsp : sp_status α w = FB α := if_pos (st_n c_2 b_36)
      exact r_P C hr dX11_status_48 (by rw [hsp]; exact XPo_fnd hA hC (i := 0) (by decide) _)
  · refine g_iconst (pc := 5) (v := 0) C dX11_status_5 (by decide) ?_
    refine g_is2n (pc := 6) C dX11_status_6 ?_
    refine g_iconst (pc := 7) (v := 0) C dX11_status_7 (by decide) ?_
    refine g_is3n (pc := 8) C dX11_status_8 ?_
    refine g_il3n (pc := 9) C dX11_status_9 ?_
    refine g_bipush (pc := 10) (v := 7) C dX11_status_10 (by decide) ?_
    refine g_icmp_geL (pc := 12) (tgt := 30) C dX11_status_12 (by decide) (fun c => absurd c (by decide)) (fun _ => ?_)
    refine g_il2n (pc := 15) C dX11_status_15 ?_
    refine g_al0n (pc := 16) C dX11_status_16 ?_
    refine s_getR (pc := 17) C fX11_45 h0 rfl dX11_status_17 ?_
    refine g_il3n (pc := 20) C dX11_status_20 ?_
    refine s_ialdv (pc := 21) (q := 0) (v := aF α 0) C h134 rfl (by omega) (Nat.le_of_ble_eq_true rfl) (hC.2.2.2.1 _ (by omega)) dX11_status_21 ?_
    refine g_iadd (pc := 22) C dX11_status_22 ?_
    refine g_is2n (pc := 23) C dX11_status_23 ?_
    refine g_ii3 (pc := 24) (v := 1) C dX11_status_24 (by decide) ?_
    refine g_goto (pc := 27) (tgt := 9) C dX11_status_27 (by decide) ?_
    refine g_il3n (pc := 9) C dX11_status_9 ?_
    refine g_bipush (pc := 10) (v := 7) C dX11_status_10 (by decide) ?_
    refine g_icmp_geL (pc := 12) (tgt := 30) C dX11_status_12 (by decide) (fun c => absurd c (by decide)) (fun _ => ?_)
    refine g_il2n (pc := 15) C dX11_status_15 ?_
    refine g_al0n (pc := 16) C dX11_status_16 ?_
    refine s_getR (pc := 17) C fX11_45 h0 rfl dX11_status_17 ?_
    refine g_il3n (pc := 20) C dX11_status_20 ?_
    refine s_ialdv (pc := 21) (q := 1) (v := aF α 1) C h134 rfl (by omega) (Nat.le_of_ble_eq_true rfl) (hC.2.2.2.1 _ (by omega)) dX11_status_21 ?_
    refine g_iadd (pc := 22) C dX11_status_22 ?_
    refine g_is2n (pc := 23) C dX11_status_23 ?_
    refine g_ii3 (pc := 24) (v := 2) C dX11_status_24 (by decide) ?_
    refine g_goto (pc := 27) (tgt := 9) C dX11_status_27 (by decide) ?_
    refine g_il3n (pc := 9) C dX11_status_9 ?_
    refine g_bipush (pc := 10) (v := 7) C dX11_status_10 (by decide) ?_
    refine g_icmp_geL (pc := 12) (tgt := 30) C dX11_status_12 (by decide) (fun c => absurd c (by decide)) (fun _ => ?_)
    refine g_il2n (pc := 15) C dX11_status_15 ?_
    refine g_al0n (pc := 16) C dX11_status_16 ?_
    refine s_getR (pc := 17) C fX11_45 h0 rfl dX11_status_17 ?_
    refine g_il3n (pc := 20) C dX11_status_20 ?_
    refine s_ialdv (pc := 21) (q := 2) (v := aF α 2) C h134 rfl (by omega) (Nat.le_of_ble_eq_true rfl) (hC.2.2.2.1 _ (by omega)) dX11_status_21 ?_
    refine g_iadd (pc := 22) C dX11_status_22 ?_
    refine g_is2n (pc := 23) C dX11_status_23 ?_
    refine g_ii3 (pc := 24) (v := 3) C dX11_status_24 (by decide) ?_
    refine g_goto (pc := 27) (tgt := 9) C dX11_status_27 (by decide) ?_
    refine g_il3n (pc := 9) C dX11_status_9 ?_
    refine g_bipush (pc := 10) (v := 7) C dX11_status_10 (by decide) ?_
    refine g_icmp_geL (pc := 12) (tgt := 30) C dX11_status_12 (by decide) (fun c => absurd c (by decide)) (fun _ => ?_)
    refine g_il2n (pc := 15) C dX11_status_15 ?_
    refine g_al0n (pc := 16) C dX11_status_16 ?_
    refine s_getR (pc := 17) C fX11_45 h0 rfl dX11_status_17 ?_
    refine g_il3n (pc := 20) C dX11_status_20 ?_
    refine s_ialdv (pc := 21) (q := 3) (v := aF α 3) C h134 rfl (by omega) (Nat.le_of_ble_eq_true rfl) (hC.2.2.2.1 _ (by omega)) dX11_status_21 ?_
    refine g_iadd (pc := 22) C dX11_status_22 ?_
    refine g_is2n (pc := 23) C dX11_status_23 ?_
    refine g_ii3 (pc := 24) (v := 4) C dX11_status_24 (by decide) ?_
    refine g_goto (pc := 27) (tgt := 9) C dX11_status_27 (by decide) ?_
    refine g_il3n (pc := 9) C dX11_status_9 ?_
    refine g_bipush (pc := 10) (v := 7) C dX11_status_10 (by decide) ?_
    refine g_icmp_geL (pc := 12) (tgt := 30) C dX11_status_12 (by decide) (fun c => absurd c (by decide)) (fun _ => ?_)
    refine g_il2n (pc := 15) C dX11_status_15 ?_
    refine g_al0n (pc := 16) C dX11_status_16 ?_
    refine s_getR (pc := 17) C fX11_45 h0 rfl dX11_status_17 ?_
    refine g_il3n (pc := 20) C dX11_status_20 ?_
    refine s_ialdv (pc := 21) (q := 4) (v := aF α 4) C h134 rfl (by omega) (Nat.le_of_ble_eq_true rfl) (hC.2.2.2.1 _ (by omega)) dX11_status_21 ?_
    refine g_iadd (pc := 22) C dX11_status_22 ?_
    refine g_is2n (pc := 23) C dX11_status_23 ?_
    refine g_ii3 (pc := 24) (v := 5) C dX11_status_24 (by decide) ?_
    refine g_goto (pc := 27) (tgt := 9) C dX11_status_27 (by decide) ?_
    refine g_il3n (pc := 9) C dX11_status_9 ?_
    refine g_bipush (pc := 10) (v := 7) C dX11_status_10 (by decide) ?_
    refine g_icmp_geL (pc := 12) (tgt := 30) C dX11_status_12 (by decide) (fun c => absurd c (by decide)) (fun _ => ?_)
    refine g_il2n (pc := 15) C dX11_status_15 ?_
    refine g_al0n (pc := 16) C dX11_status_16 ?_
    refine s_getR (pc := 17) C fX11_45 h0 rfl dX11_status_17 ?_
    refine g_il3n (pc := 20) C dX11_status_20 ?_
    refine s_ialdv (pc := 21) (q := 5) (v := aF α 5) C h134 rfl (by omega) (Nat.le_of_ble_eq_true rfl) (hC.2.2.2.1 _ (by omega)) dX11_status_21 ?_
    refine g_iadd (pc := 22) C dX11_status_22 ?_
    refine g_is2n (pc := 23) C dX11_status_23 ?_
    refine g_ii3 (pc := 24) (v := 6) C dX11_status_24 (by decide) ?_
    refine g_goto (pc := 27) (tgt := 9) C dX11_status_27 (by decide) ?_
    refine g_il3n (pc := 9) C dX11_status_9 ?_
    refine g_bipush (pc := 10) (v := 7) C dX11_status_10 (by decide) ?_
    refine g_icmp_geL (pc := 12) (tgt := 30) C dX11_status_12 (by decide) (fun c => absurd c (by decide)) (fun _ => ?_)
    refine g_il2n (pc := 15) C dX11_status_15 ?_
    refine g_al0n (pc := 16) C dX11_status_16 ?_
    refine s_getR (pc := 17) C fX11_45 h0 rfl dX11_status_17 ?_
    refine g_il3n (pc := 20) C dX11_status_20 ?_
    refine s_ialdv (pc := 21) (q := 6) (v := aF α 6) C h134 rfl (by omega) (Nat.le_of_ble_eq_true rfl) (hC.2.2.2.1 _ (by omega)) dX11_status_21 ?_
    refine g_iadd (pc := 22) C dX11_status_22 ?_
    refine g_is2n (pc := 23) C dX11_status_23 ?_
    refine g_ii3 (pc := 24) (v := 7) C dX11_status_24 (by decide) ?_
    refine g_goto (pc := 27) (tgt := 9) C dX11_status_27 (by decide) ?_
    refine g_il3n (pc := 9) C dX11_status_9 ?_
    refine g_bipush (pc := 10) (v := 7) C dX11_status_10 (by decide) ?_
    refine g_icmp_geL (pc := 12) (tgt := 30) C dX11_status_12 (by decide) (fun _ => ?_) (fun c => absurd c (by decide))
    refine g_il2n (pc := 30) C dX11_status_30 ?_
    subst c_2
    exact r_P C hr dX11_status_31 (XPo_val hC rfl rfl)

theorem x_write {d : Nat} (hd : 3 ≤ d) (σ : Sg) {α : Al} (hA : IA α) (hC : RC σ α) (s x v : Int32) : CP d mX11_write [.ref 0, .int s, .int x, .int v] σ (XPo σ (sp_write α s x v)) := by
  have hI := hA.i
  have hR := hC.w
  refine con_of (by decide) (catL rfl) (Nat.le_of_ble_eq_true rfl) ?_
  intro μ ω C hr
  have C : Cx μ ω "TowField" cX11_write 4 d := C
  have hr : (mH μ).sig.returnType = some .int := hr
  show G μ ω (RQ μ ω (pP (XPo σ (sp_write α s x v)))) 0 [some (.ref 0), some (.int s), some (.int x), some (.int v)] [] (mk σ) 0 0
  refine g_il1n (pc := 0) C dX11_write_0 ?_
  refine s_SB (pc := 1) (st := []) C (c_X6_has (d := d - 1) (by omega) σ s) (by omega) lX11_258 dX11_write_1 rfl (Nat.le_of_ble_eq_true rfl) rfl (fun b_1 => ?_) (fun b_1 => ?_)
  · obtain ⟨j, hj, rfl⟩ := rg b_1 (B := 3) (by decide)
    have kj : (nI j).toNatClampNeg = j := nI_clamp (by omega)
    refine g_if_ne (pc := 4) (tgt := 14) C dX11_write_4 (by decide) (fun _ => ?_) (fun c => absurd c (by decide))
    refine g_al0n (pc := 14) C dX11_write_14 ?_
    refine s_getR (pc := 15) C fX11_34 h0 rfl dX11_write_15 ?_
    refine s_getR (pc := 18) C fX11_259 h123 rfl dX11_write_18 ?_
    refine g_il1n (pc := 21) C dX11_write_21 ?_
    refine s_ialdv (pc := 22) (q := j) (v := aW α j) C h124 rfl (by omega) (Nat.le_of_ble_eq_true rfl) (hC.w0 (by omega)) dX11_write_22 ?_
    refine g_if_ne (pc := 23) (tgt := 34) C dX11_write_23 (by decide) (fun c_23 => ?_) (fun c_23 => ?_)
    · refine g_il2n (pc := 34) C dX11_write_34 ?_
      refine g_iconst (pc := 35) (v := 0) C dX11_write_35 (by decide) ?_
      refine g_al0n (pc := 36) C dX11_write_36 ?_
      refine s_getR (pc := 37) C fX11_34 h0 rfl dX11_write_37 ?_
      refine s_getR (pc := 40) C fX11_263 h123 rfl dX11_write_40 ?_
      refine g_il1n (pc := 43) C dX11_write_43 ?_
      refine s_ialdv (pc := 44) (q := j) (v := aZ α j) C h125 rfl (by omega) (Nat.le_of_ble_eq_true rfl) (hC.z0 (by omega)) dX11_write_44 ?_
      refine g_iconst (pc := 45) (v := 1) C dX11_write_45 (by decide) ?_
      refine g_isub (pc := 46) C dX11_write_46 ?_
      refine s_SB (pc := 47) (st := []) C (c_X11_within (d := d - 1) (by omega) σ x 0 ((aZ α j) - 1)) (by omega) lX11_53 dX11_write_47 rfl (Nat.le_of_ble_eq_true rfl) rfl (fun b_47 => ?_) (fun b_47 => ?_)
      · obtain ⟨z, hz24, ez⟩ := hA.z j (by omega)
        obtain ⟨i, hi, rfl⟩ := (is_iff ez (by omega)).mp b_47
        have ki : (nI i).toNatClampNeg = i := nI_clamp (by omega)
        refine g_if_ne (pc := 50) (tgt := 60) C dX11_write_50 (by decide) (fun _ => ?_) (fun c => absurd c (by decide))
        refine g_al0n (pc := 60) C dX11_write_60 ?_
        refine s_getR (pc := 61) C fX11_34 h0 rfl dX11_write_61 ?_
        refine s_getR (pc := 64) C fX11_268 h123 rfl dX11_write_64 ?_
        refine g_il1n (pc := 67) C dX11_write_67 ?_
        refine s_aald (pc := 68) (q := j) C h126 (by decide) rfl (rows4 j (by omega)) (by decide) dX11_write_68 ?_
        refine g_il2n (pc := 69) C dX11_write_69 ?_
        refine g_al0n (pc := 70) C dX11_write_70 ?_
        refine s_getR (pc := 71) C fX11_34 h0 rfl dX11_write_71 ?_
        refine s_getR (pc := 74) C fX11_259 h123 rfl dX11_write_74 ?_
        refine g_il1n (pc := 77) C dX11_write_77 ?_
        refine s_ialdv (pc := 78) (q := j) (v := aW α j) C h124 rfl (by omega) (Nat.le_of_ble_eq_true rfl) (hC.w0 (by omega)) dX11_write_78 ?_
        refine g_il3n (pc := 79) C dX11_write_79 ?_
        refine s_SI (pc := 80) (st := [(.int (nI i)), (.ref (127 + j))]) C (c_lowest (d := d - 1) (by omega) σ (aW α j) v) (by omega) lX11_290 dX11_write_80 rfl (Nat.le_of_ble_eq_true rfl) rfl ?_
        refine s_iast (pc := 83) (q := i) C (sh24 (j := j) (by omega)) rfl (by omega) (Nat.le_of_ble_eq_true rfl) dX11_write_83 ?_
        refine g_iconst (pc := 84) (v := 1) C dX11_write_84 (by decide) ?_
        have hsp : sp_write α (nI j) (nI i) v = (1, sW α (aW α) (aZ α) (upd (aU α) (24 * j + i) (cutK v (aW α j)))) := by simp only [sp_write, b_1, c_23, b_47, kj, ki, eq_self, ne_eq, not_true_eq_false, not_false_eq_true, Classical.not_not, decide_true, decide_false, and_true, true_and, and_false, false_and, and_self, or_true, true_or, or_false, false_or, or_self, if_true, if_false, ite_true, ite_false, Bool.eq_false_iff, Bool.not_eq_eq_eq_not, Bool.true_eq_false, Bool.false_eq_true, reduceCtorEq]
        exact r_P C hr dX11_write_85 (XPo_write hA hC (by omega) ez hz24 hi _ hsp)
      · refine g_if_ne (pc := 50) (tgt := 60) C dX11_write_50 (by decide) (fun c => absurd c (by decide)) (fun _ => ?_)
        refine g_al0n (pc := 53) C dX11_write_53 ?_
        refine g_ldc (pc := 54) C dX11_write_54 kX11_57 ?_
        refine s_VI (pc := 56) (st := []) C h0 rfl (c_found0 (d := d - 1) (by omega) σ) (by omega) lX11_58 dX11_write_56 rfl (Nat.le_of_ble_eq_true rfl) rfl ?_
        have hsp : sp_write α (nI j) x v = FB α := by simp only [sp_write, b_1, c_23, b_47, kj, eq_self, ne_eq, not_true_eq_false, not_false_eq_true, Classical.not_not, decide_true, decide_false, and_true, true_and, and_false, false_and, and_self, or_true, true_or, or_false, false_or, or_self, if_true, if_false, ite_true, ite_false, Bool.eq_false_iff, Bool.not_eq_eq_eq_not, Bool.true_eq_false, Bool.false_eq_true, reduceCtorEq]
        exact r_P C hr dX11_write_59 (by rw [hsp]; exact XPo_fnd hA hC (i := 0) (by decide) _)
    · refine g_al0n (pc := 26) C dX11_write_26 ?_
      refine g_ldcw (pc := 27) C dX11_write_27 kX11_262 ?_
      refine s_VI (pc := 30) (st := []) C h0 rfl (c_found5 (d := d - 1) (by omega) σ) (by omega) lX11_58 dX11_write_30 rfl (Nat.le_of_ble_eq_true rfl) rfl ?_
      have hsp : sp_write α (nI j) x v = FM α := by simp only [sp_write, b_1, eq_true c_23, kj, eq_self, ne_eq, not_true_eq_false, not_false_eq_true, Classical.not_not, decide_true, decide_false, and_true, true_and, and_false, false_and, and_self, or_true, true_or, or_false, false_or, or_self, if_true, if_false, ite_true, ite_false, Bool.eq_false_iff, Bool.not_eq_eq_eq_not, Bool.true_eq_false, Bool.false_eq_true, reduceCtorEq]
      exact r_P C hr dX11_write_33 (by rw [hsp]; exact XPo_fnd hA hC (i := 5) (by decide) _)
  · refine g_if_ne (pc := 4) (tgt := 14) C dX11_write_4 (by decide) (fun c => absurd c (by decide)) (fun _ => ?_)
    refine g_al0n (pc := 7) C dX11_write_7 ?_
    refine g_ldc (pc := 8) C dX11_write_8 kX11_57 ?_
    refine s_VI (pc := 10) (st := []) C h0 rfl (c_found0 (d := d - 1) (by omega) σ) (by omega) lX11_58 dX11_write_10 rfl (Nat.le_of_ble_eq_true rfl) rfl ?_
    have hsp : sp_write α s x v = FB α := by simp only [sp_write, b_1, eq_self, ne_eq, not_true_eq_false, not_false_eq_true, Classical.not_not, decide_true, decide_false, and_true, true_and, and_false, false_and, and_self, or_true, true_or, or_false, false_or, or_self, if_true, if_false, ite_true, ite_false, Bool.eq_false_iff, Bool.not_eq_eq_eq_not, Bool.true_eq_false, Bool.false_eq_true, reduceCtorEq]
    exact r_P C hr dX11_write_13 (by rw [hsp]; exact XPo_fnd hA hC (i := 0) (by decide) _)

theorem lp_lay {μ : Mx} {ω : Om} {d : Nat} (hd : 1 ≤ d) (C : Cx μ ω "TowField$Sheets" cX6_lay 5 d) (hr : (mH μ).sig.returnType = some .int) (σ : Sg) {j : Nat} (hj : j < 4) (b n : Int32) {k : Nat} (hk : k ≤ 24) : ∀ (f i : Nat) (τ : Sg), i + f = k → (LAY σ j b k i τ) → G μ ω (RQ μ ω (pP (fun v t => v = nI k ∧ LAY σ j b k k t))) 25 [some (.ref 123), some (.int (nI j)), some (.int b), some (.int n), some (.int (nI i))] [] (mk τ) 0 0 := by
  intro f
  induction f with
  | zero =>
    intro i τ hif hv
    have hin : i = k := by omega
    refine g_il4 (pc := 25) C dX6_lay_25 ?_
    refine g_al0n (pc := 27) C dX6_lay_27 ?_
    refine s_getR (pc := 28) C fX6_13 h123 rfl dX6_lay_28 ?_
    refine g_il1n (pc := 31) C dX6_lay_31 ?_
    refine s_ialdv (pc := 32) (q := j) (v := nI k) C h125 rfl (by omega) (Nat.le_of_ble_eq_true rfl) (by rw [hv.2.1, upd_at]) dX6_lay_32 ?_
    refine g_icmp_geL (pc := 33) (tgt := 52) C dX6_lay_33 (by decide) (fun c_33 => ?_) (fun c_33 => absurd c_33 (nI_nlt (by omega) (by omega)))
    refine g_al0n (pc := 52) C dX6_lay_52 ?_
    refine s_getR (pc := 53) C fX6_13 h123 rfl dX6_lay_53 ?_
    refine g_il1n (pc := 56) C dX6_lay_56 ?_
    refine s_ialdv (pc := 57) (q := j) (v := nI k) C h125 rfl (by omega) (Nat.le_of_ble_eq_true rfl) (by rw [hv.2.1, upd_at]) dX6_lay_57 ?_
    exact r_P C hr dX6_lay_58 ⟨rfl, by rw [hin] at hv; exact hv⟩
  | succ f ih =>
    intro i τ hif hv
    refine g_il4 (pc := 25) C dX6_lay_25 ?_
    refine g_al0n (pc := 27) C dX6_lay_27 ?_
    refine s_getR (pc := 28) C fX6_13 h123 rfl dX6_lay_28 ?_
    refine g_il1n (pc := 31) C dX6_lay_31 ?_
    refine s_ialdv (pc := 32) (q := j) (v := nI k) C h125 rfl (by omega) (Nat.le_of_ble_eq_true rfl) (by rw [hv.2.1, upd_at]) dX6_lay_32 ?_
    refine g_icmp_geL (pc := 33) (tgt := 52) C dX6_lay_33 (by decide) (fun c_33 => absurd (nI_lt (by omega) (by omega)) c_33) (fun c_33 => ?_)
    refine g_al0n (pc := 36) C dX6_lay_36 ?_
    refine s_getR (pc := 37) C fX6_18 h123 rfl dX6_lay_37 ?_
    refine g_il1n (pc := 40) C dX6_lay_40 ?_
    refine s_aald (pc := 41) (q := j) C h126 (by decide) rfl (rows4 j (by omega)) (by decide) dX6_lay_41 ?_
    refine g_il4 (pc := 42) C dX6_lay_42 ?_
    refine g_iconst (pc := 44) (v := 0) C dX6_lay_44 (by decide) ?_
    refine s_iast (pc := 45) (q := i) C (sh24 (j := j) (by omega)) rfl (by omega) (Nat.le_of_ble_eq_true rfl) dX6_lay_45 ?_
    refine g_ii4 (pc := 46) (v := nI (i + 1)) C dX6_lay_46 (nI_inc1 _) ?_
    refine g_goto (pc := 49) (tgt := 25) C dX6_lay_49 (by decide) ?_
    exact ih (i + 1) _ (by omega) (LAY_s hv)

theorem c_lay {d : Nat} (hd : 1 ≤ d) (σ : Sg) {j : Nat} (hj : j < 4) (b n : Int32) {k : Nat} (hk : k ≤ 24) (hsz : (if b = 0 then 0 else n) = nI k) : CP d mX6_lay [.ref 123, .int (nI j), .int b, .int n] σ (fun v t => v = nI k ∧ LAY σ j b k k t) := by
  refine con_of (by decide) (catL rfl) (Nat.le_of_ble_eq_true rfl) ?_
  intro μ ω C hr
  have C : Cx μ ω "TowField$Sheets" cX6_lay 5 d := C
  have hr : (mH μ).sig.returnType = some .int := hr
  show G μ ω (RQ μ ω (pP (fun v t => v = nI k ∧ LAY σ j b k k t))) 0 [some (.ref 123), some (.int (nI j)), some (.int b), some (.int n), none] [] (mk σ) 0 0
  refine g_al0n (pc := 0) C dX6_lay_0 ?_
  refine s_getR (pc := 1) C fX6_9 h123 rfl dX6_lay_1 ?_
  refine g_il1n (pc := 4) C dX6_lay_4 ?_
  refine g_il2n (pc := 5) C dX6_lay_5 ?_
  refine s_iast (pc := 6) (q := j) C h124 rfl (by omega) (Nat.le_of_ble_eq_true rfl) dX6_lay_6 ?_
  refine g_al0n (pc := 7) C dX6_lay_7 ?_
  refine s_getR (pc := 8) C fX6_13 h123 rfl dX6_lay_8 ?_
  refine g_il1n (pc := 11) C dX6_lay_11 ?_
  refine g_il2n (pc := 12) C dX6_lay_12 ?_
  refine g_if_ne (pc := 13) (tgt := 20) C dX6_lay_13 (by decide) (fun c_13 => ?_) (fun c_13 => ?_)
  · refine g_il3n (pc := 20) C dX6_lay_20 ?_
    refine s_iast (pc := 21) (q := j) C h125 rfl (by omega) (Nat.le_of_ble_eq_true rfl) dX6_lay_21 ?_
    refine g_iconst (pc := 22) (v := 0) C dX6_lay_22 (by decide) ?_
    refine g_is4 (pc := 23) C dX6_lay_23 ?_
    have e0 : up (up σ 124 j b) 125 j n = up (up σ 124 j b) 125 j (nI k) := by rw [← hsz, if_neg c_13]
    rw [e0]
    exact lp_lay hd C hr σ hj b n hk k 0 _ (by omega) ⟨by rw [up_ne _ _ _ (by omega), up_at], by rw [up_at, up_ne _ _ _ (by omega)], fun x hx => by omega, fun q h1 h2 h3 => by rw [up_ne _ _ _ h2, up_ne _ _ _ h1]⟩
  · refine g_iconst (pc := 16) (v := 0) C dX6_lay_16 (by decide) ?_
    refine g_goto (pc := 17) (tgt := 21) C dX6_lay_17 (by decide) ?_
    refine s_iast (pc := 21) (q := j) C h125 rfl (by omega) (Nat.le_of_ble_eq_true rfl) dX6_lay_21 ?_
    refine g_iconst (pc := 22) (v := 0) C dX6_lay_22 (by decide) ?_
    refine g_is4 (pc := 23) C dX6_lay_23 ?_
    have e0 : up (up σ 124 j b) 125 j 0 = up (up σ 124 j b) 125 j (nI k) := by rw [← hsz, if_pos c_13]
    rw [e0]
    exact lp_lay hd C hr σ hj b n hk k 0 _ (by omega) ⟨by rw [up_ne _ _ _ (by omega), up_at], by rw [up_at, up_ne _ _ _ (by omega)], fun x hx => by omega, fun q h1 h2 h3 => by rw [up_ne _ _ _ h2, up_ne _ _ _ h1]⟩

theorem x_sheet {d : Nat} (hd : 4 ≤ d) (σ : Sg) {α : Al} (hA : IA α) (hC : RC σ α) (s b n : Int32) : CP d mX11_sheet [.ref 0, .int s, .int b, .int n] σ (XPo σ (sp_sheet α s b n)) := by
  have hI := hA.i
  have hR := hC.w
  refine con_of (by decide) (catL rfl) (Nat.le_of_ble_eq_true rfl) ?_
  intro μ ω C hr
  have C : Cx μ ω "TowField" cX11_sheet 4 d := C
  have hr : (mH μ).sig.returnType = some .int := hr
  show G μ ω (RQ μ ω (pP (XPo σ (sp_sheet α s b n)))) 0 [some (.ref 0), some (.int s), some (.int b), some (.int n)] [] (mk σ) 0 0
  refine g_il1n (pc := 0) C dX11_sheet_0 ?_
  refine s_SB (pc := 1) (st := []) C (c_X6_has (d := d - 1) (by omega) σ s) (by omega) lX11_258 dX11_sheet_1 rfl (Nat.le_of_ble_eq_true rfl) rfl (fun b_1 => ?_) (fun b_1 => ?_)
  · obtain ⟨j, hj, rfl⟩ := rg b_1 (B := 3) (by decide)
    have kj : (nI j).toNatClampNeg = j := nI_clamp (by omega)
    refine g_if_eq (pc := 4) (tgt := 14) C dX11_sheet_4 (by decide) (fun c => absurd c (by decide)) (fun _ => ?_)
    refine g_il2n (pc := 7) C dX11_sheet_7 ?_
    refine s_SB (pc := 8) (st := []) C (c_isBits (d := d - 1) (by omega) σ b) (by omega) lX11_282 dX11_sheet_8 rfl (Nat.le_of_ble_eq_true rfl) rfl (fun b_8 => ?_) (fun b_8 => ?_)
    · refine g_if_ne (pc := 11) (tgt := 21) C dX11_sheet_11 (by decide) (fun _ => ?_) (fun c => absurd c (by decide))
      refine g_il3n (pc := 21) C dX11_sheet_21 ?_
      refine g_if_geL (pc := 22) (tgt := 33) C dX11_sheet_22 (by decide) (fun c_22 => ?_) (fun c_22 => ?_)
      · refine g_il3n (pc := 33) C dX11_sheet_33 ?_
        refine g_bipush (pc := 34) (v := 24) C dX11_sheet_34 (by decide) ?_
        refine g_icmp_leL (pc := 36) (tgt := 46) C dX11_sheet_36 (by decide) (fun c_36 => ?_) (fun c_36 => ?_)
        · obtain ⟨m, hm, em⟩ := rg (w := n) (B := 24) ⟨Int32.not_lt.mp c_22, Int32.not_lt.mp c_36⟩ (by decide)
          obtain ⟨k, hk, hsz⟩ : ∃ k, k ≤ 24 ∧ (if b = 0 then 0 else n) = nI k := by
            by_cases hb0 : b = 0
            · exact ⟨0, by omega, by rw [if_pos hb0]; rfl⟩
            · exact ⟨m, hm, by rw [if_neg hb0]; exact em⟩
          refine g_al0n (pc := 46) C dX11_sheet_46 ?_
          refine s_getR (pc := 47) C fX11_34 h0 rfl dX11_sheet_47 ?_
          refine g_il1n (pc := 50) C dX11_sheet_50 ?_
          refine g_il2n (pc := 51) C dX11_sheet_51 ?_
          refine g_il3n (pc := 52) C dX11_sheet_52 ?_
          refine s_VP (pc := 53) (st := []) C h123 rfl (c_lay (d := d - 1) (by omega) σ (by omega) b n hk hsz) (by omega) lX11_286 dX11_sheet_53 rfl (Nat.le_of_ble_eq_true rfl) rfl (fun v τ hw => ?_)
          obtain ⟨hv, hL⟩ := hw
          have hsp : sp_sheet α (nI j) b n = (nI k, sW α (upd (aW α) j b) (upd (aZ α) j (nI k)) (zrU (aU α) j 24)) := by simp only [sp_sheet, b_1, b_8, c_22, c_36, kj, hsz, eq_self, ne_eq, not_true_eq_false, not_false_eq_true, Classical.not_not, decide_true, decide_false, and_true, true_and, and_false, false_and, and_self, or_true, true_or, or_false, false_or, or_self, if_true, if_false, ite_true, ite_false, Bool.eq_false_iff, Bool.not_eq_eq_eq_not, Bool.true_eq_false, Bool.false_eq_true, reduceCtorEq]
          exact r_P C hr dX11_sheet_56 (XPo_lay hA hC (by omega) hk hL hv hsp)
        · refine g_al0n (pc := 39) C dX11_sheet_39 ?_
          refine g_ldc (pc := 40) C dX11_sheet_40 kX11_57 ?_
          refine s_VI (pc := 42) (st := []) C h0 rfl (c_found0 (d := d - 1) (by omega) σ) (by omega) lX11_58 dX11_sheet_42 rfl (Nat.le_of_ble_eq_true rfl) rfl ?_
          have hsp : sp_sheet α (nI j) b n = FB α := by simp only [sp_sheet, b_1, b_8, c_22, c_36, kj, eq_self, ne_eq, not_true_eq_false, not_false_eq_true, Classical.not_not, decide_true, decide_false, and_true, true_and, and_false, false_and, and_self, or_true, true_or, or_false, false_or, or_self, if_true, if_false, ite_true, ite_false, Bool.eq_false_iff, Bool.not_eq_eq_eq_not, Bool.true_eq_false, Bool.false_eq_true, reduceCtorEq]
          exact r_P C hr dX11_sheet_45 (by rw [hsp]; exact XPo_fnd hA hC (i := 0) (by decide) _)
      · refine g_al0n (pc := 25) C dX11_sheet_25 ?_
        refine g_ldcw (pc := 26) C dX11_sheet_26 kX11_285 ?_
        refine s_VI (pc := 29) (st := []) C h0 rfl (c_found6 (d := d - 1) (by omega) σ) (by omega) lX11_58 dX11_sheet_29 rfl (Nat.le_of_ble_eq_true rfl) rfl ?_
        have hsp : sp_sheet α (nI j) b n = FZ α := by simp only [sp_sheet, b_1, b_8, c_22, kj, eq_self, ne_eq, not_true_eq_false, not_false_eq_true, Classical.not_not, decide_true, decide_false, and_true, true_and, and_false, false_and, and_self, or_true, true_or, or_false, false_or, or_self, if_true, if_false, ite_true, ite_false, Bool.eq_false_iff, Bool.not_eq_eq_eq_not, Bool.true_eq_false, Bool.false_eq_true, reduceCtorEq]
        exact r_P C hr dX11_sheet_32 (by rw [hsp]; exact XPo_fnd hA hC (i := 6) (by decide) _)
    · refine g_if_ne (pc := 11) (tgt := 21) C dX11_sheet_11 (by decide) (fun c => absurd c (by decide)) (fun _ => ?_)
      refine g_al0n (pc := 14) C dX11_sheet_14 ?_
      refine g_ldc (pc := 15) C dX11_sheet_15 kX11_57 ?_
      refine s_VI (pc := 17) (st := []) C h0 rfl (c_found0 (d := d - 1) (by omega) σ) (by omega) lX11_58 dX11_sheet_17 rfl (Nat.le_of_ble_eq_true rfl) rfl ?_
      have hsp : sp_sheet α (nI j) b n = FB α := by simp only [sp_sheet, b_1, b_8, kj, eq_self, ne_eq, not_true_eq_false, not_false_eq_true, Classical.not_not, decide_true, decide_false, and_true, true_and, and_false, false_and, and_self, or_true, true_or, or_false, false_or, or_self, if_true, if_false, ite_true, ite_false, Bool.eq_false_iff, Bool.not_eq_eq_eq_not, Bool.true_eq_false, Bool.false_eq_true, reduceCtorEq]
      exact r_P C hr dX11_sheet_20 (by rw [hsp]; exact XPo_fnd hA hC (i := 0) (by decide) _)
  · refine g_if_eq (pc := 4) (tgt := 14) C dX11_sheet_4 (by decide) (fun _ => ?_) (fun c => absurd c (by decide))
    refine g_al0n (pc := 14) C dX11_sheet_14 ?_
    refine g_ldc (pc := 15) C dX11_sheet_15 kX11_57 ?_
    refine s_VI (pc := 17) (st := []) C h0 rfl (c_found0 (d := d - 1) (by omega) σ) (by omega) lX11_58 dX11_sheet_17 rfl (Nat.le_of_ble_eq_true rfl) rfl ?_
    have hsp : sp_sheet α s b n = FB α := by simp only [sp_sheet, b_1, eq_self, ne_eq, not_true_eq_false, not_false_eq_true, Classical.not_not, decide_true, decide_false, and_true, true_and, and_false, false_and, and_self, or_true, true_or, or_false, false_or, or_self, if_true, if_false, ite_true, ite_false, Bool.eq_false_iff, Bool.not_eq_eq_eq_not, Bool.true_eq_false, Bool.false_eq_true, reduceCtorEq]
    exact r_P C hr dX11_sheet_20 (by rw [hsp]; exact XPo_fnd hA hC (i := 0) (by decide) _)

theorem c_hasPart {d : Nat} (hd : 1 ≤ d) (σ : Sg) {j z : Nat} (hj : j < 4) (hz : σ 125 j = nI z) (f n : Int32) : CB d mX6_hasPart [.ref 123, .int (nI j), .int f, .int n] σ (¬ f < 0 ∧ ¬ n < 0 ∧ ¬ nI z < n ∧ ¬ nI z - n < f) σ := by
  refine con_of (by decide) (catL rfl) (Nat.le_of_ble_eq_true rfl) ?_
  intro μ ω C hr
  have C : Cx μ ω "TowField$Sheets" cX6_hasPart 4 d := C
  have hr : (mH μ).sig.returnType = some .boolean := hr
  show G μ ω (RQ μ ω (pB (¬ f < 0 ∧ ¬ n < 0 ∧ ¬ nI z < n ∧ ¬ nI z - n < f) σ)) 0 [some (.ref 123), some (.int (nI j)), some (.int f), some (.int n)] [] (mk σ) 0 0
  refine g_il2n (pc := 0) C dX6_hasPart_0 ?_
  refine g_if_lt (pc := 1) (tgt := 34) C dX6_hasPart_1 (by decide) (fun c_1 => ?_) (fun c_1 => ?_)
  · refine g_iconst (pc := 34) (v := 0) C dX6_hasPart_34 (by decide) ?_
    exact r_B0 C hr dX6_hasPart_35 (fun q => q.1 c_1) rfl
  · refine g_il3n (pc := 4) C dX6_hasPart_4 ?_
    refine g_if_lt (pc := 5) (tgt := 34) C dX6_hasPart_5 (by decide) (fun c_5 => ?_) (fun c_5 => ?_)
    · refine g_iconst (pc := 34) (v := 0) C dX6_hasPart_34 (by decide) ?_
      exact r_B0 C hr dX6_hasPart_35 (fun q => q.2.1 c_5) rfl
    · refine g_il3n (pc := 8) C dX6_hasPart_8 ?_
      refine g_al0n (pc := 9) C dX6_hasPart_9 ?_
      refine s_getR (pc := 10) C fX6_13 h123 rfl dX6_hasPart_10 ?_
      refine g_il1n (pc := 13) C dX6_hasPart_13 ?_
      refine s_ialdv (pc := 14) (q := j) (v := nI z) C h125 rfl (by omega) (Nat.le_of_ble_eq_true rfl) hz dX6_hasPart_14 ?_
      refine g_icmp_gt (pc := 15) (tgt := 34) C dX6_hasPart_15 (by decide) (fun c_15 => ?_) (fun c_15 => ?_)
      · refine g_iconst (pc := 34) (v := 0) C dX6_hasPart_34 (by decide) ?_
        exact r_B0 C hr dX6_hasPart_35 (fun q => q.2.2.1 c_15) rfl
      · refine g_il2n (pc := 18) C dX6_hasPart_18 ?_
        refine g_al0n (pc := 19) C dX6_hasPart_19 ?_
        refine s_getR (pc := 20) C fX6_13 h123 rfl dX6_hasPart_20 ?_
        refine g_il1n (pc := 23) C dX6_hasPart_23 ?_
        refine s_ialdv (pc := 24) (q := j) (v := nI z) C h125 rfl (by omega) (Nat.le_of_ble_eq_true rfl) hz dX6_hasPart_24 ?_
        refine g_il3n (pc := 25) C dX6_hasPart_25 ?_
        refine g_isub (pc := 26) C dX6_hasPart_26 ?_
        refine g_icmp_gt (pc := 27) (tgt := 34) C dX6_hasPart_27 (by decide) (fun c_27 => ?_) (fun c_27 => ?_)
        · refine g_iconst (pc := 34) (v := 0) C dX6_hasPart_34 (by decide) ?_
          exact r_B0 C hr dX6_hasPart_35 (fun q => q.2.2.2 c_27) rfl
        · refine g_iconst (pc := 30) (v := 1) C dX6_hasPart_30 (by decide) ?_
          refine g_goto (pc := 31) (tgt := 35) C dX6_hasPart_31 (by decide) ?_
          exact r_B1 C hr dX6_hasPart_35 ⟨c_1, c_5, c_15, c_27⟩ rfl

theorem x_copy {d : Nat} (hd : 3 ≤ d) (σ : Sg) {α : Al} (hA : IA α) (hC : RC σ α) (s f t p n : Int32) : CP d mX11_copy [.ref 0, .int s, .int f, .int t, .int p, .int n] σ (XPo σ (sp_copy α s f t p n)) := by
  have hI := hA.i
  have hR := hC.w
  refine con_of (by decide) (catL rfl) (Nat.le_of_ble_eq_true rfl) ?_
  intro μ ω C hr
  have C : Cx μ ω "TowField" cX11_copy 6 d := C
  have hr : (mH μ).sig.returnType = some .int := hr
  show G μ ω (RQ μ ω (pP (XPo σ (sp_copy α s f t p n)))) 0 [some (.ref 0), some (.int s), some (.int f), some (.int t), some (.int p), some (.int n)] [] (mk σ) 0 0
  refine g_il1n (pc := 0) C dX11_copy_0 ?_
  refine s_SB (pc := 1) (st := []) C (c_X6_has (d := d - 1) (by omega) σ s) (by omega) lX11_258 dX11_copy_1 rfl (Nat.le_of_ble_eq_true rfl) rfl (fun b_1 => ?_) (fun b_1 => ?_)
  · obtain ⟨i, hi, rfl⟩ := rg b_1 (B := 3) (by decide)
    have ki : (nI i).toNatClampNeg = i := nI_clamp (by omega)
    refine g_if_eq (pc := 4) (tgt := 14) C dX11_copy_4 (by decide) (fun c => absurd c (by decide)) (fun _ => ?_)
    refine g_il3n (pc := 7) C dX11_copy_7 ?_
    refine s_SB (pc := 8) (st := []) C (c_X6_has (d := d - 1) (by omega) σ t) (by omega) lX11_258 dX11_copy_8 rfl (Nat.le_of_ble_eq_true rfl) rfl (fun b_8 => ?_) (fun b_8 => ?_)
    · obtain ⟨j, hj, rfl⟩ := rg b_8 (B := 3) (by decide)
      have kj : (nI j).toNatClampNeg = j := nI_clamp (by omega)
      refine g_if_ne (pc := 11) (tgt := 21) C dX11_copy_11 (by decide) (fun _ => ?_) (fun c => absurd c (by decide))
      refine g_al0n (pc := 21) C dX11_copy_21 ?_
      refine s_getR (pc := 22) C fX11_34 h0 rfl dX11_copy_22 ?_
      refine s_getR (pc := 25) C fX11_259 h123 rfl dX11_copy_25 ?_
      refine g_il1n (pc := 28) C dX11_copy_28 ?_
      refine s_ialdv (pc := 29) (q := i) (v := aW α i) C h124 rfl (by omega) (Nat.le_of_ble_eq_true rfl) (hC.w0 (by omega)) dX11_copy_29 ?_
      refine g_if_eq (pc := 30) (tgt := 45) C dX11_copy_30 (by decide) (fun c_30 => ?_) (fun c_30 => ?_)
      · refine g_al0n (pc := 45) C dX11_copy_45 ?_
        refine g_ldcw (pc := 46) C dX11_copy_46 kX11_262 ?_
        refine s_VI (pc := 49) (st := []) C h0 rfl (c_found5 (d := d - 1) (by omega) σ) (by omega) lX11_58 dX11_copy_49 rfl (Nat.le_of_ble_eq_true rfl) rfl ?_
        have hsp : sp_copy α (nI i) f (nI j) p n = FM α := by simp only [sp_copy, b_1, b_8, eq_true c_30, ki, kj, eq_self, ne_eq, not_true_eq_false, not_false_eq_true, Classical.not_not, decide_true, decide_false, and_true, true_and, and_false, false_and, and_self, or_true, true_or, or_false, false_or, or_self, if_true, if_false, ite_true, ite_false, Bool.eq_false_iff, Bool.not_eq_eq_eq_not, Bool.true_eq_false, Bool.false_eq_true, reduceCtorEq]
        exact r_P C hr dX11_copy_52 (by rw [hsp]; exact XPo_fnd hA hC (i := 5) (by decide) _)
      · refine g_al0n (pc := 33) C dX11_copy_33 ?_
        refine s_getR (pc := 34) C fX11_34 h0 rfl dX11_copy_34 ?_
        refine s_getR (pc := 37) C fX11_259 h123 rfl dX11_copy_37 ?_
        refine g_il3n (pc := 40) C dX11_copy_40 ?_
        refine s_ialdv (pc := 41) (q := j) (v := aW α j) C h124 rfl (by omega) (Nat.le_of_ble_eq_true rfl) (hC.w0 (by omega)) dX11_copy_41 ?_
        refine g_if_ne (pc := 42) (tgt := 53) C dX11_copy_42 (by decide) (fun c_42 => ?_) (fun c_42 => ?_)
        · refine g_al0n (pc := 53) C dX11_copy_53 ?_
          refine s_getR (pc := 54) C fX11_34 h0 rfl dX11_copy_54 ?_
          refine s_getR (pc := 57) C fX11_259 h123 rfl dX11_copy_57 ?_
          refine g_il1n (pc := 60) C dX11_copy_60 ?_
          refine s_ialdv (pc := 61) (q := i) (v := aW α i) C h124 rfl (by omega) (Nat.le_of_ble_eq_true rfl) (hC.w0 (by omega)) dX11_copy_61 ?_
          refine g_al0n (pc := 62) C dX11_copy_62 ?_
          refine s_getR (pc := 63) C fX11_34 h0 rfl dX11_copy_63 ?_
          refine s_getR (pc := 66) C fX11_259 h123 rfl dX11_copy_66 ?_
          refine g_il3n (pc := 69) C dX11_copy_69 ?_
          refine s_ialdv (pc := 70) (q := j) (v := aW α j) C h124 rfl (by omega) (Nat.le_of_ble_eq_true rfl) (hC.w0 (by omega)) dX11_copy_70 ?_
          refine g_icmp_eq (pc := 71) (tgt := 81) C dX11_copy_71 (by decide) (fun c_71 => ?_) (fun c_71 => ?_)
          · obtain ⟨zs, hzs, es⟩ := hA.z i (by omega)
            obtain ⟨zt, hzt, et⟩ := hA.z j (by omega)
            refine g_al0n (pc := 81) C dX11_copy_81 ?_
            refine s_getR (pc := 82) C fX11_34 h0 rfl dX11_copy_82 ?_
            refine g_il1n (pc := 85) C dX11_copy_85 ?_
            refine g_il2n (pc := 86) C dX11_copy_86 ?_
            refine g_il5 (pc := 87) C dX11_copy_87 ?_
            refine s_VB (pc := 89) (st := []) C h123 rfl ((c_hasPart (d := d - 1) (by omega) σ (j := i) (z := zs) (by omega) ((hC.z0 (by omega)).trans es) f n).iff (part_iff hzs)) (by omega) lX11_293 dX11_copy_89 rfl (Nat.le_of_ble_eq_true rfl) rfl (fun b_89 => ?_) (fun b_89 => ?_)
            · refine g_if_eq (pc := 92) (tgt := 110) C dX11_copy_92 (by decide) (fun c => absurd c (by decide)) (fun _ => ?_)
              refine g_al0n (pc := 95) C dX11_copy_95 ?_
              refine s_getR (pc := 96) C fX11_34 h0 rfl dX11_copy_96 ?_
              refine g_il3n (pc := 99) C dX11_copy_99 ?_
              refine g_il4 (pc := 100) C dX11_copy_100 ?_
              refine g_il5 (pc := 102) C dX11_copy_102 ?_
              refine s_VB (pc := 104) (st := []) C h123 rfl ((c_hasPart (d := d - 1) (by omega) σ (j := j) (z := zt) (by omega) ((hC.z0 (by omega)).trans et) p n).iff (part_iff hzt)) (by omega) lX11_293 dX11_copy_104 rfl (Nat.le_of_ble_eq_true rfl) rfl (fun b_104 => ?_) (fun b_104 => ?_)
              · refine g_if_ne (pc := 107) (tgt := 117) C dX11_copy_107 (by decide) (fun _ => ?_) (fun c => absurd c (by decide))
                obtain ⟨f0, hf0, rfl, ef⟩ := toN b_89.1
                obtain ⟨m, hm0, rfl, em⟩ := toN b_89.2.1
                obtain ⟨p0, hp0, rfl, ep⟩ := toN b_104.1
                have kf0 : (nI f0).toNatClampNeg = f0 := nI_clamp hf0
                have km : (nI m).toNatClampNeg = m := nI_clamp hm0
                have kp0 : (nI p0).toNatClampNeg = p0 := nI_clamp hp0
                have hfm : f0 + m ≤ zs := by have := b_89.2.2; rw [nI_toInt hf0, nI_toInt hm0, nI_toInt (by omega)] at this; omega
                have hpm : p0 + m ≤ zt := by have := b_104.2.2; rw [nI_toInt hp0, nI_toInt hm0, nI_toInt (by omega)] at this; omega
                refine g_al0n (pc := 117) C dX11_copy_117 ?_
                refine s_getR (pc := 118) C fX11_34 h0 rfl dX11_copy_118 ?_
                refine s_getR (pc := 121) C fX11_268 h123 rfl dX11_copy_121 ?_
                refine g_il1n (pc := 124) C dX11_copy_124 ?_
                refine s_aald (pc := 125) (q := i) C h126 (by decide) rfl (rows4 i (by omega)) (by decide) dX11_copy_125 ?_
                refine g_il2n (pc := 126) C dX11_copy_126 ?_
                refine g_al0n (pc := 127) C dX11_copy_127 ?_
                refine s_getR (pc := 128) C fX11_34 h0 rfl dX11_copy_128 ?_
                refine s_getR (pc := 131) C fX11_268 h123 rfl dX11_copy_131 ?_
                refine g_il3n (pc := 134) C dX11_copy_134 ?_
                refine s_aald (pc := 135) (q := j) C h126 (by decide) rfl (rows4 j (by omega)) (by decide) dX11_copy_135 ?_
                refine g_il4 (pc := 136) C dX11_copy_136 ?_
                refine g_il5 (pc := 138) C dX11_copy_138 ?_
                refine s_copy (pc := 140) (p0 := f0) (p1 := p0) (c := m) C (sh24 (j := i) (by omega)) (sh24 (j := j) (by omega)) rfl rfl rfl (by omega) (by omega) (Nat.le_of_ble_eq_true rfl) (Nat.le_of_ble_eq_true rfl) lX11_296 (by omega) (Nat.le_of_ble_eq_true rfl) rfl dX11_copy_140 ?_
                refine g_il5 (pc := 143) C dX11_copy_143 ?_
                have hcd : (0 ≤ (nI f0).toInt ∧ 0 ≤ (nI p0).toInt ∧ 0 ≤ (nI m).toInt ∧ (nI f0).toInt + (nI m).toInt ≤ (aZ α i).toInt ∧ (nI p0).toInt + (nI m).toInt ≤ (aZ α j).toInt) := ⟨b_89.1, b_104.1, b_89.2.1, by rw [es]; exact b_89.2.2, by rw [et]; exact b_104.2.2⟩
                have hsp : sp_copy α (nI i) (nI f0) (nI j) (nI p0) (nI m) = (nI m, sW α (aW α) (aZ α) (cpU (aU α) (24 * i + f0) (24 * j + p0) m)) := by simp only [sp_copy, b_1, b_8, c_30, c_42, eq_true c_71, ki, kf0, kj, kp0, km, hcd, eq_self, ne_eq, not_true_eq_false, not_false_eq_true, Classical.not_not, decide_true, decide_false, and_true, true_and, and_false, false_and, and_self, or_true, true_or, or_false, false_or, or_self, if_true, if_false, ite_true, ite_false, Bool.eq_false_iff, Bool.not_eq_eq_eq_not, Bool.true_eq_false, Bool.false_eq_true, reduceCtorEq]
                exact r_P C hr dX11_copy_145 (XPo_copy hA hC (by omega) (by omega) es et hzs hzt hfm hpm rfl hsp)
              · refine g_if_ne (pc := 107) (tgt := 117) C dX11_copy_107 (by decide) (fun c => absurd c (by decide)) (fun _ => ?_)
                refine g_al0n (pc := 110) C dX11_copy_110 ?_
                refine g_ldc (pc := 111) C dX11_copy_111 kX11_57 ?_
                refine s_VI (pc := 113) (st := []) C h0 rfl (c_found0 (d := d - 1) (by omega) σ) (by omega) lX11_58 dX11_copy_113 rfl (Nat.le_of_ble_eq_true rfl) rfl ?_
                have hcd : ¬ (0 ≤ f.toInt ∧ 0 ≤ p.toInt ∧ 0 ≤ n.toInt ∧ f.toInt + n.toInt ≤ (aZ α i).toInt ∧ p.toInt + n.toInt ≤ (aZ α j).toInt) := fun y => b_104 ⟨y.2.1, y.2.2.1, by rw [← et]; exact y.2.2.2.2⟩
                have hsp : sp_copy α (nI i) f (nI j) p n = FB α := by simp only [sp_copy, b_1, b_8, c_30, c_42, eq_true c_71, ki, kj, hcd, eq_self, ne_eq, not_true_eq_false, not_false_eq_true, Classical.not_not, decide_true, decide_false, and_true, true_and, and_false, false_and, and_self, or_true, true_or, or_false, false_or, or_self, if_true, if_false, ite_true, ite_false, Bool.eq_false_iff, Bool.not_eq_eq_eq_not, Bool.true_eq_false, Bool.false_eq_true, reduceCtorEq]
                exact r_P C hr dX11_copy_116 (by rw [hsp]; exact XPo_fnd hA hC (i := 0) (by decide) _)
            · refine g_if_eq (pc := 92) (tgt := 110) C dX11_copy_92 (by decide) (fun _ => ?_) (fun c => absurd c (by decide))
              refine g_al0n (pc := 110) C dX11_copy_110 ?_
              refine g_ldc (pc := 111) C dX11_copy_111 kX11_57 ?_
              refine s_VI (pc := 113) (st := []) C h0 rfl (c_found0 (d := d - 1) (by omega) σ) (by omega) lX11_58 dX11_copy_113 rfl (Nat.le_of_ble_eq_true rfl) rfl ?_
              have hcd : ¬ (0 ≤ f.toInt ∧ 0 ≤ p.toInt ∧ 0 ≤ n.toInt ∧ f.toInt + n.toInt ≤ (aZ α i).toInt ∧ p.toInt + n.toInt ≤ (aZ α j).toInt) := fun y => b_89 ⟨y.1, y.2.2.1, by rw [← es]; exact y.2.2.2.1⟩
              have hsp : sp_copy α (nI i) f (nI j) p n = FB α := by simp only [sp_copy, b_1, b_8, c_30, c_42, eq_true c_71, ki, kj, hcd, eq_self, ne_eq, not_true_eq_false, not_false_eq_true, Classical.not_not, decide_true, decide_false, and_true, true_and, and_false, false_and, and_self, or_true, true_or, or_false, false_or, or_self, if_true, if_false, ite_true, ite_false, Bool.eq_false_iff, Bool.not_eq_eq_eq_not, Bool.true_eq_false, Bool.false_eq_true, reduceCtorEq]
              exact r_P C hr dX11_copy_116 (by rw [hsp]; exact XPo_fnd hA hC (i := 0) (by decide) _)
          · refine g_al0n (pc := 74) C dX11_copy_74 ?_
            refine g_ldc (pc := 75) C dX11_copy_75 kX11_208 ?_
            refine s_VI (pc := 77) (st := []) C h0 rfl (c_found2 (d := d - 1) (by omega) σ) (by omega) lX11_58 dX11_copy_77 rfl (Nat.le_of_ble_eq_true rfl) rfl ?_
            have hsp : sp_copy α (nI i) f (nI j) p n = FK α := by simp only [sp_copy, b_1, b_8, c_30, c_42, c_71, ki, kj, eq_self, ne_eq, not_true_eq_false, not_false_eq_true, Classical.not_not, decide_true, decide_false, and_true, true_and, and_false, false_and, and_self, or_true, true_or, or_false, false_or, or_self, if_true, if_false, ite_true, ite_false, Bool.eq_false_iff, Bool.not_eq_eq_eq_not, Bool.true_eq_false, Bool.false_eq_true, reduceCtorEq]
            exact r_P C hr dX11_copy_80 (by rw [hsp]; exact XPo_fnd hA hC (i := 2) (by decide) _)
        · refine g_al0n (pc := 45) C dX11_copy_45 ?_
          refine g_ldcw (pc := 46) C dX11_copy_46 kX11_262 ?_
          refine s_VI (pc := 49) (st := []) C h0 rfl (c_found5 (d := d - 1) (by omega) σ) (by omega) lX11_58 dX11_copy_49 rfl (Nat.le_of_ble_eq_true rfl) rfl ?_
          have hsp : sp_copy α (nI i) f (nI j) p n = FM α := by simp only [sp_copy, b_1, b_8, c_30, eq_true c_42, ki, kj, eq_self, ne_eq, not_true_eq_false, not_false_eq_true, Classical.not_not, decide_true, decide_false, and_true, true_and, and_false, false_and, and_self, or_true, true_or, or_false, false_or, or_self, if_true, if_false, ite_true, ite_false, Bool.eq_false_iff, Bool.not_eq_eq_eq_not, Bool.true_eq_false, Bool.false_eq_true, reduceCtorEq]
          exact r_P C hr dX11_copy_52 (by rw [hsp]; exact XPo_fnd hA hC (i := 5) (by decide) _)
    · refine g_if_ne (pc := 11) (tgt := 21) C dX11_copy_11 (by decide) (fun c => absurd c (by decide)) (fun _ => ?_)
      refine g_al0n (pc := 14) C dX11_copy_14 ?_
      refine g_ldc (pc := 15) C dX11_copy_15 kX11_57 ?_
      refine s_VI (pc := 17) (st := []) C h0 rfl (c_found0 (d := d - 1) (by omega) σ) (by omega) lX11_58 dX11_copy_17 rfl (Nat.le_of_ble_eq_true rfl) rfl ?_
      have hsp : sp_copy α (nI i) f t p n = FB α := by simp only [sp_copy, b_1, b_8, ki, eq_self, ne_eq, not_true_eq_false, not_false_eq_true, Classical.not_not, decide_true, decide_false, and_true, true_and, and_false, false_and, and_self, or_true, true_or, or_false, false_or, or_self, if_true, if_false, ite_true, ite_false, Bool.eq_false_iff, Bool.not_eq_eq_eq_not, Bool.true_eq_false, Bool.false_eq_true, reduceCtorEq]
      exact r_P C hr dX11_copy_20 (by rw [hsp]; exact XPo_fnd hA hC (i := 0) (by decide) _)
  · refine g_if_eq (pc := 4) (tgt := 14) C dX11_copy_4 (by decide) (fun _ => ?_) (fun c => absurd c (by decide))
    refine g_al0n (pc := 14) C dX11_copy_14 ?_
    refine g_ldc (pc := 15) C dX11_copy_15 kX11_57 ?_
    refine s_VI (pc := 17) (st := []) C h0 rfl (c_found0 (d := d - 1) (by omega) σ) (by omega) lX11_58 dX11_copy_17 rfl (Nat.le_of_ble_eq_true rfl) rfl ?_
    have hsp : sp_copy α s f t p n = FB α := by simp only [sp_copy, b_1, eq_self, ne_eq, not_true_eq_false, not_false_eq_true, Classical.not_not, decide_true, decide_false, and_true, true_and, and_false, false_and, and_self, or_true, true_or, or_false, false_or, or_self, if_true, if_false, ite_true, ite_false, Bool.eq_false_iff, Bool.not_eq_eq_eq_not, Bool.true_eq_false, Bool.false_eq_true, reduceCtorEq]
    exact r_P C hr dX11_copy_20 (by rw [hsp]; exact XPo_fnd hA hC (i := 0) (by decide) _)

