/-! ===== what stays well made ===== -/
theorem INV_congr {ν ν' : Nu} (h : INV ν) (hm : ∃ m, m ≤ 5000 ∧ ν' 0 = nI m) (hk : ∀ j, (3 ≤ j ∧ j ≤ 8) ∨ (10 ≤ j ∧ j < 20) ∨ j = 26 ∨ (50 ≤ j ∧ j < 90) ∨ 346 ≤ j → ν' j = ν j)
    (ha : ∀ a f, a < 20 → f < 5 → aA ν' a f = aA ν a f) (h6 : ∀ a, a < cnt ν 7 → isN (aA ν' a 6) 4)
    (hd : ∀ a a', a < cnt ν 7 → a' < cnt ν 7 → aA ν' a 6 = 1 → aA ν' a' 6 = 1 → a ≠ a' → aA ν a 2 ≠ aA ν a' 2 ∧ aA ν a 0 ≠ aA ν a' 0 ∧ aA ν a 0 ≠ aA ν a' 1 ∧ aA ν a 1 ≠ aA ν a' 0 ∧ (aA ν a 1 = -1 ∨ aA ν a 1 ≠ aA ν a' 1)) : INV ν' := by
  have e3 : ν' 3 = ν 3 := hk 3 (by omega)
  have e4 : ν' 4 = ν 4 := hk 4 (by omega)
  have e5 : ν' 5 = ν 5 := hk 5 (by omega)
  have e6 : ν' 6 = ν 6 := hk 6 (by omega)
  have e7 : ν' 7 = ν 7 := hk 7 (by omega)
  have e8 : ν' 8 = ν 8 := hk 8 (by omega)
  have c3 : cnt ν' 3 = cnt ν 3 := by unfold cnt; rw [e3]
  have c4 : cnt ν' 4 = cnt ν 4 := by unfold cnt; rw [e4]
  have c7 : cnt ν' 7 = cnt ν 7 := by unfold cnt; rw [e7]
  have c8 : cnt ν' 8 = cnt ν 8 := by unfold cnt; rw [e8]
  have n3 := h.n3.2
  have n7 := h.n7.2
  have n8 := h.n8.2
  obtain ⟨-, h1, ⟨h2, h3⟩, h4, h5, h7, -, h8, h9⟩ := h
  refine ⟨hm, by rw [e3, e4, e5, e6, e7, e8]; exact h1, ⟨fun u hu => by rw [hk _ (by omega)]; exact h2 u hu, fun k hk6 => by rw [hk _ (by omega)]; exact h3 k hk6⟩, by rw [hk 26 (by omega)]; exact h4, fun g hg => ?_, fun a hal => ?_, fun a a' hal hal' => ?_, fun t ht => ?_, fun j hj => by rw [hk j (by omega)]; exact h9 j hj⟩
  · rw [c3] at hg
    rw [c4]
    obtain ⟨o, ho, e⟩ := h5 g hg
    refine ⟨o, ho, ?_⟩
    unfold aG at e ⊢
    rw [hk _ (by omega)]
    exact e
  · rw [c7] at hal
    rw [c3, c4, ha a 0 (by omega) (by omega), ha a 1 (by omega) (by omega), ha a 2 (by omega) (by omega), ha a 3 (by omega) (by omega), ha a 4 (by omega) (by omega)]
    obtain ⟨x0, x1, x2, x3, x4, -⟩ := h7 a hal
    exact ⟨x0, x1, x2, x3, x4, h6 a hal⟩
  · rw [c7] at hal hal'
    rw [ha a 0 (by omega) (by omega), ha a 1 (by omega) (by omega), ha a 2 (by omega) (by omega), ha a' 0 (by omega) (by omega), ha a' 1 (by omega) (by omega), ha a' 2 (by omega) (by omega)]
    exact hd a a' hal hal'
  · rw [c8] at ht
    obtain ⟨x0, ⟨n, x1, x2, x3⟩, x4⟩ := h8 t ht
    have el : lenT ν' t = lenT ν t := by unfold lenT; rw [hk _ (by omega)]
    have ec : codes ν' t = codes ν t := by
      funext k
      unfold codes
      exact hk _ (by omega)
    refine ⟨by rw [hk _ (by omega)]; exact x0, ⟨n, x1, x2, by rw [hk _ (by omega)]; exact x3⟩, by rw [el, ec]; exact x4⟩
theorem downS_keep {ν : Nu} (h : INV ν) {a j : Nat} (ha : a < cnt ν 7) (hj : j < 20 ∨ (26 ≤ j ∧ j < 90) ∨ 346 ≤ j ∨ (146 ≤ j ∧ j ≠ 146 + 10 * a + 6 ∧ j ≠ 146 + 10 * a + 8 ∧ j ≠ 146 + 10 * a + 9)) : downS ν a j = ν j := by
  have hn7 := h.n7.2
  have hn4 := h.n4.2
  have hl := (h.lane (u := 2) (by decide)).2
  have hl : (ν 18).toNatClampNeg < 6 := hl
  have hp := (h.who ha).2
  unfold downS
  try simp only
  split
  · simp (disch := omega) only [upd_ne]
  · rename_i hw
    have hw2 := (h.wth ha hw).2
    simp (disch := omega) only [upd_ne]
theorem downS_how {ν : Nu} (h : INV ν) {a : Nat} (ha : a < cnt ν 7) : downS ν a (146 + 10 * a + 6) = 2 := by
  have hn7 := h.n7.2
  have hn4 := h.n4.2
  have hl : (ν 18).toNatClampNeg < 6 := (h.lane (u := 2) (by decide)).2
  have hp := (h.who ha).2
  unfold downS
  try simp only
  split
  · simp (disch := omega) only [upd_ne, upd_at]
  · rename_i hw
    have hw2 := (h.wth ha hw).2
    simp (disch := omega) only [upd_ne, upd_at]
theorem downS_busy {ν : Nu} (h : INV ν) {a : Nat} (ha : a < cnt ν 7) : downS ν a (20 + (ν 18).toNatClampNeg) = ν 0 + 2 := by
  have hn7 := h.n7.2
  have hn4 := h.n4.2
  have hl : (ν 18).toNatClampNeg < 6 := (h.lane (u := 2) (by decide)).2
  have hp := (h.who ha).2
  unfold downS
  try simp only
  split
  · simp (disch := omega) only [upd_ne, upd_at]
  · rename_i hw
    have hw2 := (h.wth ha hw).2
    simp (disch := omega) only [upd_ne, upd_at]
theorem INV_down {ν : Nu} (h : INV ν) {a : Nat} (ha : a < cnt ν 7) : INV (downS ν a) := by
  have hn7 := h.n7.2
  have hn3 := h.n3.2
  refine INV_congr h (by rw [downS_keep h ha (by omega)]; exact h.1) (fun j hj => downS_keep h ha (by omega)) (fun b f hb hf => by unfold aA; exact downS_keep h ha (by omega)) (fun b hb => ?_) (fun b b' hb hb' e e' hne => ?_)
  · unfold aA
    by_cases hba : b = a
    · rw [hba, downS_how h ha]; exact ⟨2, by omega, rfl⟩
    · rw [downS_keep h ha (by omega)]; exact (h.2.2.2.2.2.1 b hb).2.2.2.2.2
  · have fl : ∀ c, c < cnt ν 7 → aA (downS ν a) c 6 = 1 → aA ν c 6 = 1 := by
      intro c hc q
      unfold aA at q ⊢
      by_cases hca : c = a
      · rw [hca, downS_how h ha] at q; exact absurd q (by decide)
      · rw [downS_keep h ha (by omega)] at q; exact q
    exact h.2.2.2.2.2.2.1 b b' hb hb' (fl b hb e) (fl b' hb' e') hne
/-- a lane on which something goes on isn't clear -/
theorem clearL_no {ν : Nu} {l : Nat} (hl : l < 6) (hs : hb (ν (10 + l)) (nI l) = true) (hb : ν 0 < ν (20 + l)) : clearL ν l = false := by
  cases hc : clearL ν l with
  | false => rfl
  | true =>
    have := allL_iff.mp hc l hl
    unfold clrP at this
    rw [hs] at this
    simp only [Bool.not_true, Bool.false_or, decide_eq_true_eq] at this
    exact absurd this (Int32.not_le.mpr hb)
theorem lt_plus {m f : Nat} (h0 : 0 < f) (h : m + f < 2 ^ 31) : nI m < nI m + nI f := by
  rw [nI_add]
  exact nI_lt (by omega) h
theorem lands_down {ν : Nu} (h : INV ν) {a : Nat} (ha : a < cnt ν 7) : landsS (downS ν a) = none := by
  have hl := (h.lane (u := 2) (by decide))
  have hl1 : ν 18 = nI (ν 18).toNatClampNeg := hl.1
  have hl2 : (ν 18).toNatClampNeg < 6 := hl.2
  obtain ⟨m, hm1, hm2⟩ := h.1
  have e18 : downS ν a 18 = ν 18 := downS_keep h ha (by omega)
  have e0 : downS ν a 0 = ν 0 := downS_keep h ha (by omega)
  have hc : clearL (downS ν a) (downS ν a 18).toNatClampNeg = false := by
    rw [e18]
    refine clearL_no hl2 (by rw [downS_keep h ha (by omega)]; exact h.2.2.1.2 _ hl2) ?_
    rw [downS_busy h ha, e0, hm2]
    exact lt_plus (f := 2) (by omega) (by omega)
  unfold landsS
  cases bestD (downS ν a) (cnt (downS ν a) 7) with
  | none => rfl
  | some b => simp only [hc]; rfl
/-! a launch -/
theorem upS3_keep {ν : Nu} (h : INV ν) {a j : Nat} (ha : a < cnt ν 7) (hj : j < 20 ∨ (26 ≤ j ∧ j < 146) ∨ 346 ≤ j ∨ (146 ≤ j ∧ j ≠ 146 + 10 * a + 6 ∧ j ≠ 146 + 10 * a + 7)) : upS3 ν a j = ν j := by
  have hn7 := h.n7.2
  have hl := (laneA_ok h a).2
  unfold upS3
  simp (disch := omega) only [upd_ne]
theorem upS3_how {ν : Nu} (a : Nat) : upS3 ν a (146 + 10 * a + 6) = 1 := by
  unfold upS3
  simp (disch := omega) only [upd_ne, upd_at]
theorem fstL_congr {P P' : Nat → Bool} {n : Nat} (h : ∀ j, j < n → P j = P' j) : fstL P n = fstL P' n := by
  induction n with
  | zero => rfl
  | succ n ih =>
    show (match fstL P n with | some i => some i | none => if P n = true then some n else none) = (match fstL P' n with | some i => some i | none => if P' n = true then some n else none)
    rw [ih (fun j hj => h j (by omega)), h n (by omega)]
theorem help_up {ν : Nu} (h : INV ν) {a : Nat} (ha : a < cnt ν 7) (k : Int32) : helpK (upS3 ν a) k = helpK ν k := by
  have n5 := h.n5.2
  have n6 := h.n6.2
  have e5 : cnt (upS3 ν a) 5 = cnt ν 5 := by unfold cnt; rw [upS3_keep h ha (by omega)]
  have e6 : cnt (upS3 ν a) 6 = cnt ν 6 := by unfold cnt; rw [upS3_keep h ha (by omega)]
  have hw : winchF (upS3 ν a) k = winchF ν k := by
    unfold winchF
    rw [e5]
    refine fstL_congr (fun w hw => ?_)
    unfold winP aR
    rw [upS3_keep h ha (by omega), upS3_keep h ha (by omega)]
  have hp : planeT (upS3 ν a) = planeT ν := by
    unfold planeT
    rw [e6]
    refine fstL_congr (fun p hp => ?_)
    unfold plaP
    rw [upS3_keep h ha (by omega)]
  unfold helpK
  rw [hw, hp]
theorem upS_keep {ν : Nu} (h : INV ν) {a j : Nat} (ha : a < cnt ν 7) (hj : j < 20 ∨ (26 ≤ j ∧ j < 30) ∨ (45 ≤ j ∧ j < 146) ∨ 346 ≤ j ∨ (146 ≤ j ∧ j ≠ 146 + 10 * a + 6 ∧ j ≠ 146 + 10 * a + 7)) : upS ν a j = ν j := by
  have n5 := h.n5.2
  have n6 := h.n6.2
  have e5 : cnt (upS3 ν a) 5 = cnt ν 5 := by unfold cnt; rw [upS3_keep h ha (by omega)]
  have e6 : cnt (upS3 ν a) 6 = cnt ν 6 := by unfold cnt; rw [upS3_keep h ha (by omega)]
  have k3 : upS3 ν a j = ν j := upS3_keep h ha (by omega)
  unfold upS
  try simp only
  split
  · exact k3
  · split
    · cases hp : planeT (upS3 ν a) with
      | none => exact k3
      | some p =>
        have := fstL_lt hp
        simp only
        rw [upd_ne _ _ (by omega)]
        exact k3
    · cases hw : winchF (upS3 ν a) (ν (146 + 10 * a + 3)) with
      | none => exact k3
      | some w =>
        have := fstL_lt hw
        simp only
        split
        · rw [ropeS_keep (by omega) (by omega)]
          split <;> (rw [ropeS_keep (by omega) (by omega)]; exact k3)
        · split <;> (rw [ropeS_keep (by omega) (by omega)]; exact k3)
theorem upS_how {ν : Nu} (h : INV ν) {a : Nat} (ha : a < cnt ν 7) : upS ν a (146 + 10 * a + 6) = 1 := by
  have n5 := h.n5.2
  have n6 := h.n6.2
  have e5 : cnt (upS3 ν a) 5 = cnt ν 5 := by unfold cnt; rw [upS3_keep h ha (by omega)]
  have e6 : cnt (upS3 ν a) 6 = cnt ν 6 := by unfold cnt; rw [upS3_keep h ha (by omega)]
  have k3 : upS3 ν a (146 + 10 * a + 6) = 1 := upS3_how a
  unfold upS
  try simp only
  split
  · exact k3
  · split
    · cases hp : planeT (upS3 ν a) with
      | none => exact k3
      | some p =>
        have := fstL_lt hp
        simp only
        rw [upd_ne _ _ (by omega)]
        exact k3
    · cases hw : winchF (upS3 ν a) (ν (146 + 10 * a + 3)) with
      | none => exact k3
      | some w =>
        have := fstL_lt hw
        simp only
        split
        · rw [ropeS_keep (by omega) (by omega)]
          split <;> (rw [ropeS_keep (by omega) (by omega)]; exact k3)
        · split <;> (rw [ropeS_keep (by omega) (by omega)]; exact k3)
/-- what an ask that can go tells -/
theorem why0 {ν : Nu} {a : Nat} (h : whyA ν a = 0) : inRow ν (aA ν a 2) = true ∧ inAir ν (aA ν a 0) = false ∧ (¬ aA ν a 1 < 0 → inAir ν (aA ν a 1) = false) ∧ helpK ν (aA ν a 3) = true := by
  unfold whyA at h
  by_cases h1 : inRow ν (aA ν a 2) = false
  · rw [if_pos h1] at h; exact absurd h (by decide)
  rw [if_neg h1] at h
  unfold why2 at h
  split at h
  · exact absurd h (by decide)
  unfold why3 at h
  split at h
  · exact absurd h (by decide)
  unfold why4 at h
  split at h
  · exact absurd h (by decide)
  unfold why5 at h
  split at h
  · exact absurd h (by decide)
  unfold why6 at h
  split at h
  · exact absurd h (by decide)
  unfold why7 at h
  split at h
  · exact absurd h (by decide)
  unfold why8 at h
  by_cases h8 : inAir ν (aA ν a 0) = true ∨ (¬ aA ν a 1 < 0 ∧ inAir ν (aA ν a 1) = true)
  · rw [if_pos h8] at h; exact absurd h (by decide)
  rw [if_neg h8] at h
  unfold why9 at h
  split at h
  · exact absurd h (by decide)
  unfold why10 at h
  by_cases h10 : helpK ν (aA ν a 3) = false
  · rw [if_pos h10] at h; exact absurd h (by decide)
  refine ⟨by simpa using h1, ?_, fun hw => ?_, by simpa using h10⟩
  · cases hq : inAir ν (aA ν a 0) with
    | false => rfl
    | true => exact absurd (Or.inl hq) h8
  · cases hq : inAir ν (aA ν a 1) with
    | false => rfl
    | true => exact absurd (Or.inr ⟨hw, hq⟩) h8
theorem INV_up {ν : Nu} (h : INV ν) {a : Nat} (ha : a < cnt ν 7) (hw : whyA ν a = 0) : INV (upS ν a) := by
  have hn7 := h.n7.2
  have hn3 := h.n3.2
  obtain ⟨w1, w2, w3, w4⟩ := why0 hw
  refine INV_congr h (by rw [upS_keep h ha (by omega)]; exact h.1) (fun j hj => upS_keep h ha (by omega)) (fun b f hb hf => by unfold aA; exact upS_keep h ha (by omega)) (fun b hb => ?_) (fun b b' hb hb' e e' hne => ?_)
  · unfold aA
    by_cases hba : b = a
    · rw [hba, upS_how h ha]; exact ⟨1, by omega, rfl⟩
    · rw [upS_keep h ha (by omega)]; exact (h.2.2.2.2.2.1 b hb).2.2.2.2.2
  · have fl : ∀ c, c < cnt ν 7 → c ≠ a → aA (upS ν a) c 6 = 1 → aA ν c 6 = 1 := by
      intro c hc hca q
      unfold aA at q ⊢
      rw [upS_keep h ha (by omega)] at q; exact q
    -- a against one that flies already
    have key : ∀ c, c < cnt ν 7 → aA ν c 6 = 1 → aA ν c 2 ≠ aA ν a 2 ∧ aA ν c 0 ≠ aA ν a 0 ∧ aA ν c 1 ≠ aA ν a 0 ∧ (¬ aA ν a 1 < 0 → aA ν c 0 ≠ aA ν a 1 ∧ aA ν c 1 ≠ aA ν a 1) := by
      intro c hc q
      have r := allL_iff.mp w1 c hc
      unfold rowP at r
      rw [decide_eq_true q, Bool.true_and] at r
      have n1 : ¬ aA ν c 2 = aA ν a 2 := by simpa using r
      have air : ∀ p, inAir ν p = false → aA ν c 0 ≠ p ∧ aA ν c 1 ≠ p := by
        intro p hp
        constructor
        · intro e0
          have : inAir ν p = true := anyL_iff.mpr ⟨c, hc, by unfold airP; rw [decide_eq_true q, decide_eq_true e0]; rfl⟩
          rw [hp] at this; cases this
        · intro e0
          have : inAir ν p = true := anyL_iff.mpr ⟨c, hc, by unfold airP; rw [decide_eq_true q, decide_eq_true e0]; simp⟩
          rw [hp] at this; cases this
      exact ⟨n1, (air _ w2).1, (air _ w2).2, fun z => ⟨(air _ (w3 z)).1, (air _ (w3 z)).2⟩⟩
    have wth : ∀ c, c < cnt ν 7 → aA ν c 1 = -1 ∨ ¬ aA ν c 1 < 0 := by
      intro c hc
      rcases (h.2.2.2.2.2.1 c hc).2.1 with z | z
      · exact Or.inl z
      · exact Or.inr (isN_pos z (by have := h.n4.2; omega))
    have who0 : ∀ c, c < cnt ν 7 → ¬ aA ν c 0 = -1 := by
      intro c hc z
      have := isN_pos (h.2.2.2.2.2.1 c hc).1 (by have := h.n4.2; omega)
      rw [z] at this
      exact this (by decide)
    by_cases hba : b = a
    · have hb'a : b' ≠ a := fun z => hne (hba.trans z.symm)
      obtain ⟨k1, k2, k3, k4⟩ := key b' hb' (fl b' hb' hb'a e')
      rw [hba]
      refine ⟨fun z => k1 z.symm, fun z => k2 z.symm, fun z => k3 z.symm, fun z => ?_, ?_⟩
      · rcases wth a ha with y | y
        · exact who0 b' hb' (z.symm.trans y)
        · exact (k4 y).1 z.symm
      · rcases wth a ha with y | y
        · exact Or.inl y
        · exact Or.inr (fun z => (k4 y).2 z.symm)
    · by_cases hb'a : b' = a
      · obtain ⟨k1, k2, k3, k4⟩ := key b hb (fl b hb hba e)
        rw [hb'a]
        refine ⟨k1, k2, fun z => ?_, k3, ?_⟩
        · rcases wth a ha with y | y
          · exact who0 b hb (z.trans y)
          · exact (k4 y).1 z
        · rcases wth b hb with y | y
          · exact Or.inl y
          · refine Or.inr (fun z => ?_)
            rcases wth a ha with y2 | y2
            · rw [z, y2] at y; exact y (by decide)
            · exact (k4 y2).2 z
      · exact h.2.2.2.2.2.2.1 b b' hb hb' (fl b hb hba e) (fl b' hb' hb'a e') hne
/-! a fetching, the next minute -/
theorem fetchR_keep {ν : Nu} {w r j : Nat} (h : j ≠ 33 + 4 * w + 2 * r) (h2 : j ≠ 33 + 4 * w + 2 * r + 1) : fetchR ν w r j = ν j := by
  unfold fetchR
  split
  · exact ropeS_keep h h2
  · rfl
theorem fetchedS_keep {ν : Nu} (h : INV ν) {w j : Nat} (hw : w < 3) (hj : j < 20 ∨ (26 ≤ j ∧ j < 33) ∨ 45 ≤ j) : fetchedS ν w j = ν j := by
  have hl : (ν 19).toNatClampNeg < 6 := (h.lane (u := 3) (by decide)).2
  unfold fetchedS
  rw [fetchR_keep (by omega) (by omega), fetchR_keep (by omega) (by omega), upd_ne _ _ (by omega)]
theorem fetchedS_busy {ν : Nu} (h : INV ν) {w : Nat} (hw : w < 3) : fetchedS ν w (20 + (ν 19).toNatClampNeg) = ν 0 + ν 26 := by
  have hl : (ν 19).toNatClampNeg < 6 := (h.lane (u := 3) (by decide)).2
  unfold fetchedS
  rw [fetchR_keep (by omega) (by omega), fetchR_keep (by omega) (by omega), upd_at]
theorem INV_fetched {ν : Nu} (h : INV ν) {w : Nat} (hw : w < 3) : INV (fetchedS ν w) :=
  INV_congr h (by rw [fetchedS_keep h hw (by omega)]; exact h.1) (fun j hj => fetchedS_keep h hw (by omega)) (fun b f hb hf => by unfold aA; exact fetchedS_keep h hw (by omega)) (fun b hb => by unfold aA; rw [fetchedS_keep h hw (by omega)]; exact (h.2.2.2.2.2.1 b hb).2.2.2.2.2)
    (fun b b' hb hb' e e' hne => h.2.2.2.2.2.2.1 b b' hb hb' (by unfold aA at e ⊢; rw [fetchedS_keep h hw (by omega)] at e; exact e) (by unfold aA at e' ⊢; rw [fetchedS_keep h hw (by omega)] at e'; exact e') hne)
theorem fetch_fetched {ν : Nu} (h : INV ν) {w : Nat} (hw : w < 3) : fetchS (fetchedS ν w) = none := by
  have hl2 : (ν 19).toNatClampNeg < 6 := (h.lane (u := 3) (by decide)).2
  obtain ⟨m, hm1, hm2⟩ := h.1
  obtain ⟨f, hf1, hf2, hf3⟩ := h.2.2.2.1
  have e19 : fetchedS ν w 19 = ν 19 := fetchedS_keep h hw (by omega)
  have e0 : fetchedS ν w 0 = ν 0 := fetchedS_keep h hw (by omega)
  have hc : clearL (fetchedS ν w) (fetchedS ν w 19).toNatClampNeg = false := by
    rw [e19]
    refine clearL_no hl2 (by rw [fetchedS_keep h hw (by omega)]; exact h.2.2.1.2 _ hl2) ?_
    rw [fetchedS_busy h hw, e0, hm2, hf3]
    exact lt_plus (by omega) (by omega)
  unfold fetchS
  cases drumW (fetchedS ν w) with
  | none => rfl
  | some b => simp only [hc]; rfl
theorem openS_keep {ν : Nu} (h : INV ν) {j : Nat} (hj : (0 < j ∧ j < 30) ∨ 45 ≤ j) : openS ν j = ν j := by
  unfold openS
  try simp only
  rw [openP_keep h.n6.2 (by omega), openW_keep h.n5.2 (by omega), upd_ne _ _ (by omega)]
theorem openS_0 {ν : Nu} (h : INV ν) : openS ν 0 = ν 0 + 1 := by
  unfold openS
  try simp only
  rw [openP_keep h.n6.2 (by omega), openW_keep h.n5.2 (by omega), upd_at]
theorem INV_open {ν : Nu} (h : INV ν) {m : Nat} (hm : m < 5000) (h0 : ν 0 = nI m) : INV (openS ν) :=
  INV_congr h ⟨m + 1, by omega, by rw [openS_0 h, h0]; exact nI_1 m⟩ (fun j hj => openS_keep h (by omega)) (fun b f hb hf => by unfold aA; exact openS_keep h (by omega)) (fun b hb => by unfold aA; rw [openS_keep h (by omega)]; exact (h.2.2.2.2.2.1 b hb).2.2.2.2.2)
    (fun b b' hb hb' e e' hne => h.2.2.2.2.2.2.1 b b' hb hb' (by unfold aA at e ⊢; rw [openS_keep h (by omega)] at e; exact e) (by unfold aA at e' ⊢; rw [openS_keep h (by omega)] at e'; exact e') hne)
