/-! ===== bits of sets ===== -/
theorem smod32 : ∀ k, k < 32 → ((nI k).toBitVec.smod 32).toNat = k := by decide +kernel
theorem sh31 {k : Nat} (hk : k < 32) : nI k &&& 31 = nI k := by
  rw [pk_andN (n := k) (by omega) (m := 31) 5 (by decide), Nat.mod_eq_of_lt (by omega)]
theorem hb_bit (s : Int32) {k : Nat} (hk : k < 32) : hb s (nI k) = s.toBitVec.getLsbD k := by
  unfold hb
  rw [sh31 hk]
  have e : (s >>> nI k).toBitVec = s.toBitVec.sshiftRight k := by
    rw [Int32.toBitVec_shiftRight]
    unfold BitVec.sshiftRight'
    rw [smod32 k hk]
  have e1 : (s >>> nI k) &&& 1 = nI ((s >>> nI k).toBitVec.toNat % 2 ^ 1) := pk_and _ (m := 1) 1 (by decide)
  have e2 : (s >>> nI k).toBitVec.getLsbD 0 = decide ((s >>> nI k).toBitVec.toNat % 2 = 1) := by
    show Nat.testBit _ 0 = _
    rw [Nat.testBit_zero]
  have e3 : (s >>> nI k).toBitVec.getLsbD 0 = s.toBitVec.getLsbD k := by
    rw [e, BitVec.getLsbD_sshiftRight]
    simp [hk]
  rw [e1, ← e3, e2]
  rcases (show (s >>> nI k).toBitVec.toNat % 2 = 0 ∨ (s >>> nI k).toBitVec.toNat % 2 = 1 by omega) with h | h
  · rw [show (2 : Nat) ^ 1 = 2 from rfl, h]; decide
  · rw [show (2 : Nat) ^ 1 = 2 from rfl, h]; decide
theorem hb_or (s t : Int32) {k : Nat} (hk : k < 32) : hb (s ||| t) (nI k) = (hb s (nI k) || hb t (nI k)) := by
  rw [hb_bit _ hk, hb_bit _ hk, hb_bit _ hk, Int32.toBitVec_or, BitVec.getLsbD_or]
theorem hb_andn (s t : Int32) {k : Nat} (hk : k < 32) : hb (s &&& (t ^^^ (-1))) (nI k) = (hb s (nI k) && !hb t (nI k)) := by
  rw [hb_bit _ hk, hb_bit _ hk, hb_bit _ hk, Int32.toBitVec_and, BitVec.getLsbD_and, Int32.toBitVec_xor, BitVec.getLsbD_xor]
  have : (-1 : Int32).toBitVec.getLsbD k = true := by
    have e : (-1 : Int32).toBitVec = BitVec.allOnes 32 := by decide
    rw [e, BitVec.getLsbD_allOnes]; simpa using hk
  rw [this]
  cases t.toBitVec.getLsbD k <;> rfl
theorem one_shl {k : Nat} (hk : k < 32) : (1 : Int32) <<< (nI k &&& 31) = nI (2 ^ k) := by
  rw [sh31 hk]
  have := pk_shlN (n := 1) (nI k) k (smod32 k hk) (by rw [Nat.one_mul]; exact Nat.pow_lt_pow_right (by decide) hk)
  rw [Nat.one_mul] at this
  exact this
theorem hb_one {k j : Nat} (hk : k < 32) (hj : j < 32) : hb ((1 : Int32) <<< (nI k &&& 31)) (nI j) = decide (j = k) := by
  rw [one_shl hk, hb_bit _ hj]
  show (BitVec.ofNat 32 (2 ^ k)).getLsbD j = _
  rw [BitVec.getLsbD_ofNat, Nat.testBit_two_pow]
  by_cases e : k = j
  · subst e; simp [hk]
  · have : ¬ j = k := fun q => e q.symm
    simp [e, this]
theorem hb_zero {j : Nat} (hj : j < 32) : hb 0 (nI j) = false := by
  rw [hb_bit _ hj]
  show (0#32).getLsbD j = false
  simp
theorem hb_wb {s is : Int32} {k j : Nat} (hk : k < 32) (hj : j < 32) : hb (wb s (nI k) is) (nI j) = if j = k then decide (¬ is = 0) else hb s (nI j) := by
  unfold wb
  by_cases h : is = 0
  · rw [if_pos h, hb_andn _ _ hj, hb_one hk hj]
    by_cases e : j = k
    · rw [if_pos e, decide_eq_true e, decide_eq_false (fun q => q h)]; simp
    · rw [if_neg e, decide_eq_false e]; simp
  · rw [if_neg h, hb_or _ _ hj, hb_one hk hj]
    by_cases e : j = k
    · rw [if_pos e, decide_eq_true e, decide_eq_true h]; simp
    · rw [if_neg e, decide_eq_false e]; simp
theorem and_no {s t : Int32} : (s &&& t = 0) ↔ ∀ j, j < 32 → (hb s (nI j) && hb t (nI j)) = false := by
  constructor
  · intro h j hj
    rw [hb_bit _ hj, hb_bit _ hj, ← BitVec.getLsbD_and, ← Int32.toBitVec_and, h]
    show (0#32).getLsbD j = false
    simp
  · intro h
    apply Int32.toBitVec_inj.mp
    rw [Int32.toBitVec_and]
    apply BitVec.eq_of_getLsbD_eq
    intro i hi
    have := h i hi
    rw [hb_bit _ hi, hb_bit _ hi] at this
    rw [BitVec.getLsbD_and, this]
    show false = (0#32).getLsbD i
    simp
/-- who flies and is along, as a set -/
def crewA (ν : Nu) (a : Nat) : Int32 := if aA ν a 1 < 0 then (1 : Int32) <<< (aA ν a 0 &&& 31) else ((1 : Int32) <<< (aA ν a 0 &&& 31)) ||| ((1 : Int32) <<< (aA ν a 1 &&& 31))
theorem nI_ne {a b : Nat} (ha : a < 2 ^ 31) (hb : b < 2 ^ 31) (h : a ≠ b) : nI a ≠ nI b := fun q => h ((nI_eq ha hb).mp q)
section CRW
variable {ν ν' : Nu} {a : Nat}
theorem INV.who2 (h : INV ν) (ha : a < cnt ν 7) : aA ν a 0 = nI (aA ν a 0).toNatClampNeg ∧ (aA ν a 0).toNatClampNeg < cnt ν 4 := h.who ha
theorem INV.gld2 (h : INV ν) (ha : a < cnt ν 7) : aA ν a 2 = nI (aA ν a 2).toNatClampNeg ∧ (aA ν a 2).toNatClampNeg < cnt ν 3 := h.gld ha
theorem INV.wth2 (h : INV ν) (ha : a < cnt ν 7) (hw : ¬ aA ν a 1 < 0) : aA ν a 1 = nI (aA ν a 1).toNatClampNeg ∧ (aA ν a 1).toNatClampNeg < cnt ν 4 := h.wth ha hw
theorem INV.wth3 (h : INV ν) (ha : a < cnt ν 7) (hw : aA ν a 1 < 0) : aA ν a 1 = -1 := by
  rcases (h.2.2.2.2.2.1 a ha).2.1 with z | z
  · exact z
  · exact absurd hw (isN_pos z (by have := h.n4.2; omega))
theorem hb_crew (h : INV ν) (ha : a < cnt ν 7) {p : Nat} (hp : p < 32) : hb (crewA ν a) (nI p) = (decide (aA ν a 0 = nI p) || decide (aA ν a 1 = nI p)) := by
  obtain ⟨e0, l0⟩ := h.who2 ha
  have h4 := h.n4.2
  generalize hq : (aA ν a 0).toNatClampNeg = q at e0 l0
  unfold crewA
  have d0 : decide (aA ν a 0 = nI p) = decide (p = q) := by
    rw [e0]
    by_cases e : p = q
    · rw [e]; simp
    · rw [decide_eq_false e, decide_eq_false (nI_ne (by omega) (by omega) (fun z => e z.symm))]
  by_cases hw : aA ν a 1 < 0
  · rw [if_pos hw, d0, e0, hb_one (by omega) hp]
    have : ¬ aA ν a 1 = nI p := fun z => by rw [z] at hw; exact nI_pos (by omega) hw
    rw [decide_eq_false this]; simp
  · obtain ⟨e1, l1⟩ := h.wth2 ha hw
    generalize hq1 : (aA ν a 1).toNatClampNeg = q1 at e1 l1
    have d1 : decide (aA ν a 1 = nI p) = decide (p = q1) := by
      rw [e1]
      by_cases e : p = q1
      · rw [e]; simp
      · rw [decide_eq_false e, decide_eq_false (nI_ne (by omega) (by omega) (fun z => e z.symm))]
    rw [if_neg hw, d0, d1, hb_or _ _ hp, e0, e1, hb_one (by omega) hp, hb_one (by omega) hp]
/-- somebody of an ask is in the air -/
theorem air_crew (h : INV ν) (ha : a < cnt ν 7) {s : Int32} (hs : ∀ p, p < 14 → hb s (nI p) = inAir ν (nI p)) : (s &&& crewA ν a = 0) ↔ ¬ (inAir ν (aA ν a 0) = true ∨ (¬ aA ν a 1 < 0 ∧ inAir ν (aA ν a 1) = true)) := by
  obtain ⟨e0, l0⟩ := h.who2 ha
  have h4 := h.n4.2
  rw [and_no]
  constructor
  · intro q z
    rcases z with z | ⟨z1, z2⟩
    · have := q (aA ν a 0).toNatClampNeg (by omega)
      rw [hb_crew h ha (by omega), hs _ (by omega), ← e0, z] at this
      simp at this
    · obtain ⟨e1, l1⟩ := h.wth2 ha z1
      have := q (aA ν a 1).toNatClampNeg (by omega)
      rw [hb_crew h ha (by omega), hs _ (by omega), ← e1, z2] at this
      simp at this
  · intro q j hj
    rw [hb_crew h ha hj]
    by_cases c0 : aA ν a 0 = nI j
    · have : j = (aA ν a 0).toNatClampNeg := by rw [c0, nI_clamp (by omega)]
      rw [hs _ (by omega), ← c0]
      cases hx : inAir ν (aA ν a 0) with
      | false => rfl
      | true => exact absurd (Or.inl hx) q
    · by_cases c1 : aA ν a 1 = nI j
      · have hw : ¬ aA ν a 1 < 0 := by rw [c1]; exact nI_pos (by omega)
        have l1 := (h.wth2 ha hw).2
        have : j = (aA ν a 1).toNatClampNeg := by rw [c1, nI_clamp (by omega)]
        rw [hs _ (by omega), ← c1]
        cases hx : inAir ν (aA ν a 1) with
        | false => rfl
        | true => exact absurd (Or.inr ⟨hw, hx⟩) q
      · rw [decide_eq_false c0, decide_eq_false c1]; simp
/-- an ask that waited flies now -/
theorem inRow_up (n7 : ν' 7 = ν 7) (ha : a < cnt ν 7) (h6 : aA ν' a 6 = 1) (h0 : ¬ aA ν a 6 = 1) (hn : ∀ c, c < cnt ν 7 → aA ν' c 2 = aA ν c 2 ∧ (c ≠ a → aA ν' c 6 = aA ν c 6)) (g : Int32) : inRow ν' g = (inRow ν g && !decide (aA ν a 2 = g)) := by
  rw [Bool.eq_iff_iff]
  unfold inRow
  rw [Bool.and_eq_true, allL_iff, allL_iff, cntE n7]
  constructor
  · intro q
    refine ⟨fun c hc => ?_, ?_⟩
    · have := q c hc
      unfold rowP at this ⊢
      rw [(hn c hc).1] at this
      by_cases e : c = a
      · rw [e, decide_eq_false h0]; rfl
      · rw [(hn c hc).2 e] at this; exact this
    · have := q a ha
      unfold rowP at this
      rw [(hn a ha).1, h6] at this
      simpa using this
  · rintro ⟨q1, q2⟩ c hc
    unfold rowP
    rw [(hn c hc).1]
    by_cases e : c = a
    · rw [e, h6]; simpa using q2
    · rw [(hn c hc).2 e]; exact q1 c hc
theorem inAir_up (n7 : ν' 7 = ν 7) (ha : a < cnt ν 7) (h6 : aA ν' a 6 = 1) (h0 : ¬ aA ν a 6 = 1) (hn : ∀ c, c < cnt ν 7 → aA ν' c 0 = aA ν c 0 ∧ aA ν' c 1 = aA ν c 1 ∧ (c ≠ a → aA ν' c 6 = aA ν c 6)) (g : Int32) : inAir ν' g = (inAir ν g || (decide (aA ν a 0 = g) || decide (aA ν a 1 = g))) := by
  rw [Bool.eq_iff_iff]
  unfold inAir
  rw [Bool.or_eq_true, anyL_iff, anyL_iff, cntE n7]
  constructor
  · rintro ⟨c, hc, q⟩
    unfold airP at q
    rw [(hn c hc).1, (hn c hc).2.1] at q
    by_cases e : c = a
    · rw [e, h6] at q; exact Or.inr (by simpa using q)
    · rw [(hn c hc).2.2 e] at q; exact Or.inl ⟨c, hc, q⟩
  · rintro (⟨c, hc, q⟩ | q)
    · refine ⟨c, hc, ?_⟩
      unfold airP at q ⊢
      rw [(hn c hc).1, (hn c hc).2.1]
      by_cases e : c = a
      · rw [e, decide_eq_false h0] at q; simp at q
      · rw [(hn c hc).2.2 e]; exact q
    · refine ⟨a, ha, ?_⟩
      unfold airP
      rw [(hn a ha).1, (hn a ha).2.1, h6]
      simpa using q
/-- an ask that flew is down now -/
theorem inRow_dn (h : INV ν) (n7 : ν' 7 = ν 7) (ha : a < cnt ν 7) (h6 : ¬ aA ν' a 6 = 1) (h0 : aA ν a 6 = 1) (hn : ∀ c, c < cnt ν 7 → aA ν' c 2 = aA ν c 2 ∧ (c ≠ a → aA ν' c 6 = aA ν c 6)) (g : Int32) : inRow ν' g = (inRow ν g || decide (aA ν a 2 = g)) := by
  rw [Bool.eq_iff_iff]
  unfold inRow
  rw [Bool.or_eq_true, allL_iff, allL_iff, cntE n7]
  constructor
  · intro q
    by_cases eg : aA ν a 2 = g
    · exact Or.inr (decide_eq_true eg)
    · refine Or.inl (fun c hc => ?_)
      have := q c hc
      unfold rowP at this ⊢
      rw [(hn c hc).1] at this
      by_cases e : c = a
      · rw [e, decide_eq_false eg]; simp
      · rw [(hn c hc).2 e] at this; exact this
  · rintro (q | q) c hc
    · unfold rowP
      rw [(hn c hc).1]
      by_cases e : c = a
      · rw [e, decide_eq_false h6]; rfl
      · rw [(hn c hc).2 e]; exact q c hc
    · have q := of_decide_eq_true q
      unfold rowP
      rw [(hn c hc).1]
      by_cases e : c = a
      · rw [e, decide_eq_false h6]; rfl
      · rw [(hn c hc).2 e]
        by_cases f : aA ν c 6 = 1
        · have := (h.2.2.2.2.2.2.1 c a hc ha f h0 e).1
          rw [q] at this
          rw [decide_eq_false this]; simp
        · rw [decide_eq_false f]; rfl
theorem inAir_dn (h : INV ν) (n7 : ν' 7 = ν 7) (ha : a < cnt ν 7) (h6 : ¬ aA ν' a 6 = 1) (h0 : aA ν a 6 = 1) (hn : ∀ c, c < cnt ν 7 → aA ν' c 0 = aA ν c 0 ∧ aA ν' c 1 = aA ν c 1 ∧ (c ≠ a → aA ν' c 6 = aA ν c 6)) {p : Nat} (hp : p < 2 ^ 31) : inAir ν' (nI p) = (inAir ν (nI p) && !(decide (aA ν a 0 = nI p) || decide (aA ν a 1 = nI p))) := by
  rw [Bool.eq_iff_iff]
  unfold inAir
  rw [Bool.and_eq_true, anyL_iff, anyL_iff, cntE n7]
  constructor
  · rintro ⟨c, hc, q⟩
    unfold airP at q
    rw [(hn c hc).1, (hn c hc).2.1] at q
    by_cases e : c = a
    · rw [e, decide_eq_false h6] at q; simp at q
    · rw [(hn c hc).2.2 e] at q
      refine ⟨⟨c, hc, q⟩, ?_⟩
      simp only [Bool.and_eq_true, Bool.or_eq_true, decide_eq_true_eq] at q
      obtain ⟨q1, q2⟩ := q
      obtain ⟨-, k1, k2, k3, k4⟩ := h.2.2.2.2.2.2.1 c a hc ha q1 h0 e
      simp only [Bool.not_eq_true', Bool.or_eq_false_iff, decide_eq_false_iff_not]
      rcases q2 with q2 | q2
      · rw [← q2]; exact ⟨fun z => k1 z.symm, fun z => k2 z.symm⟩
      · rw [← q2]
        refine ⟨fun z => k3 z.symm, fun z => ?_⟩
        rcases k4 with k4 | k4
        · rw [q2] at k4
          have := nI_pos (n := p) hp
          rw [k4] at this
          exact this (by decide)
        · exact k4 z.symm
  · rintro ⟨⟨c, hc, q⟩, q3⟩
    refine ⟨c, hc, ?_⟩
    unfold airP at q ⊢
    rw [(hn c hc).1, (hn c hc).2.1]
    by_cases e : c = a
    · exfalso
      rw [e] at q
      simp only [Bool.and_eq_true, Bool.or_eq_true, decide_eq_true_eq] at q
      simp only [Bool.not_eq_true', Bool.or_eq_false_iff, decide_eq_false_iff_not] at q3
      rcases q.2 with z | z
      · exact q3.1 z
      · exact q3.2 z
    · rw [(hn c hc).2.2 e]; exact q
end CRW
/-! places two by two -/
theorem fst2 (P : Nat → Bool) : ∀ n, fstL P (2 * n) = (match fstL (fun w => P (2 * w) || P (2 * w + 1)) n with | none => none | some w => some (if P (2 * w) = true then 2 * w else 2 * w + 1)) := by
  intro n
  induction n with
  | zero => rfl
  | succ n ih =>
    rw [show 2 * (n + 1) = 2 * n + 1 + 1 by omega]
    show (match (match fstL P (2 * n) with | some i => some i | none => if P (2 * n) = true then some (2 * n) else none) with | some i => some i | none => if P (2 * n + 1) = true then some (2 * n + 1) else none) = (match (match fstL (fun w => P (2 * w) || P (2 * w + 1)) n with | some i => some i | none => if (P (2 * n) || P (2 * n + 1)) = true then some n else none) with | none => none | some w => some (if P (2 * w) = true then 2 * w else 2 * w + 1))
    rw [ih]
    cases fstL (fun w => P (2 * w) || P (2 * w + 1)) n with
    | some w => rfl
    | none =>
      dsimp only
      cases h1 : P (2 * n) with
      | true => simp [h1]
      | false =>
        cases h2 : P (2 * n + 1) with
        | true => simp [h1]
        | false => simp
def outP (ν : Nu) (p : Nat) : Bool := decide (ν (33 + 2 * p) = 2)
def drmP (ν : Nu) (p : Nat) : Bool := decide (ν (33 + 2 * p) = 0)
theorem out_w {ν : Nu} {k : Int32} (hk : ¬ k = 3) (n : Nat) : fstL (fun w => outP ν (2 * w) || outP ν (2 * w + 1)) n = fstL (winP ν k) n := by
  refine fstL_congr (fun w _ => ?_)
  unfold winP outP aR
  rw [if_neg hk, show 33 + 2 * (2 * w) = 33 + 4 * w + 2 * 0 + 0 by omega, show 33 + 2 * (2 * w + 1) = 33 + 4 * w + 2 * 1 + 0 by omega]
theorem drm_w {ν : Nu} (n : Nat) : fstL (fun w => drmP ν (2 * w) || drmP ν (2 * w + 1)) n = fstL (druP ν) n := by
  refine fstL_congr (fun w _ => ?_)
  unfold druP drmP aR
  rw [show 33 + 2 * (2 * w) = 33 + 4 * w + 2 * 0 + 0 by omega, show 33 + 2 * (2 * w + 1) = 33 + 4 * w + 2 * 1 + 0 by omega]
/-- the least rope that is out: the model's winch and rope -/
theorem out_fst {ν : Nu} {k : Int32} (hk : ¬ k = 3) : fstL (outP ν) (2 * cnt ν 5) = (match winchF ν k with | none => none | some w => some (if ν (33 + 4 * w + 2 * 0) = 2 then 2 * w else 2 * w + 1)) := by
  rw [fst2, out_w hk]
  show (match winchF ν k with | none => none | some w => some (if outP ν (2 * w) = true then 2 * w else 2 * w + 1)) = _
  cases winchF ν k with
  | none => rfl
  | some w =>
    dsimp only
    unfold outP
    rw [show 33 + 2 * (2 * w) = 33 + 4 * w + 2 * 0 by omega]
    simp only [decide_eq_true_eq]
theorem drm_fst {ν : Nu} : (fstL (drmP ν) (2 * cnt ν 5)).map (fun p => p / 2) = drumW ν := by
  rw [fst2, drm_w]
  show (match drumW ν with | none => none | some w => some (if drmP ν (2 * w) = true then 2 * w else 2 * w + 1)).map (fun p => p / 2) = drumW ν
  cases drumW ν with
  | none => rfl
  | some w =>
    dsimp only
    show some (_ / 2) = some w
    congr 1
    split <;> omega
