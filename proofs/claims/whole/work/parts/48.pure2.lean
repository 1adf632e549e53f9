/-! ===== the world behind a landing, a launch, a fetching, the next minute ===== -/
/-- only the world at z (and the texts' stack) has changed -/
def Fz (z : Nat) (σ τ : Sg) : Prop := ∀ k, (k < z ∨ z + 36 < k) → k ≠ 10 → k ≠ 11 → τ k = σ k
theorem Fz.rf {z : Nat} {σ : Sg} : Fz z σ σ := fun _ _ _ _ => rfl
theorem Fz.tr {z : Nat} {σ τ τ' : Sg} (h : Fz z σ τ) (h' : Fz z τ τ') : Fz z σ τ' := fun k a b c => (h' k a b c).trans (h k a b c)
theorem Fz.ex {z : Nat} {σ τ : Sg} (hE : Eqx [10, 11] σ τ) : Fz z σ τ := fun k _ b c => hE k (by simp; omega)
theorem Fz.up {z k j : Nat} {σ τ : Sg} {x : Int32} (hk : k ≤ 36) (h : Fz z σ τ) : Fz z σ (up τ (z + k) j x) := fun q a b c => by
  rw [up_ne _ _ _ (by omega)]; exact h q a b c
theorem Fz.txt {z : Nat} {σ τ : Sg} (hz : isW z) (h : Fz z σ τ) : ∀ k, 3 ≤ k → k ≤ 9 → τ k = σ k := fun k a b => h k (by have := isW_ge hz; omega) (by omega) (by omega)
section PU
variable {σ τ X : Sg} {z : Nat} {ν ν' : Nu} {a : Nat}
theorem bestD_fl : ∀ {n j : Nat}, bestD ν n = some j → aA ν j 6 = 1 := by
  intro n
  induction n with
  | zero => intro j h; cases h
  | succ n ih =>
    intro j h
    rw [bestD_s] at h
    cases hb2 : bestD ν n with
    | none =>
      rw [hb2] at h
      dsimp only at h
      split at h
      · rename_i q; cases h; exact q.1
      · cases h
    | some i =>
      rw [hb2] at h
      dsimp only at h
      split at h
      · rename_i q; cases h; exact q.1.1
      · cases h; exact ih hb2
theorem lands_spec (h : landsS ν = some a) : a < cnt ν 7 ∧ aA ν a 6 = 1 ∧ clearL ν (ν 18).toNatClampNeg = true := by
  refine ⟨lands_lt h, ?_⟩
  unfold landsS at h
  cases hb2 : bestD ν (cnt ν 7) with
  | none => rw [hb2] at h; cases h
  | some i =>
    rw [hb2] at h
    dsimp only at h
    split at h
    · rename_i q; cases h; exact ⟨bestD_fl hb2, q⟩
    · cases h
theorem fetch_spec {w : Nat} (h : fetchS ν = some w) : w < cnt ν 5 ∧ clearL ν (ν 19).toNatClampNeg = true := by
  refine ⟨fetch_lt h, ?_⟩
  unfold fetchS at h
  cases hb2 : drumW ν with
  | none => rw [hb2] at h; cases h
  | some i =>
    rw [hb2] at h
    dsimp only at h
    split at h
    · rename_i q; exact q
    · cases h
theorem why0_clear (h : whyA ν a = 0) : clearL ν (laneA ν a).toNatClampNeg = true := by
  rw [whyA_eq] at h
  split at h
  · split at h
    · unfold why6 at h
      split at h
      · exact absurd h (by decide)
      · unfold why7 at h
        split at h
        · exact absurd h (by decide)
        · unfold why8 at h
          split at h
          · exact absurd h (by decide)
          · unfold why9 at h
            split at h
            · exact absurd h (by decide)
            · unfold why10 at h
              split at h
              · exact absurd h (by decide)
              · split at h
                · rename_i q; exact q
                · exact absurd h (by decide)
    · exact absurd h (by assumption)
  · exact absurd h (by assumption)
/-! a landing -/
theorem downS_at (h : INV ν) (ha : a < cnt ν 7) : aA (downS ν a) a 8 = ν 0 ∧ aA (downS ν a) a 9 = costA ν a := by
  have hn7 := h.n7.2
  have hn4 := h.n4.2
  have hl : (ν 18).toNatClampNeg < 6 := (h.lane (u := 2) (by decide)).2
  have hp := (h.who ha).2
  unfold aA downS
  try simp only
  split
  · constructor <;> simp (disch := omega) only [upd_ne, upd_at]
  · rename_i hw
    have hw2 := (h.wth ha hw).2
    constructor <;> simp (disch := omega) only [upd_ne, upd_at]
theorem downS_pp (h : INV ν) (ha : a < cnt ν 7) {p : Nat} (hp2 : p < cnt ν 4) : aP (downS ν a) p 0 = aP ν p 0 ∧ aP (downS ν a) p 1 = aP ν p 1 := by
  have hn7 := h.n7.2
  have hn4 := h.n4.2
  have hl : (ν 18).toNatClampNeg < 6 := (h.lane (u := 2) (by decide)).2
  have hp := (h.who ha).2
  unfold aP downS
  try simp only
  split
  · constructor <;> simp (disch := omega) only [upd_ne]
  · rename_i hw
    have hw2 := (h.wth ha hw).2
    constructor <;> simp (disch := omega) only [upd_ne]
theorem downS_bill (h : INV ν) (ha : a < cnt ν 7) {p : Nat} (hp2 : p < cnt ν 4) : aP (downS ν a) p 3 = upd (fun q => aP ν q 3) (aA ν a 0).toNatClampNeg (aP ν (aA ν a 0).toNatClampNeg 3 + costA ν a) p := by
  have hn7 := h.n7.2
  have hn4 := h.n4.2
  have hl : (ν 18).toNatClampNeg < 6 := (h.lane (u := 2) (by decide)).2
  have hp := (h.who ha).2
  have e0 : (aA ν a 0).toNatClampNeg = (ν (146 + 10 * a + 0)).toNatClampNeg := rfl
  rw [e0]
  generalize hw0 : (ν (146 + 10 * a + 0)).toNatClampNeg = w at hp
  unfold aP downS
  try simp only
  rw [hw0]
  split
  · by_cases e : p = w
    · subst e; simp (disch := omega) only [upd_ne, upd_at]
    · simp (disch := omega) only [upd_ne]
  · rename_i hw
    have hw2 := (h.wth ha hw).2
    by_cases e : p = w
    · subst e; simp (disch := omega) only [upd_ne, upd_at]
    · simp (disch := omega) only [upd_ne]
theorem downS_last (h : INV ν) (ha : a < cnt ν 7) {p : Nat} (hp2 : p < cnt ν 4) : aP (downS ν a) p 2 = (if aA ν a 1 < 0 then upd (fun q => aP ν q 2) (aA ν a 0).toNatClampNeg (ν 0) else upd (upd (fun q => aP ν q 2) (aA ν a 0).toNatClampNeg (ν 0)) (aA ν a 1).toNatClampNeg (ν 0)) p := by
  have hn7 := h.n7.2
  have hn4 := h.n4.2
  have hl : (ν 18).toNatClampNeg < 6 := (h.lane (u := 2) (by decide)).2
  have hp := (h.who ha).2
  have e0 : (aA ν a 0).toNatClampNeg = (ν (146 + 10 * a + 0)).toNatClampNeg := rfl
  have e1 : aA ν a 1 = ν (146 + 10 * a + 1) := rfl
  rw [e0, e1]
  generalize hw0 : (ν (146 + 10 * a + 0)).toNatClampNeg = w at hp
  unfold aP downS
  try simp only
  rw [hw0]
  split
  · by_cases e : p = w
    · subst e; simp (disch := omega) only [upd_ne, upd_at]
    · simp (disch := omega) only [upd_ne]
  · rename_i hw
    have hw2 := (h.wth ha hw).2
    generalize hq0 : (ν (146 + 10 * a + 1)).toNatClampNeg = q at hw2
    by_cases e2 : p = q
    · subst e2; simp (disch := omega) only [upd_ne, upd_at]
    · by_cases e : p = w
      · subst e; simp (disch := omega) only [upd_ne, upd_at]
      · simp (disch := omega) only [upd_ne]
theorem downS_lanes (h : INV ν) (ha : a < cnt ν 7) {j : Nat} (hj : j < 26) : downS ν a j = upd ν (20 + (ν 18).toNatClampNeg) (ν 0 + 2) j := by
  have hn7 := h.n7.2
  have hn4 := h.n4.2
  have hl : (ν 18).toNatClampNeg < 6 := (h.lane (u := 2) (by decide)).2
  have hp := (h.who ha).2
  unfold downS
  try simp only
  split
  · by_cases e : j = 20 + (ν 18).toNatClampNeg
    · subst e; simp (disch := omega) only [upd_ne, upd_at]
    · simp (disch := omega) only [upd_ne]
  · rename_i hw
    have hw2 := (h.wth ha hw).2
    by_cases e : j = 20 + (ν 18).toNatClampNeg
    · subst e; simp (disch := omega) only [upd_ne, upd_at]
    · simp (disch := omega) only [upd_ne]
/-- the world behind a landing -/
theorem down_RW (hI : INV ν) (hR : RW σ z ν) (ha : a < cnt ν 7) (hfl : aA ν a 6 = 1)
    (x31 : X (z + 31) = upd (σ (z + 31)) a 2) (x33 : X (z + 33) = upd (σ (z + 33)) a (ν 0)) (x34 : X (z + 34) = upd (σ (z + 34)) a (costA ν a))
    (x10 : X (z + 10) = upd (σ (z + 10)) (aA ν a 0).toNatClampNeg (aP ν (aA ν a 0).toNatClampNeg 3 + costA ν a))
    (x9 : X (z + 9) = if aA ν a 1 < 0 then upd (σ (z + 9)) (aA ν a 0).toNatClampNeg (ν 0) else upd (upd (σ (z + 9)) (aA ν a 0).toNatClampNeg (ν 0)) (aA ν a 1).toNatClampNeg (ν 0))
    (x6 : X (z + 6) 5 = σ (z + 6) 5 &&& (crewA ν a ^^^ (-1))) (x64 : X (z + 6) 4 = σ (z + 6) 4) (x1 : X (z + 1) 5 = wb (σ (z + 1) 5) (aA ν a 2) 0) (x14 : X (z + 1) 4 = σ (z + 1) 4)
    (hL : RWl X z (upd ν (20 + (ν 18).toNatClampNeg) (ν 0 + 2))) (hs : ∀ k, k ≤ 36 → k ≠ 1 → k ≠ 6 → k ≠ 9 → k ≠ 10 → k ≠ 16 → k ≠ 19 → k ≠ 20 → k ≠ 21 → k ≠ 31 → k ≠ 33 → k ≠ 34 → X (z + k) = σ (z + k)) (ht : ∀ k, 3 ≤ k → k ≤ 9 → X k = σ k) : RW X z (downS ν a) := by
  have n7 := hI.n7.2
  have n4 := hI.n4.2
  have n3 := hI.n3.2
  have n5 := hI.n5.2
  have n6 := hI.n6.2
  have n8 := hI.n8.2
  have hwho := hI.who2 ha
  have hgl := hI.gld2 ha
  have hz0 : X z = σ z := hs 0 (by omega) (by omega) (by omega) (by omega) (by omega) (by omega) (by omega) (by omega) (by omega) (by omega) (by omega) (by omega)
  have hk : ∀ j, (j < 20 ∨ (26 ≤ j ∧ j < 90) ∨ 346 ≤ j) → downS ν a j = ν j := fun j hj => downS_keep hI ha (by omega)
  have k7 : downS ν a 7 = ν 7 := hk 7 (by omega)
  have hA : ∀ b f, b < 20 → f < 10 → (b = a → f ≠ 6 ∧ f ≠ 8 ∧ f ≠ 9) → aA (downS ν a) b f = aA ν b f := fun b f h1 h2 h3 => by
    unfold aA
    refine downS_keep hI ha (Or.inr (Or.inr (Or.inr ⟨by omega, ?_⟩)))
    by_cases e : b = a
    · have := h3 e; omega
    · omega
  have hA6 : aA (downS ν a) a 6 = 2 := downS_how hI ha
  refine ⟨hR.g.mv x14 (hs 2 (by omega) (by omega) (by omega) (by omega) (by omega) (by omega) (by omega) (by omega) (by omega) (by omega) (by omega) (by omega)) (hs 3 (by omega) (by omega) (by omega) (by omega) (by omega) (by omega) (by omega) (by omega) (by omega) (by omega) (by omega) (by omega)) (hs 4 (by omega) (by omega) (by omega) (by omega) (by omega) (by omega) (by omega) (by omega) (by omega) (by omega) (by omega) (by omega)) (hs 5 (by omega) (by omega) (by omega) (by omega) (by omega) (by omega) (by omega) (by omega) (by omega) (by omega) (by omega) (by omega)) (hk 3 (by omega)) (fun j h1 h2 => hk j (by omega)), ⟨by rw [x64, hk 4 (by omega)]; exact hR.p.1, fun p hp => ?_⟩, ⟨fun g hg => ?_, fun p hp => ?_⟩, hR.w.mv (by rw [hs 11 (by omega) (by omega) (by omega) (by omega) (by omega) (by omega) (by omega) (by omega) (by omega) (by omega) (by omega) (by omega)]) (hs 12 (by omega) (by omega) (by omega) (by omega) (by omega) (by omega) (by omega) (by omega) (by omega) (by omega) (by omega) (by omega)) (hs 13 (by omega) (by omega) (by omega) (by omega) (by omega) (by omega) (by omega) (by omega) (by omega) (by omega) (by omega) (by omega)) (hk 5 (by omega)) (fun j h1 h2 => hk j (by omega)), hR.n.mv (by rw [hs 14 (by omega) (by omega) (by omega) (by omega) (by omega) (by omega) (by omega) (by omega) (by omega) (by omega) (by omega) (by omega)]) (hs 15 (by omega) (by omega) (by omega) (by omega) (by omega) (by omega) (by omega) (by omega) (by omega) (by omega) (by omega) (by omega)) (hk 6 (by omega)) (fun j h1 h2 => hk j (by omega)), hL.mv rfl (fun _ _ _ => rfl) (by rw [downS_lanes hI ha (by omega)]) (fun j h1 h2 => downS_lanes hI ha h2), ⟨by rw [hs 22 (by omega) (by omega) (by omega) (by omega) (by omega) (by omega) (by omega) (by omega) (by omega) (by omega) (by omega) (by omega), k7]; exact hR.a.1, fun b hb2 => ?_⟩, hR.r.mv (by rw [hz0]) (by rw [hz0]) (by rw [hz0]) (by rw [hz0]) (hs 35 (by omega) (by omega) (by omega) (by omega) (by omega) (by omega) (by omega) (by omega) (by omega) (by omega) (by omega) (by omega)) (hs 36 (by omega) (by omega) (by omega) (by omega) (by omega) (by omega) (by omega) (by omega) (by omega) (by omega) (by omega) (by omega)) (hk 0 (by omega)) (hk 1 (by omega)) (hk 2 (by omega)) (hk 8 (by omega)) (fun j h1 h2 => hk j (by omega)) (fun t _ => hk _ (by omega)), hR.t.mv ht n8 (hk 8 (by omega)) (fun j h1 _ => hk j (by omega))⟩
  · rw [cntE (hk 4 (by omega))] at hp
    obtain ⟨p0, p1⟩ := downS_pp hI ha hp
    rw [p0, p1, downS_last hI ha hp, downS_bill hI ha hp, hs 7 (by omega) (by omega) (by omega) (by omega) (by omega) (by omega) (by omega) (by omega) (by omega) (by omega) (by omega) (by omega), hs 8 (by omega) (by omega) (by omega) (by omega) (by omega) (by omega) (by omega) (by omega) (by omega) (by omega) (by omega) (by omega), x9, x10]
    refine ⟨hR.p0 hp, hR.p1 hp, ?_, ?_⟩
    · split
      · by_cases e : p = (aA ν a 0).toNatClampNeg
        · rw [e, upd_at, upd_at]
        · rw [upd_ne _ _ e, upd_ne _ _ e]; exact hR.p2 hp
      · by_cases e2 : p = (aA ν a 1).toNatClampNeg
        · rw [e2, upd_at, upd_at]
        · rw [upd_ne _ _ e2, upd_ne _ _ e2]
          by_cases e : p = (aA ν a 0).toNatClampNeg
          · rw [e, upd_at, upd_at]
          · rw [upd_ne _ _ e, upd_ne _ _ e]; exact hR.p2 hp
    · by_cases e : p = (aA ν a 0).toNatClampNeg
      · rw [e, upd_at, upd_at]
      · rw [upd_ne _ _ e, upd_ne _ _ e]; exact hR.p3 hp
  · rw [x1, hgl.1, hb_wb (by omega) (by omega), inRow_dn hI k7 ha (by rw [hA6]; decide) hfl (fun c hc => ⟨hA c 2 (by omega) (by omega) (fun _ => by omega), fun e => hA c 6 (by omega) (by omega) (fun q => absurd q e)⟩), hR.b.1 g hg]
    by_cases e : g = (aA ν a 2).toNatClampNeg
    · rw [if_pos e, e, ← hgl.1]; simp
    · have : ¬ aA ν a 2 = nI g := fun q => e (by rw [q, nI_clamp (by omega)])
      rw [if_neg e, decide_eq_false this]; simp
  · rw [x6, hb_andn _ _ (by omega), hb_crew hI ha (by omega), inAir_dn hI k7 ha (by rw [hA6]; decide) hfl (fun c hc => ⟨hA c 0 (by omega) (by omega) (fun _ => by omega), hA c 1 (by omega) (by omega) (fun _ => by omega), fun e => hA c 6 (by omega) (by omega) (fun q => absurd q e)⟩) (by omega), hR.b.2 p hp]
  · rw [cntE k7] at hb2
    have hsp : spanA (downS ν a) b = spanA ν b := by unfold spanA; rw [hA b 3 (by omega) (by omega) (fun _ => by omega), hA b 4 (by omega) (by omega) (fun _ => by omega)]
    have hus : useA (downS ν a) b = useA ν b := by unfold useA; rw [hA b 3 (by omega) (by omega) (fun _ => by omega)]
    rw [hsp, hus, hA b 0 (by omega) (by omega) (fun _ => by omega), hA b 1 (by omega) (by omega) (fun _ => by omega), hA b 2 (by omega) (by omega) (fun _ => by omega), hA b 3 (by omega) (by omega) (fun _ => by omega), hA b 4 (by omega) (by omega) (fun _ => by omega), hA b 5 (by omega) (by omega) (fun _ => by omega), hA b 7 (by omega) (by omega) (fun _ => by omega)]
    obtain ⟨q0, q1, q2, q3, q4, q5, q6, q7, q8, q9, q10, q11⟩ := hR.a.2 b hb2
    have hc : ∀ k, 23 ≤ k → k ≤ 34 → k ≠ 31 → k ≠ 33 → k ≠ 34 → X (z + k) = σ (z + k) := fun k h1 h2 h3 h4 h5 => hs k (by omega) (by omega) (by omega) (by omega) (by omega) (by omega) (by omega) (by omega) (by omega) h3 h4 h5
    rw [hc 23 (by omega) (by omega) (by omega) (by omega) (by omega), hc 24 (by omega) (by omega) (by omega) (by omega) (by omega), hc 25 (by omega) (by omega) (by omega) (by omega) (by omega), hc 26 (by omega) (by omega) (by omega) (by omega) (by omega), hc 27 (by omega) (by omega) (by omega) (by omega) (by omega), hc 28 (by omega) (by omega) (by omega) (by omega) (by omega), hc 29 (by omega) (by omega) (by omega) (by omega) (by omega), hc 30 (by omega) (by omega) (by omega) (by omega) (by omega), hc 32 (by omega) (by omega) (by omega) (by omega) (by omega), x31, x33, x34]
    refine ⟨q0, q1, q2, q3, q4, q5, q6, q7, ?_, q9, ?_, ?_⟩
    · by_cases e : b = a
      · rw [e, upd_at, hA6]
      · rw [upd_ne _ _ e, hA b 6 (by omega) (by omega) (fun q => absurd q e)]; exact q8
    · by_cases e : b = a
      · rw [e, upd_at, (downS_at hI ha).1]
      · rw [upd_ne _ _ e, hA b 8 (by omega) (by omega) (fun q => absurd q e)]; exact q10
    · by_cases e : b = a
      · rw [e, upd_at, (downS_at hI ha).2]
      · rw [upd_ne _ _ e, hA b 9 (by omega) (by omega) (fun q => absurd q e)]; exact q11
end PU
