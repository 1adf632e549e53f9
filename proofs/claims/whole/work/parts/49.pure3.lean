/-! ===== the world behind a launch, a fetching, the next minute ===== -/
theorem ropeS_p (ν : Nu) (w r : Nat) (hr : r < 2) (x y : Int32) (p : Nat) : ropeS ν w r x y (33 + 2 * p) = (if p = 2 * w + r then x else ν (33 + 2 * p)) ∧ ropeS ν w r x y (33 + 2 * p + 1) = (if p = 2 * w + r then y else ν (33 + 2 * p + 1)) := by
  unfold ropeS
  by_cases e : p = 2 * w + r
  · rw [if_pos e, if_pos e, e]
    rw [show 33 + 2 * (2 * w + r) = 33 + 4 * w + 2 * r by omega]
    exact ⟨by rw [upd_ne _ _ (by omega), upd_at], by rw [upd_at]⟩
  · rw [if_neg e, if_neg e]
    exact ⟨by rw [upd_ne _ _ (by omega), upd_ne _ _ (by omega)], by rw [upd_ne _ _ (by omega), upd_ne _ _ (by omega)]⟩
section PV
variable {σ τ X : Sg} {z : Nat} {ν ν' : Nu} {a : Nat}
theorem win_up3 (h : INV ν) (ha : a < cnt ν 7) (k : Int32) : winchF (upS3 ν a) k = winchF ν k := by
  have n5 := h.n5.2
  have e5 : cnt (upS3 ν a) 5 = cnt ν 5 := by unfold cnt; rw [upS3_keep h ha (by omega)]
  unfold winchF
  rw [e5]
  refine fstL_congr (fun w hw => ?_)
  unfold winP aR
  rw [upS3_keep h ha (by omega), upS3_keep h ha (by omega)]
theorem pla_up3 (h : INV ν) (ha : a < cnt ν 7) : planeT (upS3 ν a) = planeT ν := by
  have n6 := h.n6.2
  have e6 : cnt (upS3 ν a) 6 = cnt ν 6 := by unfold cnt; rw [upS3_keep h ha (by omega)]
  unfold planeT
  rw [e6]
  refine fstL_congr (fun p hp => ?_)
  unfold plaP
  rw [upS3_keep h ha (by omega)]
theorem upS_low (h : INV ν) (ha : a < cnt ν 7) {j : Nat} (hj : j < 26) : upS ν a j = upd ν (20 + (laneA ν a).toNatClampNeg) (ν 0 + spanA ν a) j := by
  have n7 := h.n7.2
  have n5 := h.n5.2
  have k3 : upS3 ν a j = upd ν (20 + (laneA ν a).toNatClampNeg) (ν 0 + spanA ν a) j := by
    unfold upS3
    try simp only
    rw [upd_ne _ _ (by omega), upd_ne _ _ (by omega)]
  unfold upS
  try simp only
  split
  · exact k3
  · split
    · cases hp : planeT (upS3 ν a) with
      | none => exact k3
      | some p => simp only; rw [upd_ne _ _ (by omega)]; exact k3
    · cases hw : winchF (upS3 ν a) (ν (146 + 10 * a + 3)) with
      | none => exact k3
      | some w =>
        simp only
        split
        · rw [ropeS_keep (by omega) (by omega)]
          split <;> (rw [ropeS_keep (by omega) (by omega)]; exact k3)
        · split <;> (rw [ropeS_keep (by omega) (by omega)]; exact k3)
theorem upS_7 (h : INV ν) (ha : a < cnt ν 7) : aA (upS ν a) a 7 = ν 0 := by
  have n7 := h.n7.2
  have n5 := h.n5.2
  have n6 := h.n6.2
  have e5 : cnt (upS3 ν a) 5 = cnt ν 5 := by unfold cnt; rw [upS3_keep h ha (by omega)]
  have e6 : cnt (upS3 ν a) 6 = cnt ν 6 := by unfold cnt; rw [upS3_keep h ha (by omega)]
  have k3 : upS3 ν a (146 + 10 * a + 7) = ν 0 := by
    have hl := (laneA_ok h a).2
    unfold upS3
    try simp only
    rw [upd_at, upd_ne _ _ (by omega), upd_ne _ _ (by omega)]
  unfold aA upS
  try simp only
  split
  · exact k3
  · split
    · cases hp : planeT (upS3 ν a) with
      | none => exact k3
      | some p =>
        have := fstL_lt hp
        simp only; rw [upd_ne _ _ (by omega)]; exact k3
    · cases hw : winchF (upS3 ν a) (ν (146 + 10 * a + 3)) with
      | none => exact k3
      | some w =>
        have := fstL_lt hw
        simp only
        split
        · rw [ropeS_keep (by omega) (by omega)]
          split <;> (rw [ropeS_keep (by omega) (by omega)]; exact k3)
        · split <;> (rw [ropeS_keep (by omega) (by omega)]; exact k3)
/-- ropes and planes behind a launch, model and class alike -/
def GW (τ : Sg) (z : Nat) (ν ν' : Nu) : Prop := (∀ p, p < 2 * cnt ν 5 → τ (z + 12) p = ν' (33 + 2 * p) ∧ τ (z + 13) p = ν' (33 + 2 * p + 1)) ∧ ∀ p, p < cnt ν 6 → τ (z + 15) p = ν' (30 + p)
theorem up3_rp (h : INV ν) (ha : a < cnt ν 7) {j : Nat} (h1 : 26 ≤ j) (h2 : j < 146) : upS3 ν a j = ν j := upS3_keep h ha (by omega)
theorem GW_3 (h : INV ν) (ha : a < cnt ν 7) (hg : GW τ z ν ν) : GW τ z ν (upS3 ν a) := by
  have n5 := h.n5.2
  have n6 := h.n6.2
  exact ⟨fun p hp => by rw [up3_rp h ha (by omega) (by omega), up3_rp h ha (by omega) (by omega)]; exact hg.1 p hp, fun p hp => by rw [up3_rp h ha (by omega) (by omega)]; exact hg.2 p hp⟩
theorem GW_rope {w r : Nat} (hr : r < 2) (hg : GW τ z ν ν') (hw : w < cnt ν 5) (n6 : cnt ν 6 ≤ 3) (x y : Int32) : GW (up (up τ (z + 12) (2 * w + r) x) (z + 13) (2 * w + r) y) z ν (ropeS ν' w r x y) := by
  refine ⟨fun p hp => ?_, fun p hp => ?_⟩
  · obtain ⟨e1, e2⟩ := ropeS_p ν' w r hr x y p
    obtain ⟨g1, g2⟩ := hg.1 p hp
    rw [e1, e2, up_ne _ _ _ (show z + 12 ≠ z + 13 by omega), up_at, up_at, up_ne _ _ _ (show z + 13 ≠ z + 12 by omega)]
    by_cases e : p = 2 * w + r
    · rw [if_pos e, if_pos e, e, upd_at, upd_at]; exact ⟨rfl, rfl⟩
    · rw [if_neg e, if_neg e, upd_ne _ _ e, upd_ne _ _ e]; exact ⟨g1, g2⟩
  · rw [ropeS_keep (by omega) (by omega), up_ne _ _ _ (by omega), up_ne _ _ _ (by omega)]; exact hg.2 p hp
theorem GW_plane {p : Nat} (hg : GW τ z ν ν') (hp : p < cnt ν 6) (n6 : cnt ν 6 ≤ 3) (x : Int32) : GW (up τ (z + 15) p x) z ν (upd ν' (30 + p) x) := by
  refine ⟨fun q hq => ?_, fun q hq => ?_⟩
  · rw [up_ne _ _ _ (by omega), up_ne _ _ _ (by omega), upd_ne _ _ (by omega), upd_ne _ _ (by omega)]; exact hg.1 q hq
  · rw [up_at]
    by_cases e : q = p
    · rw [e, upd_at, upd_at]
    · rw [upd_ne _ _ e, upd_ne _ _ (by omega)]; exact hg.2 q hq
theorem gear_GW (h : INV ν) (ha : a < cnt ν 7) (hg : GW τ z ν ν) : GW (gearS τ z ν (aA ν a 3) (spanA ν a)) z ν (upS ν a) := by
  have n5 := h.n5.2
  have n6 := h.n6.2
  have hg3 := GW_3 h ha hg
  have e3 : ν (146 + 10 * a + 3) = aA ν a 3 := rfl
  have e0 : upS3 ν a 0 = ν 0 := upS3_keep h ha (by omega)
  unfold upS
  simp only
  rw [e3, win_up3 h ha, pla_up3 h ha, e0]
  have plane : ∀ x : Int32, ¬ x = 1 → ¬ x = 3 → ¬ x = 4 → undK x 1 = false → GW (gearS τ z ν x (spanA ν a)) z ν (if x = 4 then upS3 ν a else if undK x 1 = false then (match planeT ν with | some p => upd (upS3 ν a) (30 + p) (ν 0 + 2 * spanA ν a) | none => upS3 ν a) else match winchF ν x with
      | none => upS3 ν a
      | some w => if x = 3 then ropeS (ropeS (upS3 ν a) w (if upS3 ν a (33 + 4 * w + 2 * 0) = 2 then 0 else 1) 0 (-1)) w 1 0 (-1) else ropeS (upS3 ν a) w (if upS3 ν a (33 + 4 * w + 2 * 0) = 2 then 0 else 1) 0 (-1)) := by
    intro x h1 h3 h4 hu
    rw [if_neg h4, if_pos hu]
    unfold gearS
    rw [if_neg h1, if_neg h3, if_neg h4]
    show GW (useP τ z (ν 0 + 2 * spanA ν a) (planeT ν)) z ν _
    cases hp : planeT ν with
    | none => exact hg3
    | some p => exact GW_plane hg3 (fstL_lt hp) n6 _
  rcases kind5 h ha with e | e | e | e | e
  · rw [e, if_neg (by decide), if_neg (by decide)]
    unfold gearS
    rw [if_pos rfl, out_fst (k := 1) (by decide)]
    cases hw : winchF ν 1 with
    | none => exact hg3
    | some w =>
      have hwl := fstL_lt hw
      dsimp only
      rw [if_neg (show ¬ (1 : Int32) = 3 by decide), up3_rp h ha (by omega) (by omega)]
      by_cases e2 : ν (33 + 4 * w + 2 * 0) = 2
      · rw [if_pos e2, if_pos e2]
        exact GW_rope (r := 0) (by omega) hg3 hwl n6 0 (-1)
      · rw [if_neg e2, if_neg e2]
        exact GW_rope (r := 1) (by omega) hg3 hwl n6 0 (-1)
  · rw [e]; exact plane 2 (by decide) (by decide) (by decide) (by decide)
  · rw [e, if_neg (by decide), if_neg (by decide)]
    unfold gearS
    rw [if_neg (by decide), if_pos rfl]
    show GW (useB τ z (winchF ν 3)) z ν _
    cases hw : winchF ν 3 with
    | none => exact hg3
    | some w =>
      have hwl := fstL_lt hw
      dsimp only
      have e2 : ν (33 + 4 * w + 2 * 0) = 2 := by
        have := (fstL_spec hw).2.1
        unfold winP aR at this
        rw [if_pos rfl] at this
        simp only [Bool.and_eq_true, decide_eq_true_eq] at this
        exact this.1
      rw [if_pos rfl, up3_rp h ha (by omega) (by omega), if_pos e2]
      exact GW_rope (r := 1) (by omega) (GW_rope (r := 0) (by omega) hg3 hwl n6 0 (-1)) hwl n6 0 (-1)
  · rw [e, if_pos rfl]
    unfold gearS
    rw [if_neg (by decide), if_neg (by decide), if_pos rfl]
    exact hg3
  · rw [e]; exact plane 5 (by decide) (by decide) (by decide) (by decide)
theorem gearS_ne {x y : Int32} {k : Nat} (h1 : k ≠ z + 12) (h2 : k ≠ z + 13) (h3 : k ≠ z + 15) : gearS τ z ν x y k = τ k := by
  unfold gearS
  split
  · cases fstL (outP ν) (2 * cnt ν 5) with
    | none => rfl
    | some p => show up (up τ (z + 12) p 0) (z + 13) p (-1) k = τ k; rw [up_ne _ _ _ h2, up_ne _ _ _ h1]
  · split
    · cases fstL (winP ν 3) (cnt ν 5) with
      | none => rfl
      | some w => show up (up (up (up τ (z + 12) (2 * w + 0) 0) (z + 13) (2 * w + 0) (-1)) (z + 12) (2 * w + 1) 0) (z + 13) (2 * w + 1) (-1) k = τ k; rw [up_ne _ _ _ h2, up_ne _ _ _ h1, up_ne _ _ _ h2, up_ne _ _ _ h1]
    · split
      · rfl
      · cases fstL (plaP ν) (cnt ν 6) with
        | none => rfl
        | some p => show up τ (z + 15) p (ν 0 + 2 * y) k = τ k; rw [up_ne _ _ _ h3]
/-- the world behind a launch -/
theorem up_RW (hI : INV ν) (hR : RW σ z ν) (ha : a < cnt ν 7) (hw0 : aA ν a 6 = 0)
    (x31 : X (z + 31) = upd (σ (z + 31)) a 1) (x32 : X (z + 32) = upd (σ (z + 32)) a (ν 0))
    (x6 : X (z + 6) 5 = σ (z + 6) 5 ||| crewA ν a) (x64 : X (z + 6) 4 = σ (z + 6) 4) (x1 : X (z + 1) 5 = wb (σ (z + 1) 5) (aA ν a 2) 1) (x14 : X (z + 1) 4 = σ (z + 1) 4)
    (hL : RWl X z (upd ν (20 + (laneA ν a).toNatClampNeg) (ν 0 + spanA ν a))) (hG : GW X z ν (upS ν a)) (hs : ∀ k, k ≤ 36 → ¬ (k = 1 ∨ k = 6 ∨ k = 12 ∨ k = 13 ∨ k = 15 ∨ k = 16 ∨ k = 19 ∨ k = 20 ∨ k = 21 ∨ k = 31 ∨ k = 32) → X (z + k) = σ (z + k)) (ht : ∀ k, 3 ≤ k → k ≤ 9 → X k = σ k) : RW X z (upS ν a) := by
  have n7 := hI.n7.2
  have n4 := hI.n4.2
  have n3 := hI.n3.2
  have n5 := hI.n5.2
  have n6 := hI.n6.2
  have n8 := hI.n8.2
  have hwho := hI.who2 ha
  have hgl := hI.gld2 ha
  have hz0 : X z = σ z := hs 0 (by omega) (by omega)
  have hk : ∀ j, (j < 20 ∨ (26 ≤ j ∧ j < 30) ∨ (45 ≤ j ∧ j < 146) ∨ 346 ≤ j) → upS ν a j = ν j := fun j hj => upS_keep hI ha (by omega)
  have k7 : upS ν a 7 = ν 7 := hk 7 (by omega)
  have hA : ∀ b f, b < 20 → f < 10 → (b = a → f ≠ 6 ∧ f ≠ 7) → aA (upS ν a) b f = aA ν b f := fun b f h1 h2 h3 => by
    unfold aA
    refine upS_keep hI ha (Or.inr (Or.inr (Or.inr (Or.inr ⟨by omega, ?_⟩))))
    by_cases e : b = a
    · have := h3 e; omega
    · omega
  have hA6 : aA (upS ν a) a 6 = 1 := upS_how hI ha
  have h01 : ¬ aA ν a 6 = 1 := by rw [hw0]; decide
  refine ⟨hR.g.mv x14 (hs 2 (by omega) (by omega)) (hs 3 (by omega) (by omega)) (hs 4 (by omega) (by omega)) (hs 5 (by omega) (by omega)) (hk 3 (by omega)) (fun j h1 h2 => hk j (by omega)), hR.p.mv x64 (hs 7 (by omega) (by omega)) (hs 8 (by omega) (by omega)) (hs 9 (by omega) (by omega)) (hs 10 (by omega) (by omega)) (hk 4 (by omega)) (fun j h1 h2 => hk j (by omega)), ⟨fun g hg => ?_, fun p hp => ?_⟩, ⟨by rw [hs 11 (by omega) (by omega), hk 5 (by omega)]; exact hR.w.1, fun p hp => hG.1 p (by rw [← cntE (ν := ν) (hk 5 (by omega))]; exact hp)⟩, ⟨by rw [hs 14 (by omega) (by omega), hk 6 (by omega)]; exact hR.n.1, fun p hp => hG.2 p (by rw [← cntE (ν := ν) (hk 6 (by omega))]; exact hp)⟩, hL.mv rfl (fun _ _ _ => rfl) (by rw [upS_low hI ha (by omega)]) (fun j h1 h2 => upS_low hI ha h2), ⟨by rw [hs 22 (by omega) (by omega), k7]; exact hR.a.1, fun b hb2 => ?_⟩, hR.r.mv (by rw [hz0]) (by rw [hz0]) (by rw [hz0]) (by rw [hz0]) (hs 35 (by omega) (by omega)) (hs 36 (by omega) (by omega)) (hk 0 (by omega)) (hk 1 (by omega)) (hk 2 (by omega)) (hk 8 (by omega)) (fun j h1 h2 => hk j (by omega)) (fun t _ => hk _ (by omega)), hR.t.mv ht n8 (hk 8 (by omega)) (fun j h1 _ => hk j (by omega))⟩
  · rw [x1, hgl.1, hb_wb (by omega) (by omega), inRow_up k7 ha hA6 h01 (fun c hc => ⟨hA c 2 (by omega) (by omega) (fun _ => by omega), fun e => hA c 6 (by omega) (by omega) (fun q => absurd q e)⟩), hR.b.1 g hg]
    by_cases e : g = (aA ν a 2).toNatClampNeg
    · rw [if_pos e, e, ← hgl.1]; simp
    · have : ¬ aA ν a 2 = nI g := fun q => e (by rw [q, nI_clamp (by omega)])
      rw [if_neg e, decide_eq_false this]; simp
  · rw [x6, hb_or _ _ (by omega), hb_crew hI ha (by omega), inAir_up k7 ha hA6 h01 (fun c hc => ⟨hA c 0 (by omega) (by omega) (fun _ => by omega), hA c 1 (by omega) (by omega) (fun _ => by omega), fun e => hA c 6 (by omega) (by omega) (fun q => absurd q e)⟩), hR.b.2 p hp]
  · rw [cntE k7] at hb2
    have hsp : spanA (upS ν a) b = spanA ν b := by unfold spanA; rw [hA b 3 (by omega) (by omega) (fun _ => by omega), hA b 4 (by omega) (by omega) (fun _ => by omega)]
    have hus : useA (upS ν a) b = useA ν b := by unfold useA; rw [hA b 3 (by omega) (by omega) (fun _ => by omega)]
    rw [hsp, hus, hA b 0 (by omega) (by omega) (fun _ => by omega), hA b 1 (by omega) (by omega) (fun _ => by omega), hA b 2 (by omega) (by omega) (fun _ => by omega), hA b 3 (by omega) (by omega) (fun _ => by omega), hA b 4 (by omega) (by omega) (fun _ => by omega), hA b 5 (by omega) (by omega) (fun _ => by omega), hA b 8 (by omega) (by omega) (fun _ => by omega), hA b 9 (by omega) (by omega) (fun _ => by omega)]
    obtain ⟨q0, q1, q2, q3, q4, q5, q6, q7, q8, q9, q10, q11⟩ := hR.a.2 b hb2
    rw [hs 23 (by omega) (by omega), hs 24 (by omega) (by omega), hs 25 (by omega) (by omega), hs 26 (by omega) (by omega), hs 27 (by omega) (by omega), hs 28 (by omega) (by omega), hs 29 (by omega) (by omega), hs 30 (by omega) (by omega), hs 33 (by omega) (by omega), hs 34 (by omega) (by omega), x31, x32]
    refine ⟨q0, q1, q2, q3, q4, q5, q6, q7, ?_, ?_, q10, q11⟩
    · by_cases e : b = a
      · rw [e, upd_at, hA6]
      · rw [upd_ne _ _ e, hA b 6 (by omega) (by omega) (fun q => absurd q e)]; exact q8
    · by_cases e : b = a
      · rw [e, upd_at, upS_7 hI ha]
      · rw [upd_ne _ _ e, hA b 7 (by omega) (by omega) (fun q => absurd q e)]; exact q9
/-! a fetching -/
theorem fetR_at {w r : Nat} (hr : r < 2) (hg : GW τ z ν ν') (hw : w < cnt ν 5) (n6 : cnt ν 6 ≤ 3) {t : Int32} (ht : t = ν' 0 + ν' 26) : GW (fetO τ z (2 * w + r) t) z ν (fetchR ν' w r) := by
  have e1 := (hg.1 (2 * w + r) (by omega)).1
  rw [show 33 + 2 * (2 * w + r) = 33 + 4 * w + 2 * r by omega] at e1
  unfold fetO fetchR
  rw [e1]
  by_cases e : ν' (33 + 4 * w + 2 * r) = 0
  · rw [if_pos e, if_pos e, ht]; exact GW_rope hr hg hw n6 _ _
  · rw [if_neg e, if_neg e]; exact hg
theorem fetO_ne {p k : Nat} {t : Int32} (h1 : k ≠ z + 12) (h2 : k ≠ z + 13) : fetO τ z p t k = τ k := by
  unfold fetO
  split
  · rw [up_ne _ _ _ h2, up_ne _ _ _ h1]
  · rfl
theorem fet_RW (hI : INV ν) (hR : RW σ z ν) {w : Nat} (hw : w < cnt ν 5) (hs : ∀ k, k ≤ 36 → ¬ (k = 12 ∨ k = 13 ∨ k = 16 ∨ k = 19 ∨ k = 20 ∨ k = 21) → X (z + k) = σ (z + k)) (ht : ∀ k, 3 ≤ k → k ≤ 9 → X k = σ k)
    (hL : RWl X z (upd ν (20 + (ν 19).toNatClampNeg) (ν 0 + ν 26))) (hG : GW X z ν (fetchedS ν w)) : RW X z (fetchedS ν w) := by
  have n5 := hI.n5.2
  have n8 := hI.n8.2
  have n4 := hI.n4.2
  have n3 := hI.n3.2
  have n7 := hI.n7.2
  have hl : (ν 19).toNatClampNeg < 6 := (hI.lane (u := 3) (by decide)).2
  have hz0 : X z = σ z := hs 0 (by omega) (by omega)
  have hk : ∀ j, (j < 20 ∨ (26 ≤ j ∧ j < 33) ∨ 45 ≤ j) → fetchedS ν w j = ν j := fun j hj => fetchedS_keep hI (by omega) hj
  have hlo : ∀ j, j < 26 → fetchedS ν w j = upd ν (20 + (ν 19).toNatClampNeg) (ν 0 + ν 26) j := fun j hj => by
    unfold fetchedS
    rw [fetchR_keep (by omega) (by omega), fetchR_keep (by omega) (by omega)]
  have hq : ∀ k, k ≤ 36 → ¬ (k = 12 ∨ k = 13 ∨ k = 16 ∨ k = 19 ∨ k = 20 ∨ k = 21) → ∀ j, X (z + k) j = σ (z + k) j := fun k h1 h2 j => by rw [hs k h1 h2]
  exact ⟨hR.g.mv (hq 1 (by omega) (by omega) _) (hs 2 (by omega) (by omega)) (hs 3 (by omega) (by omega)) (hs 4 (by omega) (by omega)) (hs 5 (by omega) (by omega)) (hk 3 (by omega)) (fun j h1 h2 => hk j (by omega)), hR.p.mv (hq 6 (by omega) (by omega) _) (hs 7 (by omega) (by omega)) (hs 8 (by omega) (by omega)) (hs 9 (by omega) (by omega)) (hs 10 (by omega) (by omega)) (hk 4 (by omega)) (fun j h1 h2 => hk j (by omega)), hR.b.mv (hq 1 (by omega) (by omega) _) (hq 6 (by omega) (by omega) _) (hk 7 (by omega)) (fun b hb2 => ⟨hk _ (by omega), hk _ (by omega), hk _ (by omega), hk _ (by omega)⟩), ⟨by rw [hq 11 (by omega) (by omega), hk 5 (by omega)]; exact hR.w.1, fun p hp => hG.1 p (by rw [← cntE (ν := ν) (hk 5 (by omega))]; exact hp)⟩, ⟨by rw [hq 14 (by omega) (by omega), hk 6 (by omega)]; exact hR.n.1, fun p hp => hG.2 p (by rw [← cntE (ν := ν) (hk 6 (by omega))]; exact hp)⟩, hL.mv rfl (fun _ _ _ => rfl) (hlo 0 (by omega)) (fun j _ h2 => hlo j h2), hR.a.mv (hq 22 (by omega) (by omega) _) (fun k h1 h2 => hs k (by omega) (by omega)) (hk 7 (by omega)) (fun j h1 h2 => hk j (by omega)), hR.r.mv (by rw [hz0]) (by rw [hz0]) (by rw [hz0]) (by rw [hz0]) (hs 35 (by omega) (by omega)) (hs 36 (by omega) (by omega)) (hk 0 (by omega)) (hk 1 (by omega)) (hk 2 (by omega)) (hk 8 (by omega)) (fun j h1 h2 => hk j (by omega)) (fun t _ => hk _ (by omega)), hR.t.mv ht n8 (hk 8 (by omega)) (fun j h1 _ => hk j (by omega))⟩
/-! the next minute -/
theorem openR_p (ν : Nu) (w r : Nat) (hr : r < 2) (p : Nat) : openR ν w r (33 + 2 * p) = (if p = 2 * w + r then opSt (ν (33 + 2 * p)) (ν (33 + 2 * p + 1)) (ν 0) else ν (33 + 2 * p)) ∧ openR ν w r (33 + 2 * p + 1) = (if p = 2 * w + r then opTi (ν (33 + 2 * p)) (ν (33 + 2 * p + 1)) (ν 0) else ν (33 + 2 * p + 1)) := by
  by_cases e : p = 2 * w + r
  · rw [if_pos e, if_pos e, e, show 33 + 2 * (2 * w + r) = 33 + 4 * w + 2 * r by omega]
    unfold openR opSt opTi
    split
    · rename_i q
      unfold ropeS
      rw [upd_at, upd_ne _ _ (show 33 + 4 * w + 2 * r ≠ 33 + 4 * w + 2 * r + 1 by omega), upd_at]
      obtain ⟨q1, q2⟩ := q
      rcases q1 with q1 | q1
      · rw [if_pos q1, if_pos ⟨q1, q2⟩]; exact ⟨rfl, rfl⟩
      · have h1 : ¬ ν (33 + 4 * w + 2 * r) = 1 := by rw [q1]; decide
        rw [if_neg h1, if_neg (fun z => h1 z.1), if_pos ⟨q1, q2⟩]; exact ⟨rfl, rfl⟩
    · rename_i q
      have h1 : ¬ (ν (33 + 4 * w + 2 * r) = 1 ∧ ν (33 + 4 * w + 2 * r + 1) ≤ ν 0) := fun z => q ⟨Or.inl z.1, z.2⟩
      have h2 : ¬ (ν (33 + 4 * w + 2 * r) = 3 ∧ ν (33 + 4 * w + 2 * r + 1) ≤ ν 0) := fun z => q ⟨Or.inr z.1, z.2⟩
      rw [if_neg h1, if_neg h2]; exact ⟨rfl, rfl⟩
  · rw [if_neg e, if_neg e]
    exact ⟨openR_keep (by omega) (by omega), openR_keep (by omega) (by omega)⟩
theorem openW_p (ν : Nu) : ∀ n p, n ≤ 3 → openW ν n (33 + 2 * p) = (if p < 2 * n then opSt (ν (33 + 2 * p)) (ν (33 + 2 * p + 1)) (ν 0) else ν (33 + 2 * p)) ∧ openW ν n (33 + 2 * p + 1) = (if p < 2 * n then opTi (ν (33 + 2 * p)) (ν (33 + 2 * p + 1)) (ν 0) else ν (33 + 2 * p + 1)) := by
  intro n
  induction n with
  | zero => intro p _; rw [if_neg (by omega), if_neg (by omega)]; exact ⟨rfl, rfl⟩
  | succ n ih =>
    intro p hn
    obtain ⟨i1, i2⟩ := ih p (by omega)
    obtain ⟨a1, a2⟩ := openR_p (openW ν n) n 0 (by omega) p
    obtain ⟨b1, b2⟩ := openR_p (openR (openW ν n) n 0) n 1 (by omega) p
    have e0 : openW ν n 0 = ν 0 := openW_keep (by omega) (by omega)
    have e00 : openR (openW ν n) n 0 0 = ν 0 := by rw [openR_keep (by omega) (by omega)]; exact e0
    rw [openW_s, b1, b2, a1, a2, i1, i2, e0, e00]
    by_cases c1 : p = 2 * n + 1
    · rw [if_pos c1, if_pos c1, if_neg (by omega), if_neg (by omega), if_neg (by omega), if_neg (by omega), if_pos (by omega), if_pos (by omega)]; exact ⟨rfl, rfl⟩
    · rw [if_neg c1, if_neg c1]
      by_cases c0 : p = 2 * n + 0
      · rw [if_pos c0, if_pos c0, if_neg (by omega), if_neg (by omega), if_pos (by omega), if_pos (by omega)]; exact ⟨rfl, rfl⟩
      · rw [if_neg c0, if_neg c0]
        by_cases c : p < 2 * n
        · rw [if_pos c, if_pos c, if_pos (by omega), if_pos (by omega)]; exact ⟨rfl, rfl⟩
        · rw [if_neg c, if_neg c, if_neg (by omega), if_neg (by omega)]; exact ⟨rfl, rfl⟩
theorem openP_p (ν : Nu) : ∀ n p, n ≤ 3 → p < 3 → openP ν n (30 + p) = if p < n then (if ν (30 + p) ≤ ν 0 then -1 else ν (30 + p)) else ν (30 + p) := by
  intro n
  induction n with
  | zero => intro p _ _; rw [if_neg (by omega)]; rfl
  | succ n ih =>
    intro p hn hp
    have i1 := ih p (by omega) hp
    have i2 := ih n (by omega) (by omega)
    have e0 : openP ν n 0 = ν 0 := openP_keep (by omega) (by omega)
    rw [openP_s]
    by_cases c : p = n
    · subst c
      rw [upd_at, i2, e0, if_neg (show ¬ p < p by omega), if_pos (show p < p + 1 by omega)]
    · rw [upd_ne _ _ (by omega), i1]
      by_cases c2 : p < n
      · rw [if_pos c2, if_pos (show p < n + 1 by omega)]
      · rw [if_neg c2, if_neg (show ¬ p < n + 1 by omega)]
theorem open_W (hI : INV ν) {p : Nat} (hp : p < 2 * cnt ν 5) : openS ν (33 + 2 * p) = opSt (ν (33 + 2 * p)) (ν (33 + 2 * p + 1)) (ν 0 + 1) ∧ openS ν (33 + 2 * p + 1) = opTi (ν (33 + 2 * p)) (ν (33 + 2 * p + 1)) (ν 0 + 1) := by
  have n5 := hI.n5.2
  have n6 := hI.n6.2
  unfold openS
  try simp only
  rw [openP_keep n6 (by omega), openP_keep n6 (by omega)]
  obtain ⟨a1, a2⟩ := openW_p (upd ν 0 (ν 0 + 1)) (cnt ν 5) p n5
  rw [a1, a2, if_pos hp, if_pos hp, upd_at, upd_ne _ _ (by omega), upd_ne _ _ (by omega)]
  exact ⟨rfl, rfl⟩
theorem open_P (hI : INV ν) {p : Nat} (hp : p < cnt ν 6) : openS ν (30 + p) = if ν (30 + p) ≤ ν 0 + 1 then -1 else ν (30 + p) := by
  have n5 := hI.n5.2
  have n6 := hI.n6.2
  unfold openS
  try simp only
  rw [openP_p _ _ _ n6 (by omega), if_pos hp, openW_keep n5 (by omega), openW_keep n5 (by omega), upd_at, upd_ne _ _ (by omega)]
theorem open_RW (hI : INV ν) (hR : RW σ z ν) (hs : ∀ k, k ≤ 36 → ¬ (k = 0 ∨ k = 12 ∨ k = 13 ∨ k = 15 ∨ k = 16 ∨ k = 19 ∨ k = 20 ∨ k = 21) → X (z + k) = σ (z + k)) (ht : ∀ k, 3 ≤ k → k ≤ 9 → X k = σ k)
    (h9 : X z 9 = ν 0 + 1) (h10 : X z 10 = σ z 10) (h11 : X z 11 = σ z 11) (h12 : X z 12 = σ z 12) (hW : ∀ p, p < 2 * cnt ν 5 → X (z + 12) p = opSt (σ (z + 12) p) (σ (z + 13) p) (ν 0 + 1) ∧ X (z + 13) p = opTi (σ (z + 12) p) (σ (z + 13) p) (ν 0 + 1))
    (hP : ∀ p, p < cnt ν 6 → X (z + 15) p = if σ (z + 15) p ≤ ν 0 + 1 then -1 else σ (z + 15) p) {n : Nat} (hM : MV X z (openS ν) n) : RW X z (openS ν) := by
  have n5 := hI.n5.2
  have n6 := hI.n6.2
  have n8 := hI.n8.2
  have n4 := hI.n4.2
  have n3 := hI.n3.2
  have n7 := hI.n7.2
  have hk : ∀ j, ((0 < j ∧ j < 30) ∨ 45 ≤ j) → openS ν j = ν j := fun j hj => openS_keep hI hj
  have hq : ∀ k, k ≤ 36 → ¬ (k = 0 ∨ k = 12 ∨ k = 13 ∨ k = 15 ∨ k = 16 ∨ k = 19 ∨ k = 20 ∨ k = 21) → ∀ j, X (z + k) j = σ (z + k) j := fun k h1 h2 j => by rw [hs k h1 h2]
  obtain ⟨r1, r2, r3, r4, r5, r6⟩ := hR.r
  refine ⟨hR.g.mv (hq 1 (by omega) (by omega) _) (hs 2 (by omega) (by omega)) (hs 3 (by omega) (by omega)) (hs 4 (by omega) (by omega)) (hs 5 (by omega) (by omega)) (hk 3 (by omega)) (fun j h1 h2 => hk j (by omega)), hR.p.mv (hq 6 (by omega) (by omega) _) (hs 7 (by omega) (by omega)) (hs 8 (by omega) (by omega)) (hs 9 (by omega) (by omega)) (hs 10 (by omega) (by omega)) (hk 4 (by omega)) (fun j h1 h2 => hk j (by omega)), hR.b.mv (hq 1 (by omega) (by omega) _) (hq 6 (by omega) (by omega) _) (hk 7 (by omega)) (fun b hb2 => ⟨hk _ (by omega), hk _ (by omega), hk _ (by omega), hk _ (by omega)⟩), ⟨by rw [hq 11 (by omega) (by omega), hk 5 (by omega)]; exact hR.w.1, fun p hp => ?_⟩, ⟨by rw [hq 14 (by omega) (by omega), hk 6 (by omega)]; exact hR.n.1, fun p hp => ?_⟩, ⟨hR.l.1.mv (hs 17 (by omega) (by omega)) (hs 18 (by omega) (by omega)) (fun j h1 h2 => hk j (by omega)), n, hM⟩, hR.a.mv (hq 22 (by omega) (by omega) _) (fun k h1 h2 => hs k (by omega) (by omega)) (hk 7 (by omega)) (fun j h1 h2 => hk j (by omega)), ⟨by rw [h9, openS_0 hI], by rw [h10, hk 1 (by omega)]; exact r2, by rw [h11, hk 2 (by omega)]; exact r3, by rw [h12, hk 8 (by omega)]; exact r4, fun i hi => by rw [hs 35 (by omega) (by omega), hk _ (by omega)]; exact r5 i hi, fun u hu => by rw [hs 36 (by omega) (by omega), textU_cg (hk 8 (by omega)) (fun t _ => hk _ (by omega))]; exact r6 u hu⟩, hR.t.mv ht n8 (hk 8 (by omega)) (fun j h1 _ => hk j (by omega))⟩
  · rw [cntE (hk 5 (by omega))] at hp
    obtain ⟨a1, a2⟩ := open_W hI hp
    obtain ⟨b1, b2⟩ := hW p hp
    rw [a1, a2, b1, b2, hR.w0 hp, hR.w1 hp]
    exact ⟨rfl, rfl⟩
  · rw [cntE (hk 6 (by omega))] at hp
    rw [open_P hI hp, hP p hp, hR.n0 hp]
end PV
