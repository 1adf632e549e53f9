/-! ===== the class's world beside the model's row of numbers ===== -/
def useA (ν : Nu) (a : Nat) : Int32 := if undK (aA ν a 3) 1 = true then 0 else 1
def RWg (σ : Sg) (z : Nat) (ν : Nu) : Prop := σ (z + 1) 4 = ν 3 ∧ ∀ g, g < cnt ν 3 → σ (z + 2) g = aG ν g 0 ∧ σ (z + 3) g = aG ν g 1 ∧ σ (z + 4) g = aG ν g 2 ∧ σ (z + 5) g = aG ν g 3
def RWp (σ : Sg) (z : Nat) (ν : Nu) : Prop := σ (z + 6) 4 = ν 4 ∧ ∀ p, p < cnt ν 4 → σ (z + 7) p = aP ν p 0 ∧ σ (z + 8) p = aP ν p 1 ∧ σ (z + 9) p = aP ν p 2 ∧ σ (z + 10) p = aP ν p 3
/-- the bits: which gliders aren't in the row, which people are in the air -/
def RWb (σ : Sg) (z : Nat) (ν : Nu) : Prop := (∀ g, g < 10 → hb (σ (z + 1) 5) (nI g) = !inRow ν (nI g)) ∧ ∀ p, p < 14 → hb (σ (z + 6) 5) (nI p) = inAir ν (nI p)
def RWw (σ : Sg) (z : Nat) (ν : Nu) : Prop := σ (z + 11) 2 = ν 5 ∧ ∀ p, p < 2 * cnt ν 5 → σ (z + 12) p = ν (33 + 2 * p) ∧ σ (z + 13) p = ν (33 + 2 * p + 1)
def RWn (σ : Sg) (z : Nat) (ν : Nu) : Prop := σ (z + 14) 1 = ν 6 ∧ ∀ p, p < cnt ν 6 → σ (z + 15) p = ν (30 + p)
/-- n movements: one for each lane on which one goes on -/
def MV (σ : Sg) (z : Nat) (ν : Nu) (n : Nat) : Prop := σ (z + 16) 5 = nI n ∧ (∀ i, i < n → ∃ l, l < 6 ∧ σ (z + 19) i = nI l ∧ σ (z + 20) i ≤ ν 0 ∧ σ (z + 21) i = ν (20 + l) ∧ ν 0 < ν (20 + l)) ∧
  (∀ i j, i < j → j < n → σ (z + 19) i ≠ σ (z + 19) j) ∧ ∀ l, l < 6 → ν 0 < ν (20 + l) → ∃ i, i < n ∧ σ (z + 19) i = nI l
def RWc (σ : Sg) (z : Nat) (ν : Nu) : Prop := (∀ k, k < 6 → σ (z + 17) k = ν (10 + k)) ∧ ∀ u, u < 4 → σ (z + 18) u = ν (16 + u)
def RWl (σ : Sg) (z : Nat) (ν : Nu) : Prop := RWc σ z ν ∧ ∃ n, MV σ z ν n
def RWa (σ : Sg) (z : Nat) (ν : Nu) : Prop := σ (z + 22) 12 = ν 7 ∧ ∀ a, a < cnt ν 7 → σ (z + 23) a = aA ν a 0 ∧ σ (z + 24) a = aA ν a 1 ∧ σ (z + 25) a = aA ν a 2 ∧ σ (z + 26) a = aA ν a 3 ∧ σ (z + 27) a = aA ν a 4 ∧ σ (z + 28) a = aA ν a 5 ∧ σ (z + 29) a = useA ν a ∧ σ (z + 30) a = spanA ν a ∧ σ (z + 31) a = aA ν a 6 ∧ σ (z + 32) a = aA ν a 7 ∧ σ (z + 33) a = aA ν a 8 ∧ σ (z + 34) a = aA ν a 9
def RWr (σ : Sg) (z : Nat) (ν : Nu) : Prop := σ z 9 = ν 0 ∧ σ z 10 = ν 1 ∧ σ z 11 = ν 2 ∧ σ z 12 = ν 8 ∧ (∀ i, i < 4 → σ (z + 35) i = ν (26 + i)) ∧ ∀ u, u < 2 → σ (z + 36) u = o2i (textU ν (nI u))
def RWt (σ : Sg) (ν : Nu) : Prop := ∀ t, t < cnt ν 8 → RT1 σ (codes ν t) (lenT ν t) t
def RW (σ : Sg) (z : Nat) (ν : Nu) : Prop := RWg σ z ν ∧ RWp σ z ν ∧ RWb σ z ν ∧ RWw σ z ν ∧ RWn σ z ν ∧ RWl σ z ν ∧ RWa σ z ν ∧ RWr σ z ν ∧ RWt σ ν
section RWS
variable {σ τ : Sg} {z : Nat} {ν ν' : Nu}
theorem RW.g (h : RW σ z ν) : RWg σ z ν := h.1
theorem RW.p (h : RW σ z ν) : RWp σ z ν := h.2.1
theorem RW.b (h : RW σ z ν) : RWb σ z ν := h.2.2.1
theorem RW.w (h : RW σ z ν) : RWw σ z ν := h.2.2.2.1
theorem RW.n (h : RW σ z ν) : RWn σ z ν := h.2.2.2.2.1
theorem RW.l (h : RW σ z ν) : RWl σ z ν := h.2.2.2.2.2.1
theorem RW.a (h : RW σ z ν) : RWa σ z ν := h.2.2.2.2.2.2.1
theorem RW.r (h : RW σ z ν) : RWr σ z ν := h.2.2.2.2.2.2.2.1
theorem RW.t (h : RW σ z ν) : RWt σ ν := h.2.2.2.2.2.2.2.2
theorem RW.n3 (h : RW σ z ν) (hI : INV ν) : σ (z + 1) 4 = nI (cnt ν 3) := h.g.1.trans hI.n3.1
theorem RW.n4 (h : RW σ z ν) (hI : INV ν) : σ (z + 6) 4 = nI (cnt ν 4) := h.p.1.trans hI.n4.1
theorem RW.n5 (h : RW σ z ν) (hI : INV ν) : σ (z + 11) 2 = nI (cnt ν 5) := h.w.1.trans hI.n5.1
theorem RW.n6 (h : RW σ z ν) (hI : INV ν) : σ (z + 14) 1 = nI (cnt ν 6) := h.n.1.trans hI.n6.1
theorem RW.n7 (h : RW σ z ν) (hI : INV ν) : σ (z + 22) 12 = nI (cnt ν 7) := h.a.1.trans hI.n7.1
theorem RW.g0 (h : RW σ z ν) {g : Nat} (hg : g < cnt ν 3) : σ (z + 2) g = aG ν g 0 := (h.g.2 g hg).1
theorem RW.p0 (h : RW σ z ν) {p : Nat} (hp : p < cnt ν 4) : σ (z + 7) p = aP ν p 0 := (h.p.2 p hp).1
theorem RW.g1 (h : RW σ z ν) {g : Nat} (hg : g < cnt ν 3) : σ (z + 3) g = aG ν g 1 := (h.g.2 g hg).2.1
theorem RW.p1 (h : RW σ z ν) {p : Nat} (hp : p < cnt ν 4) : σ (z + 8) p = aP ν p 1 := (h.p.2 p hp).2.1
theorem RW.g2 (h : RW σ z ν) {g : Nat} (hg : g < cnt ν 3) : σ (z + 4) g = aG ν g 2 := (h.g.2 g hg).2.2.1
theorem RW.p2 (h : RW σ z ν) {p : Nat} (hp : p < cnt ν 4) : σ (z + 9) p = aP ν p 2 := (h.p.2 p hp).2.2.1
theorem RW.g3 (h : RW σ z ν) {g : Nat} (hg : g < cnt ν 3) : σ (z + 5) g = aG ν g 3 := (h.g.2 g hg).2.2.2
theorem RW.p3 (h : RW σ z ν) {p : Nat} (hp : p < cnt ν 4) : σ (z + 10) p = aP ν p 3 := (h.p.2 p hp).2.2.2
theorem RW.a0 (h : RW σ z ν) {a : Nat} (ha : a < cnt ν 7) : σ (z + 23) a = aA ν a 0 := (h.a.2 a ha).1
theorem RW.a1 (h : RW σ z ν) {a : Nat} (ha : a < cnt ν 7) : σ (z + 24) a = aA ν a 1 := (h.a.2 a ha).2.1
theorem RW.a2 (h : RW σ z ν) {a : Nat} (ha : a < cnt ν 7) : σ (z + 25) a = aA ν a 2 := (h.a.2 a ha).2.2.1
theorem RW.a3 (h : RW σ z ν) {a : Nat} (ha : a < cnt ν 7) : σ (z + 26) a = aA ν a 3 := (h.a.2 a ha).2.2.2.1
theorem RW.a4 (h : RW σ z ν) {a : Nat} (ha : a < cnt ν 7) : σ (z + 27) a = aA ν a 4 := (h.a.2 a ha).2.2.2.2.1
theorem RW.a5 (h : RW σ z ν) {a : Nat} (ha : a < cnt ν 7) : σ (z + 28) a = aA ν a 5 := (h.a.2 a ha).2.2.2.2.2.1
theorem RW.a6 (h : RW σ z ν) {a : Nat} (ha : a < cnt ν 7) : σ (z + 29) a = useA ν a := (h.a.2 a ha).2.2.2.2.2.2.1
theorem RW.a7 (h : RW σ z ν) {a : Nat} (ha : a < cnt ν 7) : σ (z + 30) a = spanA ν a := (h.a.2 a ha).2.2.2.2.2.2.2.1
theorem RW.a8 (h : RW σ z ν) {a : Nat} (ha : a < cnt ν 7) : σ (z + 31) a = aA ν a 6 := (h.a.2 a ha).2.2.2.2.2.2.2.2.1
theorem RW.a9 (h : RW σ z ν) {a : Nat} (ha : a < cnt ν 7) : σ (z + 32) a = aA ν a 7 := (h.a.2 a ha).2.2.2.2.2.2.2.2.2.1
theorem RW.a10 (h : RW σ z ν) {a : Nat} (ha : a < cnt ν 7) : σ (z + 33) a = aA ν a 8 := (h.a.2 a ha).2.2.2.2.2.2.2.2.2.2.1
theorem RW.a11 (h : RW σ z ν) {a : Nat} (ha : a < cnt ν 7) : σ (z + 34) a = aA ν a 9 := (h.a.2 a ha).2.2.2.2.2.2.2.2.2.2.2
theorem RW.w0 (h : RW σ z ν) {p : Nat} (hp : p < 2 * cnt ν 5) : σ (z + 12) p = ν (33 + 2 * p) := (h.w.2 p hp).1
theorem RW.w1 (h : RW σ z ν) {p : Nat} (hp : p < 2 * cnt ν 5) : σ (z + 13) p = ν (33 + 2 * p + 1) := (h.w.2 p hp).2
theorem RW.n0 (h : RW σ z ν) {p : Nat} (hp : p < cnt ν 6) : σ (z + 15) p = ν (30 + p) := h.n.2 p hp
theorem RW.min (h : RW σ z ν) : σ z 9 = ν 0 := h.r.1
theorem RW.wnd (h : RW σ z ν) : σ z 10 = ν 1 := h.r.2.1
theorem RW.lnk (h : RW σ z ν) : σ z 11 = ν 2 := h.r.2.2.1
theorem RW.txc (h : RW σ z ν) : σ z 12 = ν 8 := h.r.2.2.2.1
theorem RW.rul (h : RW σ z ν) {i : Nat} (hi : i < 4) : σ (z + 35) i = ν (26 + i) := h.r.2.2.2.2.1 i hi
theorem RW.frc (h : RW σ z ν) {u : Nat} (hu : u < 2) : σ (z + 36) u = o2i (textU ν (nI u)) := h.r.2.2.2.2.2 u hu
theorem RW.crs (h : RW σ z ν) {k : Nat} (hk : k < 6) : σ (z + 17) k = ν (10 + k) := h.l.1.1 k hk
theorem RW.lfo (h : RW σ z ν) {u : Nat} (hu : u < 4) : σ (z + 18) u = ν (16 + u) := h.l.1.2 u hu
/-! a part stays, where its cells and its numbers do -/
theorem cntE {k : Nat} (h : ν' k = ν k) : cnt ν' k = cnt ν k := by unfold cnt; rw [h]
theorem RWg.mv (h : RWg σ z ν) (h1 : τ (z + 1) 4 = σ (z + 1) 4) (h2 : τ (z + 2) = σ (z + 2)) (h3 : τ (z + 3) = σ (z + 3)) (h4 : τ (z + 4) = σ (z + 4)) (h5 : τ (z + 5) = σ (z + 5)) (n3 : ν' 3 = ν 3) (hn : ∀ j, 50 ≤ j → j < 50 + 4 * cnt ν 3 → ν' j = ν j) : RWg τ z ν' := by
  refine ⟨by rw [h1, n3]; exact h.1, fun g hg => ?_⟩
  rw [cntE n3] at hg
  obtain ⟨a, b, c, d⟩ := h.2 g hg
  unfold aG at *
  rw [h2, h3, h4, h5, hn _ (by omega) (by omega), hn _ (by omega) (by omega), hn _ (by omega) (by omega), hn _ (by omega) (by omega)]
  exact ⟨a, b, c, d⟩
theorem RWp.mv (h : RWp σ z ν) (h1 : τ (z + 6) 4 = σ (z + 6) 4) (h2 : τ (z + 7) = σ (z + 7)) (h3 : τ (z + 8) = σ (z + 8)) (h4 : τ (z + 9) = σ (z + 9)) (h5 : τ (z + 10) = σ (z + 10)) (n3 : ν' 4 = ν 4) (hn : ∀ j, 90 ≤ j → j < 90 + 4 * cnt ν 4 → ν' j = ν j) : RWp τ z ν' := by
  refine ⟨by rw [h1, n3]; exact h.1, fun g hg => ?_⟩
  rw [cntE n3] at hg
  obtain ⟨a, b, c, d⟩ := h.2 g hg
  unfold aP at *
  rw [h2, h3, h4, h5, hn _ (by omega) (by omega), hn _ (by omega) (by omega), hn _ (by omega) (by omega), hn _ (by omega) (by omega)]
  exact ⟨a, b, c, d⟩
theorem allL_cg {P Q : Nat → Bool} {n : Nat} (h : ∀ j, j < n → P j = Q j) : allL P n = allL Q n := by
  induction n with
  | zero => rfl
  | succ n ih => rw [allL_s, allL_s, ih (fun j hj => h j (by omega)), h n (by omega)]
theorem anyL_cg {P Q : Nat → Bool} {n : Nat} (h : ∀ j, j < n → P j = Q j) : anyL P n = anyL Q n := by
  induction n with
  | zero => rfl
  | succ n ih => rw [anyL_s, anyL_s, ih (fun j hj => h j (by omega)), h n (by omega)]
theorem inRow_cg (n7 : ν' 7 = ν 7) (h : ∀ a, a < cnt ν 7 → aA ν' a 6 = aA ν a 6 ∧ aA ν' a 2 = aA ν a 2) (g : Int32) : inRow ν' g = inRow ν g := by
  unfold inRow
  rw [cntE n7]
  exact allL_cg (fun j hj => by unfold rowP; rw [(h j hj).1, (h j hj).2])
theorem inAir_cg (n7 : ν' 7 = ν 7) (h : ∀ a, a < cnt ν 7 → aA ν' a 6 = aA ν a 6 ∧ aA ν' a 0 = aA ν a 0 ∧ aA ν' a 1 = aA ν a 1) (g : Int32) : inAir ν' g = inAir ν g := by
  unfold inAir
  rw [cntE n7]
  exact anyL_cg (fun j hj => by unfold airP; rw [(h j hj).1, (h j hj).2.1, (h j hj).2.2])
theorem RWb.mv (h : RWb σ z ν) (h1 : τ (z + 1) 5 = σ (z + 1) 5) (h2 : τ (z + 6) 5 = σ (z + 6) 5) (n7 : ν' 7 = ν 7) (hn : ∀ a, a < cnt ν 7 → aA ν' a 6 = aA ν a 6 ∧ aA ν' a 2 = aA ν a 2 ∧ aA ν' a 0 = aA ν a 0 ∧ aA ν' a 1 = aA ν a 1) : RWb τ z ν' := by
  refine ⟨fun g hg => ?_, fun p hp => ?_⟩
  · rw [h1, inRow_cg n7 (fun a ha => ⟨(hn a ha).1, (hn a ha).2.1⟩)]; exact h.1 g hg
  · rw [h2, inAir_cg n7 (fun a ha => ⟨(hn a ha).1, (hn a ha).2.2⟩)]; exact h.2 p hp
theorem RWw.mv (h : RWw σ z ν) (h1 : τ (z + 11) 2 = σ (z + 11) 2) (h2 : τ (z + 12) = σ (z + 12)) (h3 : τ (z + 13) = σ (z + 13)) (n5 : ν' 5 = ν 5) (hn : ∀ j, 33 ≤ j → j < 33 + 4 * cnt ν 5 → ν' j = ν j) : RWw τ z ν' := by
  refine ⟨by rw [h1, n5]; exact h.1, fun g hg => ?_⟩
  rw [cntE n5] at hg
  rw [h2, h3, hn _ (by omega) (by omega), hn _ (by omega) (by omega)]
  exact h.2 g hg
theorem RWn.mv (h : RWn σ z ν) (h1 : τ (z + 14) 1 = σ (z + 14) 1) (h2 : τ (z + 15) = σ (z + 15)) (n6 : ν' 6 = ν 6) (hn : ∀ j, 30 ≤ j → j < 30 + cnt ν 6 → ν' j = ν j) : RWn τ z ν' := by
  refine ⟨by rw [h1, n6]; exact h.1, fun g hg => ?_⟩
  rw [cntE n6] at hg
  rw [h2, hn _ (by omega) (by omega)]
  exact h.2 g hg
theorem RWc.mv (h : RWc σ z ν) (h1 : τ (z + 17) = σ (z + 17)) (h2 : τ (z + 18) = σ (z + 18)) (hn : ∀ j, 10 ≤ j → j < 20 → ν' j = ν j) : RWc τ z ν' :=
  ⟨fun k hk => by rw [h1, hn _ (by omega) (by omega)]; exact h.1 k hk, fun u hu => by rw [h2, hn _ (by omega) (by omega)]; exact h.2 u hu⟩
theorem MV.mv {n : Nat} (h : MV σ z ν n) (h0 : τ (z + 16) 5 = σ (z + 16) 5) (h1 : τ (z + 19) = σ (z + 19)) (h2 : τ (z + 20) = σ (z + 20)) (h3 : τ (z + 21) = σ (z + 21)) (n0 : ν' 0 = ν 0) (hn : ∀ j, 20 ≤ j → j < 26 → ν' j = ν j) : MV τ z ν' n := by
  unfold MV
  rw [h0, h1, h2, h3, n0]
  refine ⟨h.1, fun i hi => ?_, h.2.2.1, fun l hl => ?_⟩
  · obtain ⟨l, hl, a, b, c, d⟩ := h.2.1 i hi
    exact ⟨l, hl, a, b, by rw [hn _ (by omega) (by omega)]; exact c, by rw [hn _ (by omega) (by omega)]; exact d⟩
  · rw [hn _ (by omega) (by omega)]; exact h.2.2.2 l hl
theorem RWl.mv (h : RWl σ z ν) (h0 : τ (z + 16) 5 = σ (z + 16) 5) (h1 : ∀ k, 17 ≤ k → k ≤ 21 → τ (z + k) = σ (z + k)) (n0 : ν' 0 = ν 0) (hn : ∀ j, 10 ≤ j → j < 26 → ν' j = ν j) : RWl τ z ν' := by
  obtain ⟨hc, n, hm⟩ := h
  exact ⟨hc.mv (h1 17 (by omega) (by omega)) (h1 18 (by omega) (by omega)) (fun j a b => hn j a (by omega)), n, hm.mv h0 (h1 19 (by omega) (by omega)) (h1 20 (by omega) (by omega)) (h1 21 (by omega) (by omega)) n0 (fun j a b => hn j (by omega) b)⟩
theorem RWa.mv (h : RWa σ z ν) (h0 : τ (z + 22) 12 = σ (z + 22) 12) (h1 : ∀ k, 23 ≤ k → k ≤ 34 → τ (z + k) = σ (z + k)) (n7 : ν' 7 = ν 7) (hn : ∀ j, 146 ≤ j → j < 146 + 10 * cnt ν 7 → ν' j = ν j) : RWa τ z ν' := by
  refine ⟨by rw [h0, n7]; exact h.1, fun a ha => ?_⟩
  rw [cntE n7] at ha
  have q := h.2 a ha
  have e : ∀ f, f < 10 → aA ν' a f = aA ν a f := fun f hf => by unfold aA; exact hn _ (by omega) (by omega)
  unfold useA spanA at *
  rw [h1 23 (by omega) (by omega), h1 24 (by omega) (by omega), h1 25 (by omega) (by omega), h1 26 (by omega) (by omega), h1 27 (by omega) (by omega), h1 28 (by omega) (by omega), h1 29 (by omega) (by omega), h1 30 (by omega) (by omega), h1 31 (by omega) (by omega), h1 32 (by omega) (by omega), h1 33 (by omega) (by omega), h1 34 (by omega) (by omega)]
  rw [e 0 (by omega), e 1 (by omega), e 2 (by omega), e 3 (by omega), e 4 (by omega), e 5 (by omega), e 6 (by omega), e 7 (by omega), e 8 (by omega), e 9 (by omega)]
  exact q
theorem textU_cg (n8 : ν' 8 = ν 8) (h : ∀ t, t < cnt ν 8 → ν' (346 + 104 * t) = ν (346 + 104 * t)) (u : Int32) : textU ν' u = textU ν u := by
  unfold textU
  rw [cntE n8]
  generalize cnt ν 8 = n at h
  induction n with
  | zero => rfl
  | succ n ih =>
    rw [lstL_s, lstL_s, ih (fun t ht => h t (by omega))]
    unfold txtP
    rw [h n (by omega)]
theorem RWr.mv (h : RWr σ z ν) (h9 : τ z 9 = σ z 9) (h10 : τ z 10 = σ z 10) (h11 : τ z 11 = σ z 11) (h12 : τ z 12 = σ z 12) (h1 : τ (z + 35) = σ (z + 35)) (h2 : τ (z + 36) = σ (z + 36)) (n0 : ν' 0 = ν 0) (n1 : ν' 1 = ν 1) (n2 : ν' 2 = ν 2) (n8 : ν' 8 = ν 8) (hr : ∀ j, 26 ≤ j → j < 30 → ν' j = ν j) (hn : ∀ t, t < cnt ν 8 → ν' (346 + 104 * t) = ν (346 + 104 * t)) : RWr τ z ν' := by
  obtain ⟨a, b, c, d, e, f⟩ := h
  exact ⟨by rw [h9, n0]; exact a, by rw [h10, n1]; exact b, by rw [h11, n2]; exact c, by rw [h12, n8]; exact d, fun i hi => by rw [h1, hr _ (by omega) (by omega)]; exact e i hi, fun u hu => by rw [h2, textU_cg n8 hn]; exact f u hu⟩
theorem RT1.mv {cs cs' : Nu} {len t : Nat} (h : RT1 σ cs len t) (h9 : τ 9 t = σ 9 t) (h3 : τ (3 + t) = σ (3 + t)) : RT1 τ cs len t := by
  obtain ⟨a, b, c, d⟩ := h
  exact ⟨a, by rw [h9]; exact b, fun k hk => by rw [h3]; exact c k hk, d⟩
theorem RWt.mv (h : RWt σ ν) (hs : ∀ k, 3 ≤ k → k ≤ 9 → τ k = σ k) (h6 : cnt ν 8 ≤ 6) (n8 : ν' 8 = ν 8) (hn : ∀ j, 346 ≤ j → j < 346 + 104 * cnt ν 8 + 1000 → ν' j = ν j) : RWt τ ν' := by
  intro t ht
  rw [cntE n8] at ht
  have el : lenT ν' t = lenT ν t := by unfold lenT; rw [hn _ (by omega) (by omega)]
  obtain ⟨a, b, c, d⟩ := h t ht
  have ec : ∀ k, k < 200 → codes ν' t k = codes ν t k := fun k hk => by unfold codes; exact hn _ (by omega) (by omega)
  have ed : ∀ n, n ≤ 100 → depT (codes ν' t) n = depT (codes ν t) n := by
    intro n
    induction n with
    | zero => intro _; rfl
    | succ n ih => intro hn2; rw [depT_s, depT_s, ih (by omega), ec n (by omega)]
  rw [el]
  exact ⟨a, by rw [hs 9 (by omega) (by omega)]; exact b, fun k hk => by rw [hs _ (by omega) (by omega), ec k (by omega)]; exact c k hk, by rw [ed _ a]; exact d⟩
/-- the cells of the world, and the texts', are the same -/
theorem RW.fr (h : RW σ z ν) (h6 : cnt ν 8 ≤ 6) (hs : ∀ k, k ≤ 36 → τ (z + k) = σ (z + k)) (ht : ∀ k, 3 ≤ k → k ≤ 9 → τ k = σ k) : RW τ z ν := by
  have h0 : τ z = σ z := hs 0 (by omega)
  have q : ∀ k, k ≤ 36 → ∀ j, τ (z + k) j = σ (z + k) j := fun k hk j => by rw [hs k hk]
  refine ⟨h.g.mv (q 1 (by omega) _) (hs 2 (by omega)) (hs 3 (by omega)) (hs 4 (by omega)) (hs 5 (by omega)) rfl (fun _ _ _ => rfl), h.p.mv (q 6 (by omega) _) (hs 7 (by omega)) (hs 8 (by omega)) (hs 9 (by omega)) (hs 10 (by omega)) rfl (fun _ _ _ => rfl), h.b.mv (q 1 (by omega) _) (q 6 (by omega) _) rfl (fun _ _ => ⟨rfl, rfl, rfl, rfl⟩), h.w.mv (q 11 (by omega) _) (hs 12 (by omega)) (hs 13 (by omega)) rfl (fun _ _ _ => rfl), h.n.mv (q 14 (by omega) _) (hs 15 (by omega)) rfl (fun _ _ _ => rfl), h.l.mv (q 16 (by omega) _) (fun k a b => hs k (by omega)) rfl (fun _ _ _ => rfl), h.a.mv (q 22 (by omega) _) (fun k a b => hs k (by omega)) rfl (fun _ _ _ => rfl), h.r.mv (by rw [h0]) (by rw [h0]) (by rw [h0]) (by rw [h0]) (hs 35 (by omega)) (hs 36 (by omega)) rfl rfl rfl rfl (fun _ _ _ => rfl) (fun _ _ => rfl), h.t.mv ht h6 rfl (fun _ _ _ => rfl)⟩
theorem isW_ge (hz : isW z) : 12 ≤ z ∧ z + 36 < 123 := by rcases hz with rfl | rfl | rfl <;> omega
/-- a text was worked out -/
theorem RW.tx (h : RW σ z ν) (hI : INV ν) (hz : isW z) (hE : Eqx [10, 11] σ τ) : RW τ z ν := by
  have := isW_ge hz
  exact h.fr hI.n8.2 (fun k hk => hE _ (by simp; omega)) (fun k a b => hE _ (by simp; omega))
end RWS
/-! movements are counted -/
def cntL (P : Nat → Bool) : Nat → Nat
  | 0 => 0
  | n + 1 => cntL P n + (if P n = true then 1 else 0)
theorem cntL_le (P : Nat → Bool) (n : Nat) : cntL P n ≤ n := by
  induction n with
  | zero => exact Nat.le_refl _
  | succ n ih =>
    show cntL P n + (if P n = true then 1 else 0) ≤ n + 1
    split <;> omega
theorem cntL_cg {P Q : Nat → Bool} {n : Nat} (h : ∀ j, j < n → P j = Q j) : cntL P n = cntL Q n := by
  induction n with
  | zero => rfl
  | succ n ih =>
    show cntL P n + (if P n = true then 1 else 0) = cntL Q n + (if Q n = true then 1 else 0)
    rw [ih (fun j hj => h j (by omega)), h n (by omega)]
theorem cntL_flip {P Q : Nat → Bool} {l : Nat} (hP : P l = true) (hQ : Q l = false) : ∀ n, l < n → (∀ j, j < n → j ≠ l → P j = Q j) → cntL P n = cntL Q n + 1 := by
  intro n
  induction n with
  | zero => intro h; omega
  | succ n ih =>
    intro hl h
    show cntL P n + (if P n = true then 1 else 0) = cntL Q n + (if Q n = true then 1 else 0) + 1
    by_cases e : l = n
    · subst e
      rw [cntL_cg (Q := Q) (fun j hj => h j (by omega) (by omega)), hP, hQ]
      simp
    · rw [ih (by omega) (fun j hj => h j (by omega)), h n (by omega) (fun q => e q.symm)]
      omega
theorem cntL_inj {N : Nat} : ∀ (n : Nat) (P : Nat → Bool) (f : Nat → Nat), (∀ i, i < n → f i < N ∧ P (f i) = true) → (∀ i j, i < j → j < n → f i ≠ f j) → (∀ l, l < N → P l = true → ∃ i, i < n ∧ f i = l) → n = cntL P N := by
  intro n
  induction n with
  | zero =>
    intro P f _ _ h3
    have : cntL P N = cntL (fun _ => false) N := cntL_cg (fun j hj => by
      cases hp : P j with
      | false => rfl
      | true => obtain ⟨i, hi, _⟩ := h3 j hj hp; omega)
    rw [this]
    clear this h3
    induction N with
    | zero => rfl
    | succ N ih => show 0 = cntL (fun _ => false) N + (if false = true then 1 else 0); rw [← ih (fun i hi => by omega)]; rfl
  | succ n ih =>
    intro P f h1 h2 h3
    have hl := h1 n (by omega)
    have := ih (fun j => if j = f n then false else P j) f (fun i hi => ⟨(h1 i (by omega)).1, by
        show (if f i = f n then false else P (f i)) = true
        rw [if_neg (h2 i n hi (by omega))]; exact (h1 i (by omega)).2⟩) (fun i j a b => h2 i j a (by omega)) (fun l hlN hp => by
        have hp : (if l = f n then false else P l) = true := hp
        by_cases e : l = f n
        · rw [if_pos e] at hp; cases hp
        · rw [if_neg e] at hp
          obtain ⟨i, hi, hf⟩ := h3 l hlN hp
          refine ⟨i, ?_, hf⟩
          by_cases e2 : i = n
          · rw [e2] at hf; exact absurd hf.symm e
          · omega)
    rw [cntL_flip (P := P) (Q := fun j => if j = f n then false else P j) (l := f n) hl.2 (if_pos rfl) N hl.1 (fun j _ hj => (if_neg hj).symm), ← this]
section MVS
variable {σ τ : Sg} {z : Nat} {ν : Nu} {n : Nat}
theorem MV_cnt (h : MV σ z ν n) : n = cntL (fun l => decide (ν 0 < ν (20 + l))) 6 := by
  refine cntL_inj n _ (fun i => (σ (z + 19) i).toNatClampNeg) (fun i hi => ?_) (fun i j a b => ?_) (fun l hl hp => ?_)
  · obtain ⟨l, hl, e, -, -, h4⟩ := h.2.1 i hi
    show (σ (z + 19) i).toNatClampNeg < 6 ∧ decide (ν 0 < ν (20 + (σ (z + 19) i).toNatClampNeg)) = true
    rw [e, nI_clamp (by omega)]
    exact ⟨hl, decide_eq_true h4⟩
  · obtain ⟨l, hl, e, -, -, -⟩ := h.2.1 i (by omega)
    obtain ⟨l', hl', e', -, -, -⟩ := h.2.1 j b
    show ¬ (σ (z + 19) i).toNatClampNeg = (σ (z + 19) j).toNatClampNeg
    have hne := h.2.2.1 i j a b
    rw [e, e'] at hne ⊢
    rw [nI_clamp (by omega), nI_clamp (by omega)]
    exact fun q => hne (by rw [q])
  · obtain ⟨i, hi, e⟩ := h.2.2.2 l hl (of_decide_eq_true hp)
    exact ⟨i, hi, by show (σ (z + 19) i).toNatClampNeg = l; rw [e, nI_clamp (by omega)]⟩
theorem MV_le (h : MV σ z ν n) : n ≤ 6 := by rw [MV_cnt h]; exact cntL_le _ _
theorem busyS_eq (ν : Nu) : busyS ν = nI (cntL (fun l => decide (ν 0 < ν (20 + l))) 6) := by
  unfold busyS
  generalize (6 : Nat) = N
  induction N with
  | zero => rfl
  | succ N ih =>
    rw [sumL_s, ih]
    show _ = nI (cntL _ N + _)
    by_cases e : ν 0 < ν (20 + N)
    · rw [if_pos e, if_pos (decide_eq_true e), ← nI_add]; rfl
    · rw [if_neg e, if_neg (by simpa using e)]; exact Int32.add_zero _
theorem clear_hit {l lx : Nat} (hlx : lx < 6) (h : hb (ν (10 + l)) (nI lx) = true) (h2 : ν 0 < ν (20 + lx)) : ¬ clearL ν l = true := fun q => by
  have := allL_iff.mp q lx hlx
  unfold clrP at this
  rw [h] at this
  simp only [Bool.not_true, Bool.false_or, decide_eq_true_eq] at this
  exact absurd this (Int32.not_le.mpr h2)
theorem clear_all (h : MV σ z ν n) {l : Nat} (hq : ∀ j, j < n → hb (ν (10 + l)) (σ (z + 19) j) = false) : clearL ν l = true := by
  refine allL_iff.mpr (fun k hk => ?_)
  unfold clrP
  by_cases e : ν 0 < ν (20 + k)
  · obtain ⟨i, hi, e2⟩ := h.2.2.2 k hk e
    have := hq i hi
    rw [e2] at this
    rw [this]; rfl
  · rw [decide_eq_true (Int32.not_lt.mp e)]; simp
/-- a lane that is clear has no movement -/
theorem clear_own (hI : INV ν) {l : Nat} (hl : l < 6) (h : clearL ν l = true) : ν (20 + l) ≤ ν 0 := by
  have := allL_iff.mp h l hl
  unfold clrP at this
  rw [hI.2.2.1.2 l hl] at this
  simpa using this
end MVS
theorem alls {P : Nat → Prop} {i : Nat} (h : ∀ j, j < i → P j) (hi : P i) : ∀ j, j < i + 1 → P j := fun j hj => by
  by_cases e : j = i
  · rw [e]; exact hi
  · exact h j (by omega)
theorem lp_clear {μ : Mx} {ω : Om} {d : Nat} (hd : 2 ≤ d) (C : Cx μ ω "TowField$Lanes" cX3_isClear 6 d) (hr : (mH μ).sig.returnType = some .boolean) (σ : Sg) {z : Nat} (hz : isW z) {ν : Nu} {m : Nat} (hm : ν 0 = nI m) (hm2 : m ≤ 5000) (hc : RWc σ z ν) {n : Nat} (hM : MV σ z ν n) {l k : Nat} (hl : l < 6) (hk : 1 ≤ k) (hk2 : k ≤ 60) (hn6 : n ≤ 6) : ∀ (f i : Nat), i + f = n → (∀ j, j < i → hb (ν (10 + l)) (σ (z + 19) j) = false) → G μ ω (RQ μ ω (pB (clearL ν l = true) σ)) 11 [some (.ref (z + 16)), some (.int (nI l)), some (.int (ν 0)), some (.int (nI k)), some (.int (ν (10 + l))), some (.int (nI i))] [] (mk σ) 0 0 := by
  intro f
  induction f with
  | zero =>
    intro i hif hv
    have hin : i = n := by omega
    refine g_il5 (pc := 11) C dX3_isClear_11 ?_
    refine g_al0n (pc := 13) C dX3_isClear_13 ?_
    refine s_getIv (pc := 14) (v := nI n) C fX3_25 (w16 hz) rfl hM.1 dX3_isClear_14 ?_
    refine g_icmp_geL (pc := 17) (tgt := 67) C dX3_isClear_17 (by decide) (fun c_17 => ?_) (fun c_17 => absurd c_17 (nI_nlt (by omega) (by omega)))
    refine g_iconst (pc := 67) (v := 1) C dX3_isClear_67 (by decide) ?_
    exact r_B1 C hr dX3_isClear_68 (clear_all hM (fun j hj => hv j (by omega))) rfl
  | succ f ih =>
    intro i hif hv
    obtain ⟨lx, hlx, e1, e2, e3, e4⟩ := hM.2.1 i (by omega)
    refine g_il5 (pc := 11) C dX3_isClear_11 ?_
    refine g_al0n (pc := 13) C dX3_isClear_13 ?_
    refine s_getIv (pc := 14) (v := nI n) C fX3_25 (w16 hz) rfl hM.1 dX3_isClear_14 ?_
    refine g_icmp_geL (pc := 17) (tgt := 67) C dX3_isClear_17 (by decide) (fun c_17 => absurd (nI_lt (by omega) (by omega)) c_17) (fun c_17 => ?_)
    refine g_il4 (pc := 20) C dX3_isClear_20 ?_
    refine g_al0n (pc := 22) C dX3_isClear_22 ?_
    refine s_getR (pc := 23) C fX3_16 (w16 hz) rfl dX3_isClear_23 ?_
    refine g_il5 (pc := 26) C dX3_isClear_26 ?_
    refine s_iald (pc := 28) (q := i) C (w19 hz) rfl (by omega) (Nat.le_of_ble_eq_true rfl) dX3_isClear_28 ?_
    refine s_NB (pc := 29) (st := []) C (c_hasBit (d := d - 1) (by omega) σ (ν (10 + l)) (σ (z + 19) i)) (by omega) lX3_35 dX3_isClear_29 rfl (Nat.le_of_ble_eq_true rfl) rfl (fun b_29 => ?_) (fun b_29 => ?_)
    · refine g_if_eq (pc := 32) (tgt := 61) C dX3_isClear_32 (by decide) (fun c => absurd c (by decide)) (fun _ => ?_)
      refine g_al0n (pc := 35) C dX3_isClear_35 ?_
      refine s_getR (pc := 36) C fX3_19 (w16 hz) rfl dX3_isClear_36 ?_
      refine g_il5 (pc := 39) C dX3_isClear_39 ?_
      refine s_iald (pc := 41) (q := i) C (w20 hz) rfl (by omega) (Nat.le_of_ble_eq_true rfl) dX3_isClear_41 ?_
      refine g_il2n (pc := 42) C dX3_isClear_42 ?_
      refine g_il3n (pc := 43) C dX3_isClear_43 ?_
      refine g_iadd (pc := 44) C dX3_isClear_44 ?_
      refine g_icmp_geL (pc := 45) (tgt := 61) C dX3_isClear_45 (by decide) (fun c_45 => absurd (Int32.lt_of_le_of_lt e2 (by rw [hm]; exact lt_plus (by omega) (by omega))) c_45) (fun c_45 => ?_)
      refine g_al0n (pc := 48) C dX3_isClear_48 ?_
      refine s_getR (pc := 49) C fX3_22 (w16 hz) rfl dX3_isClear_49 ?_
      refine g_il5 (pc := 52) C dX3_isClear_52 ?_
      refine s_iald (pc := 54) (q := i) C (w21 hz) rfl (by omega) (Nat.le_of_ble_eq_true rfl) dX3_isClear_54 ?_
      refine g_il2n (pc := 55) C dX3_isClear_55 ?_
      refine g_icmp_leL (pc := 56) (tgt := 61) C dX3_isClear_56 (by decide) (fun c_56 => absurd (by rw [e3]; exact e4) c_56) (fun c_56 => ?_)
      refine g_iconst (pc := 59) (v := 0) C dX3_isClear_59 (by decide) ?_
      exact r_B0 C hr dX3_isClear_60 (clear_hit hlx (by rw [← e1]; exact b_29) e4) rfl
    · refine g_if_eq (pc := 32) (tgt := 61) C dX3_isClear_32 (by decide) (fun _ => ?_) (fun c => absurd c (by decide))
      refine g_ii5 (pc := 61) (v := nI (i + 1)) C dX3_isClear_61 (nI_inc1 _) ?_
      refine g_goto (pc := 64) (tgt := 11) C dX3_isClear_64 (by decide) ?_
      exact ih (i + 1) (by omega) (alls hv (by simpa using b_29))

theorem c_isClear {d : Nat} (hd : 2 ≤ d) (σ : Sg) {z : Nat} (hz : isW z) {ν : Nu} {m : Nat} (hm : ν 0 = nI m) (hm2 : m ≤ 5000) (hc : RWc σ z ν) {n : Nat} (hM : MV σ z ν n) {l k : Nat} (hl : l < 6) (hk : 1 ≤ k) (hk2 : k ≤ 60) : CB d mX3_isClear [.ref (z + 16), .int (nI l), .int (ν 0), .int (nI k)] σ (clearL ν l = true) σ := by
  refine con_of (by decide) (catL rfl) (Nat.le_of_ble_eq_true rfl) ?_
  intro μ ω C hr
  have C : Cx μ ω "TowField$Lanes" cX3_isClear 6 d := C
  have hr : (mH μ).sig.returnType = some .boolean := hr
  show G μ ω (RQ μ ω (pB (clearL ν l = true) σ)) 0 [some (.ref (z + 16)), some (.int (nI l)), some (.int (ν 0)), some (.int (nI k)), none, none] [] (mk σ) 0 0
  refine g_al0n (pc := 0) C dX3_isClear_0 ?_
  refine s_getR (pc := 1) C fX3_9 (w16 hz) rfl dX3_isClear_1 ?_
  refine g_il1n (pc := 4) C dX3_isClear_4 ?_
  refine s_ialdv (pc := 5) (q := l) (v := ν (10 + l)) C (w17 hz) rfl (by omega) (Nat.le_of_ble_eq_true rfl) (hc.1 l hl) dX3_isClear_5 ?_
  refine g_is4 (pc := 6) C dX3_isClear_6 ?_
  refine g_iconst (pc := 8) (v := 0) C dX3_isClear_8 (by decide) ?_
  refine g_is5 (pc := 9) C dX3_isClear_9 ?_
  exact lp_clear hd C hr σ hz hm hm2 hc hM hl hk hk2 (MV_le hM) n 0 (by omega) (fun j hj => by omega)

theorem c_move {d : Nat} (hd : 1 ≤ d) (σ : Sg) {z : Nat} (hz : isW z) {n u : Nat} (hn : σ (z + 16) 5 = nI n) (hn6 : n < 6) (hu : u < 4) (m k : Int32) : CU d mX3_move [.ref (z + 16), .int (nI u), .int m, .int k] σ (up (up (up (up σ (z + 19) n (σ (z + 18) u)) (z + 20) n m) (z + 21) n (m + k)) (z + 16) 5 (nI n + 1)) := by
  refine con_of (by decide) (catL rfl) (Nat.le_of_ble_eq_true rfl) ?_
  intro μ ω C hr
  have C : Cx μ ω "TowField$Lanes" cX3_move 4 d := C
  have hr : (mH μ).sig.returnType = none := hr
  show G μ ω (RQ μ ω (pU (up (up (up (up σ (z + 19) n (σ (z + 18) u)) (z + 20) n m) (z + 21) n (m + k)) (z + 16) 5 (nI n + 1)))) 0 [some (.ref (z + 16)), some (.int (nI u)), some (.int m), some (.int k)] [] (mk σ) 0 0
  refine g_al0n (pc := 0) C dX3_move_0 ?_
  refine s_getIv (pc := 1) (v := nI n) C fX3_25 (w16 hz) rfl (by first | exact hn | (simp (disch := omega) only [up_ne]; exact hn)) dX3_move_1 ?_
  refine g_bipush (pc := 4) (v := 6) C dX3_move_4 (by decide) ?_
  refine g_icmp_geL (pc := 6) (tgt := 56) C dX3_move_6 (by decide) (fun c_6 => absurd (nI_lt (b := 6) hn6 (by decide)) c_6) (fun c_6 => ?_)
  refine g_al0n (pc := 9) C dX3_move_9 ?_
  refine s_getR (pc := 10) C fX3_16 (w16 hz) rfl dX3_move_10 ?_
  refine g_al0n (pc := 13) C dX3_move_13 ?_
  refine s_getIv (pc := 14) (v := nI n) C fX3_25 (w16 hz) rfl (by first | exact hn | (simp (disch := omega) only [up_ne]; exact hn)) dX3_move_14 ?_
  refine g_al0n (pc := 17) C dX3_move_17 ?_
  refine s_getR (pc := 18) C fX3_13 (w16 hz) rfl dX3_move_18 ?_
  refine g_il1n (pc := 21) C dX3_move_21 ?_
  refine s_iald (pc := 22) (q := u) C (w18 hz) rfl (by omega) (Nat.le_of_ble_eq_true rfl) dX3_move_22 ?_
  refine s_iast (pc := 23) (q := n) C (w19 hz) rfl (by omega) (Nat.le_of_ble_eq_true rfl) dX3_move_23 ?_
  refine g_al0n (pc := 24) C dX3_move_24 ?_
  refine s_getR (pc := 25) C fX3_19 (w16 hz) rfl dX3_move_25 ?_
  refine g_al0n (pc := 28) C dX3_move_28 ?_
  refine s_getIv (pc := 29) (v := nI n) C fX3_25 (w16 hz) rfl (by first | exact hn | (simp (disch := omega) only [up_ne]; exact hn)) dX3_move_29 ?_
  refine g_il2n (pc := 32) C dX3_move_32 ?_
  refine s_iast (pc := 33) (q := n) C (w20 hz) rfl (by omega) (Nat.le_of_ble_eq_true rfl) dX3_move_33 ?_
  refine g_al0n (pc := 34) C dX3_move_34 ?_
  refine s_getR (pc := 35) C fX3_22 (w16 hz) rfl dX3_move_35 ?_
  refine g_al0n (pc := 38) C dX3_move_38 ?_
  refine s_getIv (pc := 39) (v := nI n) C fX3_25 (w16 hz) rfl (by first | exact hn | (simp (disch := omega) only [up_ne]; exact hn)) dX3_move_39 ?_
  refine g_il2n (pc := 42) C dX3_move_42 ?_
  refine g_il3n (pc := 43) C dX3_move_43 ?_
  refine g_iadd (pc := 44) C dX3_move_44 ?_
  refine s_iast (pc := 45) (q := n) C (w21 hz) rfl (by omega) (Nat.le_of_ble_eq_true rfl) dX3_move_45 ?_
  refine g_al0n (pc := 46) C dX3_move_46 ?_
  refine g_dup (pc := 47) C dX3_move_47 rfl ?_
  refine s_getIv (pc := 48) (v := nI n) C fX3_25 (w16 hz) rfl (by first | exact hn | (simp (disch := omega) only [up_ne]; exact hn)) dX3_move_48 ?_
  refine g_iconst (pc := 51) (v := 1) C dX3_move_51 (by decide) ?_
  refine g_iadd (pc := 52) C dX3_move_52 ?_
  refine s_putI (pc := 53) C pX3_25 (w16 hz) rfl dX3_move_53 ?_
  exact r_U C hr dX3_move_56 rfl

/-- a movement begins on a lane that has none -/
theorem MV_move {σ : Sg} {z : Nat} {ν : Nu} {n l k m : Nat} (hm : ν 0 = nI m) (hm2 : m ≤ 5000) (hM : MV σ z ν n) (hl : l < 6) (hk : 1 ≤ k) (hk2 : k ≤ 60) (hf : ν (20 + l) ≤ ν 0) :
    MV (up (up (up (up σ (z + 19) n (nI l)) (z + 20) n (ν 0)) (z + 21) n (ν 0 + nI k)) (z + 16) 5 (nI n + 1)) z (upd ν (20 + l) (ν 0 + nI k)) (n + 1) := by
  have n0 : upd ν (20 + l) (ν 0 + nI k) 0 = ν 0 := upd_ne _ _ (by omega)
  have hlt : ν 0 < ν 0 + nI k := by rw [hm]; exact lt_plus (by omega) (by omega)
  have q19 : (up (up (up (up σ (z + 19) n (nI l)) (z + 20) n (ν 0)) (z + 21) n (ν 0 + nI k)) (z + 16) 5 (nI n + 1)) (z + 19) = upd (σ (z + 19)) n (nI l) := by simp (disch := omega) only [up_ne, up_at]
  have q20 : (up (up (up (up σ (z + 19) n (nI l)) (z + 20) n (ν 0)) (z + 21) n (ν 0 + nI k)) (z + 16) 5 (nI n + 1)) (z + 20) = upd (σ (z + 20)) n (ν 0) := by simp (disch := omega) only [up_ne, up_at]
  have q21 : (up (up (up (up σ (z + 19) n (nI l)) (z + 20) n (ν 0)) (z + 21) n (ν 0 + nI k)) (z + 16) 5 (nI n + 1)) (z + 21) = upd (σ (z + 21)) n (ν 0 + nI k) := by simp (disch := omega) only [up_ne, up_at]
  have q16 : (up (up (up (up σ (z + 19) n (nI l)) (z + 20) n (ν 0)) (z + 21) n (ν 0 + nI k)) (z + 16) 5 (nI n + 1)) (z + 16) 5 = nI (n + 1) := by rw [up_at, upd_at]; exact nI_1 n
  unfold MV
  rw [q19, q20, q21, q16, n0]
  refine ⟨rfl, fun i hi => ?_, fun i j a b => ?_, fun q hq hb2 => ?_⟩
  · by_cases e : i = n
    · subst e
      exact ⟨l, hl, upd_at _ _ _, by rw [upd_at]; exact Int32.le_refl _, by rw [upd_at, upd_at], by rw [upd_at]; exact hlt⟩
    · obtain ⟨l', hl', a, b, c, d⟩ := hM.2.1 i (by omega)
      have hne : l' ≠ l := fun q => by rw [q] at d; exact absurd d (Int32.not_lt.mpr hf)
      exact ⟨l', hl', by rw [upd_ne _ _ e]; exact a, by rw [upd_ne _ _ e]; exact b, by rw [upd_ne _ _ e, upd_ne _ _ (by omega)]; exact c, by rw [upd_ne _ _ (by omega)]; exact d⟩
  · rw [upd_ne _ _ (show i ≠ n by omega)]
    by_cases e : j = n
    · subst e
      rw [upd_at]
      intro q
      obtain ⟨l', hl', a', b', c, d⟩ := hM.2.1 i (by omega)
      have : l' = l := by
        have h2 := a'.symm.trans q
        have := congrArg Int32.toNatClampNeg h2
        rwa [nI_clamp (by omega), nI_clamp (by omega)] at this
      rw [this] at d
      exact absurd d (Int32.not_lt.mpr hf)
    · rw [upd_ne _ _ e]; exact hM.2.2.1 i j a (by omega)
  · by_cases e : q = l
    · subst e; exact ⟨n, by omega, upd_at _ _ _⟩
    · rw [upd_ne _ _ (by omega)] at hb2
      obtain ⟨i, hi, e2⟩ := hM.2.2.2 q hq hb2
      exact ⟨i, by omega, by rw [upd_ne _ _ (by omega)]; exact e2⟩
/-- where the loop of open stands: of the first i movements those that stay are the first s -/
def MO (σ : Sg) (z : Nat) (w : Int32) (i s : Nat) (τ : Sg) : Prop := s ≤ i ∧ Eqx [z + 19, z + 20, z + 21] σ τ ∧ (∀ j, i ≤ j → τ (z + 19) j = σ (z + 19) j ∧ τ (z + 20) j = σ (z + 20) j ∧ τ (z + 21) j = σ (z + 21) j) ∧
  (∀ j, j < s → ∃ q, q < i ∧ w < σ (z + 21) q ∧ τ (z + 19) j = σ (z + 19) q ∧ τ (z + 20) j = σ (z + 20) q ∧ τ (z + 21) j = σ (z + 21) q) ∧ (∀ j j', j < j' → j' < s → τ (z + 19) j ≠ τ (z + 19) j') ∧ ∀ q, q < i → w < σ (z + 21) q → ∃ j, j < s ∧ τ (z + 19) j = σ (z + 19) q
theorem MO_no {σ τ : Sg} {z i s : Nat} {w : Int32} (h : MO σ z w i s τ) (hq : ¬ w < σ (z + 21) i) : MO σ z w (i + 1) s τ := by
  obtain ⟨a, b, c, d, e, f⟩ := h
  refine ⟨by omega, b, fun j hj => c j (by omega), fun j hj => ?_, e, fun q hq1 hq2 => ?_⟩
  · obtain ⟨q, h1, h2⟩ := d j hj; exact ⟨q, by omega, h2⟩
  · by_cases e2 : q = i
    · rw [e2] at hq2; exact absurd hq2 hq
    · exact f q (by omega) hq2
theorem MO_yes {σ τ : Sg} {z i s n : Nat} {w : Int32} (h : MO σ z w i s τ) (hin : i < n) (hinj : ∀ i j, i < j → j < n → σ (z + 19) i ≠ σ (z + 19) j) (hq : w < σ (z + 21) i) {x y u : Int32} (hx : x = σ (z + 19) i) (hy : y = σ (z + 20) i) (hu : u = σ (z + 21) i) : MO σ z w (i + 1) (s + 1) (up (up (up τ (z + 19) s x) (z + 20) s y) (z + 21) s u) := by
  obtain ⟨a, b, c, d, e, f⟩ := h
  have q19 : (up (up (up τ (z + 19) s x) (z + 20) s y) (z + 21) s u) (z + 19) = upd (τ (z + 19)) s x := by simp (disch := omega) only [up_ne, up_at]
  have q20 : (up (up (up τ (z + 19) s x) (z + 20) s y) (z + 21) s u) (z + 20) = upd (τ (z + 20)) s y := by simp (disch := omega) only [up_ne, up_at]
  have q21 : (up (up (up τ (z + 19) s x) (z + 20) s y) (z + 21) s u) (z + 21) = upd (τ (z + 21)) s u := by simp (disch := omega) only [up_ne, up_at]
  unfold MO
  rw [q19, q20, q21]
  refine ⟨by omega, fun k hk => ?_, fun j hj => ?_, fun j hj => ?_, fun j j' h1 h2 => ?_, fun q hq1 hq2 => ?_⟩
  · simp only [List.mem_cons, List.not_mem_nil, or_false, not_or] at hk
    rw [up_ne _ _ _ hk.2.2, up_ne _ _ _ hk.2.1, up_ne _ _ _ hk.1]
    exact b k (by simp; omega)
  · rw [upd_ne _ _ (by omega), upd_ne _ _ (by omega), upd_ne _ _ (by omega)]; exact c j (by omega)
  · by_cases e2 : j = s
    · subst e2; exact ⟨i, by omega, hq, by rw [upd_at]; exact hx, by rw [upd_at]; exact hy, by rw [upd_at]; exact hu⟩
    · obtain ⟨q, g1, g2, g3, g4, g5⟩ := d j (by omega)
      exact ⟨q, by omega, g2, by rw [upd_ne _ _ e2]; exact g3, by rw [upd_ne _ _ e2]; exact g4, by rw [upd_ne _ _ e2]; exact g5⟩
  · rw [upd_ne _ _ (show j ≠ s by omega)]
    by_cases e2 : j' = s
    · subst e2
      rw [upd_at, hx]
      obtain ⟨q, g1, g2, g3, g4, g5⟩ := d j (by omega)
      rw [g3]
      exact hinj q i g1 hin
    · rw [upd_ne _ _ e2]; exact e j j' h1 (by omega)
  · by_cases e2 : q = i
    · subst e2; exact ⟨s, by omega, by rw [upd_at]; exact hx⟩
    · obtain ⟨j, g1, g2⟩ := f q (by omega) hq2
      exact ⟨j, by omega, by rw [upd_ne _ _ (by omega)]; exact g2⟩
theorem MO_end {σ τ : Sg} {z n s m : Nat} {ν ν' : Nu} (hm : ν 0 = nI m) (hm2 : m ≤ 5000) (hM : MV σ z ν n) (h : MO σ z (ν 0 + 1) n s τ) (n0 : ν' 0 = ν 0 + 1) (hn : ∀ j, 20 ≤ j → j < 26 → ν' j = ν j) : MV (up τ (z + 16) 5 (nI s)) z ν' s := by
  obtain ⟨a, b, c, d, e, f⟩ := h
  have q19 : (up τ (z + 16) 5 (nI s)) (z + 19) = τ (z + 19) := up_ne _ _ _ (by omega)
  have q20 : (up τ (z + 16) 5 (nI s)) (z + 20) = τ (z + 20) := up_ne _ _ _ (by omega)
  have q21 : (up τ (z + 16) 5 (nI s)) (z + 21) = τ (z + 21) := up_ne _ _ _ (by omega)
  have hlt : ν 0 < ν 0 + 1 := by rw [hm]; exact lt_plus (f := 1) (by omega) (by omega)
  unfold MV
  rw [q19, q20, q21, n0]
  refine ⟨by rw [up_at, upd_at], fun i hi => ?_, e, fun l hl hb2 => ?_⟩
  · obtain ⟨q, g1, g2, g3, g4, g5⟩ := d i hi
    obtain ⟨l, hl, k1, k2, k3, k4⟩ := hM.2.1 q g1
    exact ⟨l, hl, g3.trans k1, by rw [g4]; exact Int32.le_trans k2 (Int32.le_of_lt hlt), by rw [g5, hn _ (by omega) (by omega)]; exact k3, by rw [hn _ (by omega) (by omega), ← k3]; exact g2⟩
  · rw [hn _ (by omega) (by omega)] at hb2
    obtain ⟨q, g1, g2⟩ := hM.2.2.2 l hl (Int32.lt_trans hlt hb2)
    obtain ⟨l', hl', k1, k2, k3, k4⟩ := hM.2.1 q g1
    have : l' = l := by
      have := congrArg Int32.toNatClampNeg (k1.symm.trans g2)
      rwa [nI_clamp (by omega), nI_clamp (by omega)] at this
    subst this
    obtain ⟨j, j1, j2⟩ := f q g1 (by rw [k3]; exact hb2)
    exact ⟨j, j1, j2.trans g2⟩
theorem lp_open {μ : Mx} {ω : Om} {d : Nat} (hd : 1 ≤ d) (C : Cx μ ω "TowField$Lanes" cX3_open 4 d) (hr : (mH μ).sig.returnType = none) (σ : Sg) {z : Nat} (hz : isW z) {n : Nat} (w : Int32) (hn : σ (z + 16) 5 = nI n) (hn6 : n ≤ 6) (hinj : ∀ i j, i < j → j < n → σ (z + 19) i ≠ σ (z + 19) j) : ∀ (f i : Nat) (s : Nat) (τ : Sg), i + f = n → (MO σ z w i s τ) → G μ ω (RQ μ ω (pQ (fun τ' => ∃ s t, MO σ z w n s t ∧ τ' = up t (z + 16) 5 (nI s)))) 4 [some (.ref (z + 16)), some (.int w), some (.int (nI s)), some (.int (nI i))] [] (mk τ) 0 0 := by
  intro f
  induction f with
  | zero =>
    intro i s τ hif hv
    have hin : i = n := by omega
    refine g_il3n (pc := 4) C dX3_open_4 ?_
    refine g_al0n (pc := 5) C dX3_open_5 ?_
    refine s_getIv (pc := 6) (v := nI n) C fX3_25 (w16 hz) rfl (by rw [hv.2.1 _ (by simp)]; exact hn) dX3_open_6 ?_
    refine g_icmp_geL (pc := 9) (tgt := 67) C dX3_open_9 (by decide) (fun c_9 => ?_) (fun c_9 => absurd c_9 (nI_nlt (by omega) (by omega)))
    refine g_al0n (pc := 67) C dX3_open_67 ?_
    refine g_il2n (pc := 68) C dX3_open_68 ?_
    refine s_putI (pc := 69) C pX3_25 (w16 hz) rfl dX3_open_69 ?_
    exact r_Q C hr dX3_open_72 ⟨s, τ, by rw [← hin]; exact hv, rfl⟩
  | succ f ih =>
    intro i s τ hif hv
    have hsi := hv.1
    refine g_il3n (pc := 4) C dX3_open_4 ?_
    refine g_al0n (pc := 5) C dX3_open_5 ?_
    refine s_getIv (pc := 6) (v := nI n) C fX3_25 (w16 hz) rfl (by rw [hv.2.1 _ (by simp)]; exact hn) dX3_open_6 ?_
    refine g_icmp_geL (pc := 9) (tgt := 67) C dX3_open_9 (by decide) (fun c_9 => absurd (nI_lt (by omega) (by omega)) c_9) (fun c_9 => ?_)
    refine g_al0n (pc := 12) C dX3_open_12 ?_
    refine s_getR (pc := 13) C fX3_22 (w16 hz) rfl dX3_open_13 ?_
    refine g_il3n (pc := 16) C dX3_open_16 ?_
    refine s_ialdv (pc := 17) (q := i) (v := σ (z + 21) i) C (w21 hz) rfl (by omega) (Nat.le_of_ble_eq_true rfl) (hv.2.2.1 i (Nat.le_refl _)).2.2 dX3_open_17 ?_
    refine g_il1n (pc := 18) C dX3_open_18 ?_
    refine g_icmp_leL (pc := 19) (tgt := 61) C dX3_open_19 (by decide) (fun c_19 => ?_) (fun c_19 => ?_)
    · refine g_ii3 (pc := 61) (v := nI (i + 1)) C dX3_open_61 (nI_inc1 _) ?_
      refine g_goto (pc := 64) (tgt := 4) C dX3_open_64 (by decide) ?_
      exact ih (i + 1) _ _ (by omega) (MO_no hv c_19)
    · refine g_al0n (pc := 22) C dX3_open_22 ?_
      refine s_getR (pc := 23) C fX3_16 (w16 hz) rfl dX3_open_23 ?_
      refine g_il2n (pc := 26) C dX3_open_26 ?_
      refine g_al0n (pc := 27) C dX3_open_27 ?_
      refine s_getR (pc := 28) C fX3_16 (w16 hz) rfl dX3_open_28 ?_
      refine g_il3n (pc := 31) C dX3_open_31 ?_
      refine s_iald (pc := 32) (q := i) C (w19 hz) rfl (by omega) (Nat.le_of_ble_eq_true rfl) dX3_open_32 ?_
      refine s_iast (pc := 33) (q := s) C (w19 hz) rfl (by omega) (Nat.le_of_ble_eq_true rfl) dX3_open_33 ?_
      refine g_al0n (pc := 34) C dX3_open_34 ?_
      refine s_getR (pc := 35) C fX3_19 (w16 hz) rfl dX3_open_35 ?_
      refine g_il2n (pc := 38) C dX3_open_38 ?_
      refine g_al0n (pc := 39) C dX3_open_39 ?_
      refine s_getR (pc := 40) C fX3_19 (w16 hz) rfl dX3_open_40 ?_
      refine g_il3n (pc := 43) C dX3_open_43 ?_
      refine s_iald (pc := 44) (q := i) C (w20 hz) rfl (by omega) (Nat.le_of_ble_eq_true rfl) dX3_open_44 ?_
      refine s_iast (pc := 45) (q := s) C (w20 hz) rfl (by omega) (Nat.le_of_ble_eq_true rfl) dX3_open_45 ?_
      refine g_al0n (pc := 46) C dX3_open_46 ?_
      refine s_getR (pc := 47) C fX3_22 (w16 hz) rfl dX3_open_47 ?_
      refine g_il2n (pc := 50) C dX3_open_50 ?_
      refine g_al0n (pc := 51) C dX3_open_51 ?_
      refine s_getR (pc := 52) C fX3_22 (w16 hz) rfl dX3_open_52 ?_
      refine g_il3n (pc := 55) C dX3_open_55 ?_
      refine s_iald (pc := 56) (q := i) C (w21 hz) rfl (by omega) (Nat.le_of_ble_eq_true rfl) dX3_open_56 ?_
      refine s_iast (pc := 57) (q := s) C (w21 hz) rfl (by omega) (Nat.le_of_ble_eq_true rfl) dX3_open_57 ?_
      refine g_ii2 (pc := 58) (v := nI (s + 1)) C dX3_open_58 (nI_inc1 _) ?_
      refine g_ii3 (pc := 61) (v := nI (i + 1)) C dX3_open_61 (nI_inc1 _) ?_
      refine g_goto (pc := 64) (tgt := 4) C dX3_open_64 (by decide) ?_
      exact ih (i + 1) _ _ (by omega) (MO_yes hv (show i < n by omega) hinj c_19 (hv.2.2.1 i (Nat.le_refl _)).1 (by simp (disch := omega) only [up_ne]; exact (hv.2.2.1 i (Nat.le_refl _)).2.1) (by simp (disch := omega) only [up_ne]; exact (hv.2.2.1 i (Nat.le_refl _)).2.2))

theorem c_openL {d : Nat} (hd : 1 ≤ d) (σ : Sg) {z : Nat} (hz : isW z) {n : Nat} (w : Int32) (hn : σ (z + 16) 5 = nI n) (hn6 : n ≤ 6) (hinj : ∀ i j, i < j → j < n → σ (z + 19) i ≠ σ (z + 19) j) : CQ d mX3_open [.ref (z + 16), .int w] σ (fun τ' => ∃ s t, MO σ z w n s t ∧ τ' = up t (z + 16) 5 (nI s)) := by
  refine con_of (by decide) (catL rfl) (Nat.le_of_ble_eq_true rfl) ?_
  intro μ ω C hr
  have C : Cx μ ω "TowField$Lanes" cX3_open 4 d := C
  have hr : (mH μ).sig.returnType = none := hr
  show G μ ω (RQ μ ω (pQ (fun τ' => ∃ s t, MO σ z w n s t ∧ τ' = up t (z + 16) 5 (nI s)))) 0 [some (.ref (z + 16)), some (.int w), none, none] [] (mk σ) 0 0
  refine g_iconst (pc := 0) (v := 0) C dX3_open_0 (by decide) ?_
  refine g_is2n (pc := 1) C dX3_open_1 ?_
  refine g_iconst (pc := 2) (v := 0) C dX3_open_2 (by decide) ?_
  refine g_is3n (pc := 3) C dX3_open_3 ?_
  exact lp_open hd C hr σ hz w hn hn6 hinj n 0 0 σ (by omega) ⟨Nat.le_refl _, Eqx.rf, fun _ _ => ⟨rfl, rfl, rfl⟩, fun j hj => by omega, fun j j' _ h => by omega, fun q h => by omega⟩

