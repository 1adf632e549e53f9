/-! ===== what holds between the class and what the model shows; what stays well made ===== -/
def IN (ν : Nu) : Prop := INV ν ∧ (∃ m, m ≤ 900 ∧ ν 0 = nI m) ∧ 0 ≤ ν 27
def IA (α : Al) : Prop := IN (aN α) ∧ (¬ aH α = 0 → IN (aK α) ∧ cnt (aK α) 8 ≤ cnt (aN α) 8) ∧ (∀ j, 970 ≤ j → aK α j = 0) ∧ (aH α = 0 ∨ aH α = 1) ∧ (∃ t, t ≤ 100 ∧ aS α = nI t ∧ ∀ i, i < t → ∃ b, b < 256 ∧ aT α i = nI b) ∧ ∀ s, s < 4 → ∃ n, n ≤ 24 ∧ aZ α s = nI n
def RC (σ : Sg) (α : Al) : Prop := RW σ 12 (aN α) ∧ (¬ aH α = 0 → RW σ 49 (aK α)) ∧ σ 0 7 = aH α ∧ (∀ i, i < 7 → σ 134 i = aF α i) ∧ (σ 131 2 = aS α ∧ σ 132 = aT α) ∧ ∀ s, s < 4 → σ 124 s = aW α s ∧ σ 125 s = aZ α s ∧ ∀ i, i < (aZ α s).toNatClampNeg → σ (127 + s) i = aU α (24 * s + i)
def XPo (σ : Sg) (q : Int32 × Al) (v : Int32) (τ : Sg) : Prop := v = q.1 ∧ RC τ q.2 ∧ ∀ k, 135 ≤ k → τ k = σ k
section RCS
variable {σ τ : Sg} {α : Al} {ν ν' : Nu}
theorem IA.i (h : IA α) : INV (aN α) := h.1.1
theorem IA.m (h : IA α) : ∃ m, m ≤ 900 ∧ aN α 0 = nI m := h.1.2.1
theorem IA.x (h : IA α) : 0 ≤ aN α 27 := h.1.2.2
theorem IA.z (h : IA α) : ∀ s, s < 4 → ∃ n, n ≤ 24 ∧ aZ α s = nI n := h.2.2.2.2.2
theorem IA.s (h : IA α) : ∃ t, t ≤ 100 ∧ aS α = nI t := by obtain ⟨t, a, b, -⟩ := h.2.2.2.2.1; exact ⟨t, a, b⟩
theorem RC.w (h : RC σ α) : RW σ 12 (aN α) := h.1
theorem IA_fnd (h : IA α) (i : Nat) (w : Int32) : IA (fnd α i w).2 := h
theorem IA_now (h : IA α) (hn : IN ν') (h8 : cnt (aN α) 8 ≤ cnt ν' 8) : IA (sN α ν') := ⟨hn, fun q => ⟨(h.2.1 q).1, Nat.le_trans (h.2.1 q).2 h8⟩, h.2.2⟩
/-- the present and the image are as they were, where their cells are -/
theorem RC.kw (hA : IA α) (hC : RC σ α) (hs : ∀ k, 12 ≤ k → k ≤ 48 → τ k = σ k) (ht : ∀ k, 3 ≤ k → k ≤ 9 → τ k = σ k) : RW τ 12 (aN α) := hC.1.fr hA.i.n8.2 (fun k hk => hs _ (by omega) (by omega)) ht
theorem RC.kk (hA : IA α) (hC : RC σ α) (hs : ∀ k, 49 ≤ k → k ≤ 85 → τ k = σ k) (ht : ∀ k, 3 ≤ k → k ≤ 9 → τ k = σ k) : ¬ aH α = 0 → RW τ 49 (aK α) := fun q => (hC.2.1 q).fr (hA.2.1 q).1.1.n8.2 (fun k hk => hs _ (by omega) (by omega)) ht
theorem XPo_fnd (hA : IA α) (hC : RC σ α) {i : Nat} (hi : i < 7) (w : Int32) : XPo σ (fnd α i w) w (up σ 134 i (σ 134 i + 1)) := by
  have hq : ∀ k, k ≠ 134 → up σ 134 i (σ 134 i + 1) k = σ k := fun k hk => up_ne _ _ _ hk
  have ⟨h1, h2, h3, h4, h5, h6⟩ := hC
  have hkk := hC.kk (τ := up σ 134 i (σ 134 i + 1)) hA (fun k a b => hq _ (by omega)) (fun k a b => hq _ (by omega))
  have hkw := hC.kw (τ := up σ 134 i (σ 134 i + 1)) hA (fun k a b => hq _ (by omega)) (fun k a b => hq _ (by omega))
  refine ⟨rfl, ⟨hkw, hkk, by rw [hq 0 (by decide)]; exact h3, fun j hj => ?_, by rw [hq 131 (by decide), hq 132 (by decide)]; exact h5, fun s hs => by rw [hq 124 (by decide), hq 125 (by decide), hq (127 + s) (by omega)]; exact h6 s hs⟩, fun k hk => hq _ (by omega)⟩
  show up σ 134 i (σ 134 i + 1) 134 j = upd (aF α) i (aF α i + 1) j
  rw [up_at]
  by_cases e : j = i
  · subst e; rw [upd_at, upd_at, h4 j hj]
  · rw [upd_ne _ _ e, upd_ne _ _ e]; exact h4 j hj
theorem XPo_val (hC : RC σ α) {q : Int32 × Al} {v w : Int32} (hq : q = (w, α)) (hv : v = w) : XPo σ q v σ := by
  subst hq
  exact ⟨hv, hC, fun _ _ => rfl⟩
theorem XPo_tx (hA : IA α) (hC : RC σ α) (hE : Eqx [10, 11] σ τ) {q : Int32 × Al} {v w : Int32} (hq : q = (w, α)) (hv : v = w) : XPo σ q v τ := by
  subst hq
  have e : ∀ k, k ≠ 10 → k ≠ 11 → τ k = σ k := fun k h1 h2 => hE k (by simp; omega)
  obtain ⟨h1, h2, h3, h4, h5, h6⟩ := id hC
  exact ⟨hv, ⟨hC.kw hA (fun k a b => e _ (by omega) (by omega)) (fun k a b => e _ (by omega) (by omega)), hC.kk hA (fun k a b => e _ (by omega) (by omega)) (fun k a b => e _ (by omega) (by omega)), by rw [e 0 (by decide) (by decide)]; exact h3, by rw [e 134 (by decide) (by decide)]; exact h4, by rw [e 131 (by decide) (by decide), e 132 (by decide) (by decide)]; exact h5, fun s hs => by rw [e 124 (by decide) (by decide), e 125 (by decide) (by decide), e (127 + s) (by omega) (by omega)]; exact h6 s hs⟩, fun k hk => e _ (by omega) (by omega)⟩
/-- the present has become another, the rest is as it was -/
theorem XPo_now (hA : IA α) (hC : RC σ α) (hW : RW τ 12 ν') (hF : Fz 12 σ τ) {q : Int32 × Al} {v w : Int32} (hq : q = (w, sN α ν')) (hv : v = w) : XPo σ q v τ := by
  subst hq
  obtain ⟨h1, h2, h3, h4, h5, h6⟩ := id hC
  have e : ∀ k, 48 < k → τ k = σ k := fun k hk => hF k (by omega) (by omega) (by omega)
  have hkk := hC.kk (τ := τ) hA (fun k a b => e _ (by omega)) (fun k a b => hF k (by omega) (by omega) (by omega))
  exact ⟨hv, ⟨hW, hkk, by rw [hF 0 (by omega) (by omega) (by omega)]; exact h3, by rw [e 134 (by omega)]; exact h4, by rw [e 131 (by omega), e 132 (by omega)]; exact h5, fun s hs => by rw [e 124 (by omega), e 125 (by omega), e (127 + s) (by omega)]; exact h6 s hs⟩, fun k hk => e _ (by omega)⟩
/-- a trial was gone through beside -/
theorem XPo_try (hA : IA α) (hC : RC σ α) (hF : ∀ k, (k < 86 ∨ 122 < k) → k ≠ 10 → k ≠ 11 → τ k = σ k) {q : Int32 × Al} {v w : Int32} (hq : q = (w, α)) (hv : v = w) : XPo σ q v τ := by
  subst hq
  obtain ⟨h1, h2, h3, h4, h5, h6⟩ := id hC
  have e : ∀ k, 122 < k → τ k = σ k := fun k hk => hF k (by omega) (by omega) (by omega)
  exact ⟨hv, ⟨hC.kw hA (fun k a b => hF k (by omega) (by omega) (by omega)) (fun k a b => hF k (by omega) (by omega) (by omega)), hC.kk hA (fun k a b => hF k (by omega) (by omega) (by omega)) (fun k a b => hF k (by omega) (by omega) (by omega)), by rw [hF 0 (by omega) (by omega) (by omega)]; exact h3, by rw [e 134 (by omega)]; exact h4, by rw [e 131 (by omega), e 132 (by omega)]; exact h5, fun s hs => by rw [e 124 (by omega), e 125 (by omega), e (127 + s) (by omega)]; exact h6 s hs⟩, fun k hk => e _ (by omega)⟩
theorem isN_le {x : Int32} {a b : Nat} (h : isN x a) (hab : a ≤ b) : isN x b := by obtain ⟨k, hk, e⟩ := h; exact ⟨k, by omega, e⟩
/-- asks are as they were, there may be more gliders and people -/
theorem INV_grow (h : INV ν) (h0 : ν' 0 = ν 0) (hc : isN (ν' 3) 11 ∧ isN (ν' 4) 15 ∧ isN (ν' 5) 4 ∧ isN (ν' 6) 4) (c3 : cnt ν 3 ≤ cnt ν' 3) (c4 : cnt ν 4 ≤ cnt ν' 4) (h7 : ν' 7 = ν 7) (h8 : ν' 8 = ν 8) (hl : ∀ u, u < 4 → isN (ν' (16 + u)) 6) (hx : ∀ k, k < 6 → hb (ν' (10 + k)) (nI k) = true) (h26 : ∃ f, 1 ≤ f ∧ f ≤ 20 ∧ ν' 26 = nI f)
    (hg : ∀ g, g < cnt ν' 3 → ∃ o, o < 2 ^ cnt ν' 4 ∧ aG ν' g 3 = nI o) (hA : ∀ a f, a < 20 → f < 5 → aA ν' a f = aA ν a f) (h6 : ∀ a, a < cnt ν 7 → isN (aA ν' a 6) 4) (hfl : ∀ a, a < cnt ν 7 → aA ν' a 6 = 1 → aA ν a 6 = 1) (hT : ∀ j, 346 ≤ j → ν' j = ν j) : INV ν' := by
  have n7 := h.n7.2
  have n8 := h.n8.2
  have e7 := cntE h7
  have e8 := cntE h8
  obtain ⟨i1, ⟨-, -, -, -, i7, i8⟩, -, -, -, iA, iD, iT, iZ⟩ := h
  refine ⟨by rw [h0]; exact i1, ⟨hc.1, hc.2.1, hc.2.2.1, hc.2.2.2, by rw [h7]; exact i7, by rw [h8]; exact i8⟩, ⟨hl, hx⟩, h26, hg, fun a ha => ?_, fun a a' ha ha' q q' hne => ?_, fun t ht => ?_, fun j hj => by rw [hT j (by omega)]; exact iZ j hj⟩
  · rw [e7] at ha
    obtain ⟨a0, a1, a2, a3, a4, -⟩ := iA a ha
    rw [hA a 0 (by omega) (by omega), hA a 1 (by omega) (by omega), hA a 2 (by omega) (by omega), hA a 3 (by omega) (by omega), hA a 4 (by omega) (by omega)]
    exact ⟨isN_le a0 c4, a1.imp id (fun q => isN_le q c4), isN_le a2 c3, a3, a4, h6 a ha⟩
  · rw [e7] at ha ha'
    rw [hA a 0 (by omega) (by omega), hA a 1 (by omega) (by omega), hA a 2 (by omega) (by omega), hA a' 0 (by omega) (by omega), hA a' 1 (by omega) (by omega), hA a' 2 (by omega) (by omega)]
    exact iD a a' ha ha' (hfl a ha q) (hfl a' ha' q') hne
  · rw [e8] at ht
    have ec : codes ν' t = codes ν t := by funext k; unfold codes; exact hT _ (by omega)
    have el : lenT ν' t = lenT ν t := by unfold lenT; rw [hT _ (by omega)]
    rw [hT _ (by omega), hT _ (by omega), ec, el]
    exact iT t ht
end RCS
section INS
variable {ν ν' : Nu}
/-- numbers that nothing rests on -/
theorem IN_free (h : IN ν) (hk : ∀ j, (j = 0 ∨ (3 ≤ j ∧ j ≤ 8) ∨ (10 ≤ j ∧ j < 20) ∨ j = 26 ∨ j = 27 ∨ (50 ≤ j ∧ j < 90) ∨ 146 ≤ j) → ν' j = ν j) : IN ν' := by
  have e : ∀ a f, a < 20 → f < 10 → aA ν' a f = aA ν a f := fun a f _ _ => by unfold aA; exact hk _ (by omega)
  have i := h.1
  have n3 := i.n3.2
  have n7 := i.n7.2
  refine ⟨INV_grow i (hk 0 (by omega)) (by rw [hk 3 (by omega), hk 4 (by omega), hk 5 (by omega), hk 6 (by omega)]; exact ⟨i.2.1.1, i.2.1.2.1, i.2.1.2.2.1, i.2.1.2.2.2.1⟩) (by rw [cntE (hk 3 (by omega))]; exact Nat.le_refl _) (by rw [cntE (hk 4 (by omega))]; exact Nat.le_refl _) (hk 7 (by omega)) (hk 8 (by omega)) (fun u hu => by rw [hk _ (by omega)]; exact i.2.2.1.1 u hu) (fun k hk6 => by rw [hk _ (by omega)]; exact i.2.2.1.2 k hk6) (by rw [hk 26 (by omega)]; exact i.2.2.2.1) (fun g hg => ?_) (fun a f ha hf => e a f ha (by omega)) (fun a ha => by rw [e a 6 (by omega) (by omega)]; exact (i.2.2.2.2.2.1 a ha).2.2.2.2.2) (fun a ha q => by rw [e a 6 (by omega) (by omega)] at q; exact q) (fun j hj => hk j (by omega)), by rw [hk 0 (by omega)]; exact h.2.1, by rw [hk 27 (by omega)]; exact h.2.2⟩
  rw [cntE (hk 3 (by omega))] at hg
  rw [cntE (hk 4 (by omega))]
  obtain ⟨o, ho, e2⟩ := i.2.2.2.2.1 g hg
  refine ⟨o, ho, ?_⟩
  unfold aG at *
  rw [hk _ (by omega)]; exact e2
/-- some numbers of counts, lanes, rules may be new -/
theorem IN_more (h : IN ν) (hc : isN (ν' 3) 11 ∧ isN (ν' 4) 15 ∧ isN (ν' 5) 4 ∧ isN (ν' 6) 4) (c3 : cnt ν 3 ≤ cnt ν' 3) (c4 : cnt ν 4 ≤ cnt ν' 4) (hl : ∀ u, u < 4 → isN (ν' (16 + u)) 6) (hx : ∀ k, k < 6 → hb (ν' (10 + k)) (nI k) = true) (h26 : ∃ f, 1 ≤ f ∧ f ≤ 20 ∧ ν' 26 = nI f) (h27 : 0 ≤ ν' 27) (hg : ∀ g, g < cnt ν' 3 → ∃ o, o < 2 ^ cnt ν' 4 ∧ aG ν' g 3 = nI o)
    (hk : ∀ j, (j = 0 ∨ j = 7 ∨ j = 8 ∨ 146 ≤ j) → ν' j = ν j) : IN ν' := by
  have e : ∀ a f, a < 20 → f < 10 → aA ν' a f = aA ν a f := fun a f _ _ => by unfold aA; exact hk _ (by omega)
  have i := h.1
  have n7 := i.n7.2
  exact ⟨INV_grow i (hk 0 (by omega)) hc c3 c4 (hk 7 (by omega)) (hk 8 (by omega)) hl hx h26 hg (fun a f ha hf => e a f ha (by omega)) (fun a ha => by rw [e a 6 (by omega) (by omega)]; exact (i.2.2.2.2.2.1 a ha).2.2.2.2.2) (fun a ha q => by rw [e a 6 (by omega) (by omega)] at q; exact q) (fun j hj => hk j (by omega)), by rw [hk 0 (by omega)]; exact h.2.1, h27⟩
theorem IN_back (h : IN ν) {a : Nat} (ha : a < cnt ν 7) : IN (upd ν (146 + 10 * a + 6) 3) := by
  have i := h.1
  have n3 := i.n3.2
  have n7 := i.n7.2
  have hk : ∀ j, j < 146 ∨ 346 ≤ j → upd ν (146 + 10 * a + 6) 3 j = ν j := fun j hj => upd_ne _ _ (by omega)
  have h6 : ∀ b, aA (upd ν (146 + 10 * a + 6) 3) b 6 = if b = a then 3 else aA ν b 6 := fun b => by
    unfold aA
    by_cases e : b = a
    · subst e; rw [if_pos rfl, upd_at]
    · rw [if_neg e, upd_ne _ _ (by omega)]
  refine ⟨INV_grow i (hk 0 (by omega)) (by rw [hk 3 (by omega), hk 4 (by omega), hk 5 (by omega), hk 6 (by omega)]; exact ⟨i.2.1.1, i.2.1.2.1, i.2.1.2.2.1, i.2.1.2.2.2.1⟩) (by rw [cntE (hk 3 (by omega))]; exact Nat.le_refl _) (by rw [cntE (hk 4 (by omega))]; exact Nat.le_refl _) (hk 7 (by omega)) (hk 8 (by omega)) (fun u hu => by rw [hk _ (by omega)]; exact i.2.2.1.1 u hu) (fun k hk6 => by rw [hk _ (by omega)]; exact i.2.2.1.2 k hk6) (by rw [hk 26 (by omega)]; exact i.2.2.2.1) (fun g hg => ?_) (fun b f hb hf => by unfold aA; exact upd_ne _ _ (by omega)) (fun b hb => ?_) (fun b hb q => ?_) (fun j hj => hk j (by omega)), by rw [hk 0 (by omega)]; exact h.2.1, by rw [hk 27 (by omega)]; exact h.2.2⟩
  · rw [cntE (hk 3 (by omega))] at hg
    rw [cntE (hk 4 (by omega))]
    obtain ⟨o, ho, e2⟩ := i.2.2.2.2.1 g hg
    refine ⟨o, ho, ?_⟩
    unfold aG at *
    rw [hk _ (by omega)]; exact e2
  · rw [h6]
    split
    · exact ⟨3, by omega, rfl⟩
    · exact (i.2.2.2.2.2.1 b hb).2.2.2.2.2
  · rw [h6] at q
    split at q
    · exact absurd q (by decide)
    · exact q
theorem IN_ask (h : IN ν) {n k e : Nat} (hn : ν 7 = nI n) (hn3 : n < 20) {p w g c d m : Int32} (hp : isN p (cnt ν 4)) (hw : w = -1 ∨ isN w (cnt ν 4)) (hg : isN g (cnt ν 3)) (hk : 1 ≤ k ∧ k ≤ 5 ∧ c = nI k) (he : 1 ≤ e ∧ e ≤ 30 ∧ d = nI e) : IN (askN ν n p w g c d m) := by
  have i := h.1
  have n3 := i.n3.2
  have n7 := i.n7.2
  have c7 : cnt ν 7 = n := cnt_of hn (by omega)
  have e7 : askN ν n p w g c d m 7 = nI (n + 1) := askN_7 hn
  have cn7 : cnt (askN ν n p w g c d m) 7 = n + 1 := cnt_of e7 (by omega)
  have hlo : ∀ j, j ≠ 7 → (j < 146 ∨ 346 ≤ j) → askN ν n p w g c d m j = ν j := fun j h1 h2 => askN_ne h1 (by omega)
  have c3 := cntE (hlo 3 (by omega) (by omega))
  have c4 := cntE (hlo 4 (by omega) (by omega))
  have c8 := cntE (hlo 8 (by omega) (by omega))
  obtain ⟨i1, ⟨i3, i4, i5, i6, i7, i8⟩, ⟨iL, iX⟩, iF, iG, iA, iD, iT, iZ⟩ := i
  refine ⟨⟨by rw [hlo 0 (by omega) (by omega)]; exact i1, ⟨by rw [hlo 3 (by omega) (by omega)]; exact i3, by rw [hlo 4 (by omega) (by omega)]; exact i4, by rw [hlo 5 (by omega) (by omega)]; exact i5, by rw [hlo 6 (by omega) (by omega)]; exact i6, ⟨n + 1, by omega, e7⟩, by rw [hlo 8 (by omega) (by omega)]; exact i8⟩, ⟨fun u hu => by rw [hlo _ (by omega) (by omega)]; exact iL u hu, fun k hk6 => by rw [hlo _ (by omega) (by omega)]; exact iX k hk6⟩, by rw [hlo 26 (by omega) (by omega)]; exact iF, fun q hq => ?_, fun a ha => ?_, fun a a' ha ha' q q' hne => ?_, fun t ht => ?_, fun j hj => by rw [hlo j (by omega) (by omega)]; exact iZ j hj⟩, by rw [hlo 0 (by omega) (by omega)]; exact h.2.1, by rw [hlo 27 (by omega) (by omega)]; exact h.2.2⟩
  · rw [c3] at hq
    rw [c4]
    obtain ⟨o, ho, e2⟩ := iG q hq
    refine ⟨o, ho, ?_⟩
    unfold aG at *
    rw [hlo _ (by omega) (by omega)]; exact e2
  · rw [cn7] at ha
    rw [c3, c4]
    rcases (show a = n ∨ a < n by omega) with rfl | hb
    · rw [askN_at 0 (by omega), askN_at 1 (by omega), askN_at 2 (by omega), askN_at 3 (by omega), askN_at 4 (by omega), askN_at 6 (by omega)]
      exact ⟨hp, hw, hg, ⟨k, hk.1, hk.2.1, hk.2.2⟩, ⟨e, he.1, he.2.1, he.2.2⟩, ⟨0, by omega, rfl⟩⟩
    · rw [askN_old hb (by omega), askN_old hb (by omega), askN_old hb (by omega), askN_old hb (by omega), askN_old hb (by omega), askN_old hb (by omega)]
      exact iA a (by omega)
  · rw [cn7] at ha ha'
    have hb : a < n := by
      rcases (show a = n ∨ a < n by omega) with rfl | hb
      · have q : (0 : Int32) = 1 := (askN_at 6 (by omega)).symm.trans q
        exact absurd q (by decide)
      · exact hb
    have hb' : a' < n := by
      rcases (show a' = n ∨ a' < n by omega) with rfl | hb
      · have q : (0 : Int32) = 1 := (askN_at 6 (by omega)).symm.trans q'
        exact absurd q (by decide)
      · exact hb
    rw [askN_old hb (by omega)] at q
    rw [askN_old hb' (by omega)] at q'
    rw [askN_old hb (by omega), askN_old hb' (by omega), askN_old hb (by omega), askN_old hb' (by omega), askN_old hb (by omega), askN_old hb' (by omega)]
    exact iD a a' (by omega) (by omega) q q' hne
  · rw [c8] at ht
    have ec : codes (askN ν n p w g c d m) t = codes ν t := by funext k; unfold codes; exact hlo _ (by omega) (by omega)
    have el : lenT (askN ν n p w g c d m) t = lenT ν t := by unfold lenT; rw [hlo _ (by omega) (by omega)]
    rw [hlo _ (by omega) (by omega), hlo _ (by omega) (by omega), ec, el]
    exact iT t ht
theorem IN_run (h : IN ν) {m n : Nat} (h0 : ν 0 = nI m) (hmn : m + n ≤ 900) : IN (runS ν n) := by
  obtain ⟨a, b⟩ := INV_run h.1 h0 n (by omega)
  exact ⟨a, ⟨m + n, hmn, b⟩, by rw [(KP_run h.1 h0 n (by omega)).2.2.2.1]; exact h.2.2⟩
end INS
