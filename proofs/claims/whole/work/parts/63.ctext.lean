/-! ===== a text put down: pure ===== -/
section TXT
variable {ν : Nu} {u : Int32} {s : List Int32} {c : Nat}
theorem tx_8 (hc : cnt ν 8 = c) (h8 : ν 8 = nI c) : textS ν u s 8 = nI (c + 1) := by
  show upd _ 8 (ν 8 + 1) 8 = _
  rw [upd_at, h8]; exact nI_1 c
theorem tx_lo (hc : cnt ν 8 = c) {j : Nat} (h8 : j ≠ 8) (hj : j < 346 + 104 * c) : textS ν u s j = ν j := by
  unfold textS
  rw [hc]
  show upd _ 8 _ j = _
  rw [upd_ne _ _ h8]
  unfold putP
  rw [if_neg (by omega), upd_ne _ _ (by omega), upd_ne _ _ (by omega)]
theorem tx_hi (hc : cnt ν 8 = c) {j : Nat} (hj : 346 + 104 * c + 2 + s.length ≤ j) : textS ν u s j = ν j := by
  unfold textS
  rw [hc]
  show upd _ 8 _ j = _
  rw [upd_ne _ _ (by omega)]
  unfold putP
  rw [if_neg (by omega), upd_ne _ _ (by omega), upd_ne _ _ (by omega)]
theorem tx_u (hc : cnt ν 8 = c) : textS ν u s (346 + 104 * c) = u := by
  unfold textS
  rw [hc]
  show upd _ 8 _ _ = _
  rw [upd_ne _ _ (by omega)]
  unfold putP
  rw [if_neg (by omega), upd_ne _ _ (by omega), upd_at]
theorem tx_n (hc : cnt ν 8 = c) : textS ν u s (346 + 104 * c + 1) = nI s.length := by
  unfold textS
  rw [hc]
  show upd _ 8 _ _ = _
  rw [upd_ne _ _ (by omega)]
  unfold putP
  rw [if_neg (by omega), upd_at]
theorem tx_k (hc : cnt ν 8 = c) {k : Nat} (hk : k < s.length) : codes (textS ν u s) c k = s.getD k 0 := by
  unfold codes textS
  rw [hc]
  show upd _ 8 _ _ = _
  rw [upd_ne _ _ (by omega)]
  unfold putP
  rw [if_pos (by omega)]
  congr 1; omega
theorem depT_L {cs : Nu} : ∀ n, n ≤ s.length → (∀ k, k < n → cs k = s.getD k 0) → depT cs n = depL 0 (s.take n) := by
  intro n
  induction n with
  | zero => intro _ _; rfl
  | succ n ih =>
    intro hn hk
    rw [depT_s, ih (by omega) (fun k h => hk k (by omega)), hk n (by omega)]
    have e : s.take (n + 1) = s.take n ++ [s.getD n 0] := by
      rw [List.take_succ_eq_append_getElem (by omega)]
      congr 2
      simp [List.getD, List.getElem?_eq_getElem (show n < s.length by omega)]
    rw [e, depL_app]
    cases depL 0 (s.take n) with
    | none => rfl
    | some q =>
      show _ = (match stpD q (s.getD n 0) with | none => none | some e => depL e [])
      unfold stpD
      by_cases h1 : s.getD n 0 < 10100
      · simp only [h1, if_true]; rfl
      · simp only [h1, if_false]
        by_cases h2 : s.getD n 0 = 10107
        · simp only [h2, if_true]
          by_cases h3 : q = 0
          · simp only [h3, if_true]
          · simp only [h3, if_false]; rfl
        · simp only [h2, if_false]
          by_cases h3 : q < 2
          · simp only [h3, if_true]
          · simp only [h3, if_false]; rfl
theorem tx_dep (hc : cnt ν 8 = c) (hg : GC 100 s) : depT (codes (textS ν u s) c) s.length = some 1 := by
  rw [depT_L (s := s) s.length (Nat.le_refl _) (fun k hk => tx_k hc hk), List.take_length]
  exact hg.2.2.1 0
theorem tx_cnt (hc : cnt ν 8 = c) (h8 : ν 8 = nI c) (hc6 : c < 6) : cnt (textS ν u s) 8 = c + 1 := by
  unfold cnt
  rw [tx_8 hc h8, nI_clamp (by omega)]
theorem tx_len (hc : cnt ν 8 = c) (hg : GC 100 s) : lenT (textS ν u s) c = s.length := by
  have := hg.2.1
  unfold lenT
  rw [tx_n hc, nI_clamp (by omega)]
theorem dep_cg {cs cs' : Nu} : ∀ n, (∀ k, k < n → cs' k = cs k) → depT cs' n = depT cs n := by
  intro n
  induction n with
  | zero => intro _; rfl
  | succ n ih => intro h; rw [depT_s, depT_s, ih (fun k hk => h k (by omega)), h n (by omega)]
theorem lstL_cg {P P' : Nat → Bool} : ∀ n, (∀ t, t < n → P' t = P t) → lstL P' n = lstL P n := by
  intro n
  induction n with
  | zero => intro _; rfl
  | succ n ih => intro h; rw [lstL_s, lstL_s, h n (by omega), ih (fun t ht => h t (by omega))]
theorem tx_use (hc : cnt ν 8 = c) (h8 : ν 8 = nI c) (hc6 : c < 6) (x : Int32) : textU (textS ν u s) x = if u = x then some c else textU ν x := by
  unfold textU
  rw [tx_cnt hc h8 hc6, lstL_s, hc]
  have e : txtP (textS ν u s) x c = decide (u = x) := by unfold txtP; rw [tx_u hc]
  rw [e]
  by_cases h : u = x
  · simp only [h, decide_true, if_true]
  · simp only [h, decide_false, if_false]
    exact lstL_cg c (fun t ht => by unfold txtP; rw [tx_lo hc (by omega) (by omega)])
theorem IN_text (hN : IN ν) (hc : cnt ν 8 = c) (hc6 : c < 6) {k : Nat} (hk : k < 2) (hu : u = nI k) (hg : GC 100 s) : IN (textS ν u s) := by
  have h8 : ν 8 = nI c := by rw [← hc]; exact hN.1.n8.1
  have n7 := hN.1.n7.2
  have n3 := hN.1.n3.2
  obtain ⟨⟨i1, ⟨a3, a4, a5, a6, a7, a8⟩, ⟨iu, ix⟩, i26, ig, iA, iD, iT, iZ⟩, hm, h27⟩ := id hN
  have lo : ∀ j, j ≠ 8 → j < 346 → textS ν u s j = ν j := fun j h1 h2 => tx_lo hc h1 (by omega)
  have c3 : cnt (textS ν u s) 3 = cnt ν 3 := cntE (lo 3 (by decide) (by decide))
  have c4 : cnt (textS ν u s) 4 = cnt ν 4 := cntE (lo 4 (by decide) (by decide))
  have c7 : cnt (textS ν u s) 7 = cnt ν 7 := cntE (lo 7 (by decide) (by decide))
  have c8 := tx_cnt (u := u) (s := s) hc h8 hc6
  have eA : ∀ a f, a < 20 → f < 10 → aA (textS ν u s) a f = aA ν a f := fun a f ha hf => by unfold aA; exact lo _ (by omega) (by omega)
  refine ⟨⟨by rw [lo 0 (by decide) (by decide)]; exact i1, ⟨?_, ?_, ?_, ?_, ?_, ?_⟩, ⟨fun v hv => ?_, fun v hv => ?_⟩, ?_, fun g h => ?_, fun a ha => ?_, fun a a' ha ha' => ?_, fun t ht => ?_, fun j hj => ?_⟩, ?_, ?_⟩
  · rw [lo 3 (by decide) (by decide)]; exact a3
  · rw [lo 4 (by decide) (by decide)]; exact a4
  · rw [lo 5 (by decide) (by decide)]; exact a5
  · rw [lo 6 (by decide) (by decide)]; exact a6
  · rw [lo 7 (by decide) (by decide)]; exact a7
  · exact ⟨c + 1, by omega, tx_8 hc h8⟩
  · rw [lo _ (by omega) (by omega)]; exact iu v hv
  · rw [lo _ (by omega) (by omega)]; exact ix v hv
  · rw [lo 26 (by decide) (by decide)]; exact i26
  · rw [c3] at h
    rw [c4, show aG (textS ν u s) g 3 = aG ν g 3 from by unfold aG; exact lo _ (by omega) (by omega)]
    exact ig g h
  · rw [c7] at ha
    rw [c3, c4, eA a 0 (by omega) (by decide), eA a 1 (by omega) (by decide), eA a 2 (by omega) (by decide), eA a 3 (by omega) (by decide), eA a 4 (by omega) (by decide), eA a 6 (by omega) (by decide)]
    exact iA a ha
  · rw [c7] at ha ha'
    rw [eA a 0 (by omega) (by decide), eA a 1 (by omega) (by decide), eA a 2 (by omega) (by decide), eA a 6 (by omega) (by decide), eA a' 0 (by omega) (by decide), eA a' 1 (by omega) (by decide), eA a' 2 (by omega) (by decide), eA a' 6 (by omega) (by decide)]
    exact iD a a' ha ha'
  · rw [c8] at ht
    by_cases e : t = c
    · subst e
      rw [tx_u hc, tx_n hc, tx_len hc hg]
      exact ⟨⟨k, hk, hu⟩, ⟨s.length, hg.1, hg.2.1, rfl⟩, tx_dep hc hg⟩
    · obtain ⟨z1, ⟨m, m1, m2, m3⟩, z3⟩ := iT t (by omega)
      have el : lenT (textS ν u s) t = lenT ν t := by unfold lenT; rw [tx_lo hc (by omega) (by omega)]
      have em : lenT ν t = m := by unfold lenT; rw [m3, nI_clamp (by omega)]
      rw [tx_lo hc (by omega) (by omega), tx_lo hc (by omega) (by omega), el]
      refine ⟨z1, ⟨m, m1, m2, m3⟩, ?_⟩
      rw [dep_cg (cs := codes ν t) _ (fun x hx => by unfold codes; exact tx_lo hc (by omega) (by omega))]
      exact z3
  · have := hg.2.1
    rw [tx_hi hc (by omega)]
    exact iZ j hj
  · rw [lo 0 (by decide) (by decide)]; exact hm
  · rw [lo 27 (by decide) (by decide)]; exact h27
/-- the class's world, with one more text -/
theorem W_text {σ τ : Sg} (hN : IN ν) (hR : RW σ 12 ν) (hc : cnt ν 8 = c) (hc6 : c < 6) {k : Nat} (hk : k < 2) (hu : u = nI k) (hg : GC 100 s) (hs : ∀ j, j < s.length → τ (3 + c) j = clC (s.getD j 0)) (h9 : τ 9 c = nI s.length) (h9' : ∀ j, j ≠ c → τ 9 j = σ 9 j) (h12 : τ 12 12 = nI (c + 1)) (h12' : ∀ j, j ≠ 12 → τ 12 j = σ 12 j) (h48 : τ 48 k = nI c) (h48' : ∀ j, j ≠ k → τ 48 j = σ 48 j) (hq : ∀ j, j ≠ 3 + c → j ≠ 9 → j ≠ 12 → j ≠ 48 → j < 123 → τ j = σ j) : RW τ 12 (textS ν u s) := by
  have h8 : ν 8 = nI c := by rw [← hc]; exact hN.1.n8.1
  have n3 := hN.1.n3.2
  have n4 := hN.1.n4.2
  have n5 := hN.1.n5.2
  have n6 := hN.1.n6.2
  have n7 := hN.1.n7.2
  have lo : ∀ j, j ≠ 8 → j < 346 → textS ν u s j = ν j := fun j h1 h2 => tx_lo hc h1 (by omega)
  have c8 := tx_cnt (u := u) (s := s) hc h8 hc6
  have q : ∀ j, 13 ≤ j → j < 48 → τ j = σ j := fun j h1 h2 => hq j (by omega) (by omega) (by omega) (by omega) (by omega)
  have qj : ∀ j, 13 ≤ j → j < 48 → ∀ i, τ j i = σ j i := fun j h1 h2 i => by rw [q j h1 h2]
  obtain ⟨r1, r2, r3, r4, r5, r6⟩ := hR.r
  refine ⟨hR.g.mv (qj 13 (by decide) (by decide) 4) (q 14 (by decide) (by decide)) (q 15 (by decide) (by decide)) (q 16 (by decide) (by decide)) (q 17 (by decide) (by decide)) (lo 3 (by decide) (by decide)) (fun j h1 h2 => lo j (by omega) (by omega)),
    hR.p.mv (qj 18 (by decide) (by decide) 4) (q 19 (by decide) (by decide)) (q 20 (by decide) (by decide)) (q 21 (by decide) (by decide)) (q 22 (by decide) (by decide)) (lo 4 (by decide) (by decide)) (fun j h1 h2 => lo j (by omega) (by omega)),
    hR.b.mv (qj 13 (by decide) (by decide) 5) (qj 18 (by decide) (by decide) 5) (lo 7 (by decide) (by decide)) (fun a ha => ⟨by unfold aA; exact lo _ (by omega) (by omega), by unfold aA; exact lo _ (by omega) (by omega), by unfold aA; exact lo _ (by omega) (by omega), by unfold aA; exact lo _ (by omega) (by omega)⟩),
    hR.w.mv (qj 23 (by decide) (by decide) 2) (q 24 (by decide) (by decide)) (q 25 (by decide) (by decide)) (lo 5 (by decide) (by decide)) (fun j h1 h2 => lo j (by omega) (by omega)),
    hR.n.mv (qj 26 (by decide) (by decide) 1) (q 27 (by decide) (by decide)) (lo 6 (by decide) (by decide)) (fun j h1 h2 => lo j (by omega) (by omega)),
    hR.l.mv (qj 28 (by decide) (by decide) 5) (fun j h1 h2 => q _ (by omega) (by omega)) (lo 0 (by decide) (by decide)) (fun j h1 h2 => lo j (by omega) (by omega)),
    hR.a.mv (qj 34 (by decide) (by decide) 12) (fun j h1 h2 => q _ (by omega) (by omega)) (lo 7 (by decide) (by decide)) (fun j h1 h2 => lo j (by omega) (by omega)), ⟨?_, ?_, ?_, ?_, fun i hi => ?_, fun v hv => ?_⟩, fun t ht => ?_⟩
  · rw [h12' 9 (by decide), lo 0 (by decide) (by decide)]; exact r1
  · rw [h12' 10 (by decide), lo 1 (by decide) (by decide)]; exact r2
  · rw [h12' 11 (by decide), lo 2 (by decide) (by decide)]; exact r3
  · rw [h12, tx_8 hc h8]
  · rw [lo _ (by omega) (by omega), q (12 + 35) (by decide) (by decide)]; exact r5 i hi
  · rw [tx_use hc h8 hc6]
    by_cases e : v = k
    · subst e; rw [if_pos hu]; exact h48
    · rw [if_neg (by rw [hu]; exact nI_ne (by omega) (by omega) (fun z => e z.symm))]
      exact (h48' v e).trans (r6 v hv)
  · rw [c8] at ht
    by_cases e : t = c
    · subst e
      rw [tx_len hc hg]
      refine ⟨hg.2.1, h9, fun j hj => ?_, tx_dep hc hg⟩
      rw [tx_k hc hj]
      refine ⟨hg.2.2.2 _ ?_, hs j hj⟩
      simp only [List.getD, List.getElem?_eq_getElem hj, Option.getD_some]
      exact List.getElem_mem hj
    · obtain ⟨a, b, d, f⟩ := hR.t t (by omega)
      have el : lenT (textS ν u s) t = lenT ν t := by unfold lenT; rw [tx_lo hc (by omega) (by omega)]
      have ec : ∀ x, x < lenT ν t → codes (textS ν u s) t x = codes ν t x := fun x hx => by unfold codes; exact tx_lo hc (by omega) (by omega)
      rw [el]
      exact ⟨a, by rw [h9' t e]; exact b, fun j hj => by rw [ec j hj, hq (3 + t) (by omega) (by omega) (by omega) (by omega) (by omega)]; exact d j hj, by rw [dep_cg (cs := codes ν t) _ ec]; exact f⟩
/-- an image keeps its texts where there is one more -/
theorem W_keep {σ τ : Sg} {κ : Nu} (hN : IN κ) (hR : RW σ 49 κ) (hle : cnt κ 8 ≤ c) (h9' : ∀ j, j ≠ c → τ 9 j = σ 9 j) (hq : ∀ j, j ≠ 3 + c → j ≠ 9 → j ≠ 12 → j ≠ 48 → j < 123 → τ j = σ j) (hc6 : c < 6) : RW τ 49 κ := by
  have q : ∀ j, 49 ≤ j → j < 86 → τ j = σ j := fun j h1 h2 => hq j (by omega) (by omega) (by omega) (by omega) (by omega)
  have qj : ∀ j, 49 ≤ j → j < 86 → ∀ i, τ j i = σ j i := fun j h1 h2 i => by rw [q j h1 h2]
  refine ⟨hR.g.mv (qj 50 (by decide) (by decide) 4) (q 51 (by decide) (by decide)) (q 52 (by decide) (by decide)) (q 53 (by decide) (by decide)) (q 54 (by decide) (by decide)) rfl (fun _ _ _ => rfl),
    hR.p.mv (qj 55 (by decide) (by decide) 4) (q 56 (by decide) (by decide)) (q 57 (by decide) (by decide)) (q 58 (by decide) (by decide)) (q 59 (by decide) (by decide)) rfl (fun _ _ _ => rfl),
    hR.b.mv (qj 50 (by decide) (by decide) 5) (qj 55 (by decide) (by decide) 5) rfl (fun _ _ => ⟨rfl, rfl, rfl, rfl⟩),
    hR.w.mv (qj 60 (by decide) (by decide) 2) (q 61 (by decide) (by decide)) (q 62 (by decide) (by decide)) rfl (fun _ _ _ => rfl),
    hR.n.mv (qj 63 (by decide) (by decide) 1) (q 64 (by decide) (by decide)) rfl (fun _ _ _ => rfl),
    hR.l.mv (qj 65 (by decide) (by decide) 5) (fun j h1 h2 => q _ (by omega) (by omega)) rfl (fun _ _ _ => rfl),
    hR.a.mv (qj 71 (by decide) (by decide) 12) (fun j h1 h2 => q _ (by omega) (by omega)) rfl (fun _ _ _ => rfl),
    hR.r.mv (qj 49 (by decide) (by decide) 9) (qj 49 (by decide) (by decide) 10) (qj 49 (by decide) (by decide) 11) (qj 49 (by decide) (by decide) 12) (q 84 (by decide) (by decide)) (q 85 (by decide) (by decide)) rfl rfl rfl rfl (fun _ _ _ => rfl) (fun _ _ => rfl), fun t ht => ?_⟩
  exact RT1.mv (cs' := codes κ t) (hR.t t ht) (h9' t (by omega)) (hq (3 + t) (by omega) (by omega) (by omega) (by omega) (by omega))
end TXT
