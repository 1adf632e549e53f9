/-! ===== each call leaves what is well made well made ===== -/
section KEEP
variable {α : Al}
theorem i_gliderIs (hA : IA α) (g w : Int32) : IA (sp_gliderIs α g w).2 := by unfold sp_gliderIs; split <;> exact hA
theorem i_personIs (hA : IA α) (g w : Int32) : IA (sp_personIs α g w).2 := by unfold sp_personIs; split <;> exact hA
theorem i_rope (hA : IA α) (w r f : Int32) : IA (sp_rope α w r f).2 := by unfold sp_rope; split <;> exact hA
theorem i_tow (hA : IA α) (p : Int32) : IA (sp_tow α p).2 := by unfold sp_tow; split <;> exact hA
theorem i_bound (hA : IA α) (k : Int32) : IA (sp_bound α k).2 := by unfold sp_bound; split <;> exact hA
theorem i_span (hA : IA α) (k h : Int32) : IA (sp_span α k h).2 := by unfold sp_span; split <;> exact hA
theorem i_askIs (hA : IA α) (a w : Int32) : IA (sp_askIs α a w).2 := by unfold sp_askIs; split <;> exact hA
theorem i_as (hA : IA α) (a k : Int32) : IA (sp_as α a k).2 := by
  unfold sp_as
  split
  · exact hA
  · split <;> exact hA
theorem i_why (hA : IA α) (a : Int32) : IA (sp_why α a).2 := by
  unfold sp_why
  split
  · exact hA
  · split <;> exact hA
theorem i_clear (hA : IA α) (l n : Int32) : IA (sp_clear α l n).2 := by unfold sp_clear; split <;> exact hA
theorem i_next (hA : IA α) : IA (sp_next α).2 := hA
theorem i_force (hA : IA α) (u : Int32) : IA (sp_force α u).2 := by
  unfold sp_force
  split
  · exact hA
  · cases textU (aN α) u <;> exact hA
theorem i_says (hA : IA α) (t h m k : Int32) : IA (sp_says α t h m k).2 := by unfold sp_says; split <;> exact hA
theorem i_ahead (hA : IA α) (n w : Int32) : IA (sp_ahead α n w).2 := by unfold sp_ahead; split <;> exact hA
theorem i_late (hA : IA α) (m : Int32) : IA (sp_late α m).2 := by unfold sp_late; split <;> exact hA
theorem i_check (hA : IA α) (s : Int32) : IA (sp_check α s).2 := by
  unfold sp_check
  split
  · exact hA
  · split <;> exact hA
theorem i_status (hA : IA α) (w : Int32) : IA (sp_status α w).2 := by unfold sp_status; split <;> exact hA
theorem i_count (hA : IA α) (w : Int32) : IA (sp_count α w).2 := by
  unfold sp_count
  repeat' split
  all_goals exact hA
/-- the present with numbers that nothing rests on changed -/
theorem IA_free {ν' : Nu} (hA : IA α) (hk : ∀ j, (j = 0 ∨ (3 ≤ j ∧ j ≤ 8) ∨ (10 ≤ j ∧ j < 20) ∨ j = 26 ∨ j = 27 ∨ (50 ≤ j ∧ j < 90) ∨ 146 ≤ j) → ν' j = aN α j) : IA (sN α ν') :=
  IA_now hA (IN_free hA.1 hk) (by rw [cntE (hk 8 (by omega))]; exact Nat.le_refl _)
theorem i_wind (hA : IA α) (v : Int32) : IA (sp_wind α v).2 := by
  unfold sp_wind
  split
  · exact hA
  · exact IA_free hA (fun j hj => upd_ne _ _ (by omega))
theorem i_link (hA : IA α) (l is : Int32) : IA (sp_link α l is).2 := by
  unfold sp_link
  split
  · exact hA
  · exact IA_free hA (fun j hj => upd_ne _ _ (by omega))
theorem i_paper (hA : IA α) (p k h : Int32) : IA (sp_paper α p k h).2 := by
  have hI := hA.i
  have n4 := hI.n4.2
  unfold sp_paper
  split
  · exact hA
  · rename_i c
    obtain ⟨j, hj, rfl⟩ := (is_iff hI.n4.1 (by omega)).mp (Classical.not_not.mp c).1
    rw [nI_clamp (by omega)]
    exact IA_free hA (fun q hq => upd_ne _ _ (by omega))
theorem i_pay (hA : IA α) (p k : Int32) : IA (sp_pay α p k).2 := by
  have hI := hA.i
  have n4 := hI.n4.2
  unfold sp_pay
  split
  · exact hA
  · rename_i c
    split
    · exact hA
    · obtain ⟨j, hj, rfl⟩ := (is_iff hI.n4.1 (by omega)).mp (Classical.not_not.mp c).1
      rw [nI_clamp (by omega)]
      exact IA_free hA (fun q hq => upd_ne _ _ (by omega))
theorem i_broken (hA : IA α) (w r : Int32) : IA (sp_broken α w r).2 := by
  have hI := hA.i
  have n5 := hI.n5.2
  unfold sp_broken
  split
  · exact hA
  · rename_i c
    split
    · exact hA
    · obtain ⟨j, hj, rfl⟩ := (is_iff hI.n5.1 (by omega)).mp (Classical.not_not.mp c).1
      obtain ⟨i, hi, rfl⟩ := rg (B := 1) (Classical.not_not.mp c).2 (by decide)
      rw [nI_clamp (by omega), nI_clamp (by omega)]
      exact IA_free hA (fun q hq => by unfold ropeS; rw [upd_ne _ _ (by omega), upd_ne _ _ (by omega)])
theorem i_share (hA : IA α) (g s : Int32) : IA (sp_share α g s).2 := by
  unfold sp_share
  split
  · exact hA
  · dsimp only
    split
    · exact hA
    · exact IA_free hA (fun q hq => shr_keep _ _ _ _ 14 (by omega) q (by omega))
/-- counts, lanes, rules, gliders of the present -/
theorem IA_more {ν' : Nu} (hA : IA α) (hc : isN (ν' 3) 11 ∧ isN (ν' 4) 15 ∧ isN (ν' 5) 4 ∧ isN (ν' 6) 4) (c3 : cnt (aN α) 3 ≤ cnt ν' 3) (c4 : cnt (aN α) 4 ≤ cnt ν' 4) (hl : ∀ u, u < 4 → isN (ν' (16 + u)) 6) (hx : ∀ k, k < 6 → hb (ν' (10 + k)) (nI k) = true) (h26 : ∃ f, 1 ≤ f ∧ f ≤ 20 ∧ ν' 26 = nI f) (h27 : 0 ≤ ν' 27) (hg : ∀ g, g < cnt ν' 3 → ∃ o, o < 2 ^ cnt ν' 4 ∧ aG ν' g 3 = nI o)
    (hk : ∀ j, (j = 0 ∨ j = 7 ∨ j = 8 ∨ 146 ≤ j) → ν' j = aN α j) : IA (sN α ν') :=
  IA_now hA (IN_more hA.1 hc c3 c4 hl hx h26 h27 hg hk) (by rw [cntE (hk 8 (by omega))]; exact Nat.le_refl _)
theorem IA_lane {ν' : Nu} (hA : IA α) (hl : ∀ u, u < 4 → isN (ν' (16 + u)) 6) (hx : ∀ k, k < 6 → hb (ν' (10 + k)) (nI k) = true) (h26 : ∃ f, 1 ≤ f ∧ f ≤ 20 ∧ ν' 26 = nI f) (h27 : 0 ≤ ν' 27) (hk : ∀ j, (j < 10 ∨ 30 ≤ j) → ν' j = aN α j) : IA (sN α ν') := by
  have i := hA.i
  have n3 := i.n3.2
  have e3 := cntE (hk 3 (by omega))
  have e4 := cntE (hk 4 (by omega))
  refine IA_more hA (by rw [hk 3 (by omega), hk 4 (by omega), hk 5 (by omega), hk 6 (by omega)]; exact ⟨i.2.1.1, i.2.1.2.1, i.2.1.2.2.1, i.2.1.2.2.2.1⟩) (by omega) (by omega) hl hx h26 h27 (fun g hg => ?_) (fun j hj => hk j (by omega))
  rw [e3] at hg
  rw [e4]
  obtain ⟨o, ho, e⟩ := i.2.2.2.2.1 g hg
  refine ⟨o, ho, ?_⟩
  unfold aG at *
  rw [hk _ (by omega)]; exact e
theorem i_lane (hA : IA α) (w l : Int32) : IA (sp_lane α w l).2 := by
  have i := hA.i
  unfold sp_lane
  split
  · exact hA
  · rename_i c
    obtain ⟨j, hj, rfl⟩ := rg (B := 3) (Classical.not_not.mp c).1 (by decide)
    obtain ⟨k, hk, rfl⟩ := rg (B := 5) (Classical.not_not.mp c).2 (by decide)
    rw [nI_clamp (by omega)]
    refine IA_lane hA (fun u hu => ?_) (fun q hq => by rw [upd_ne _ _ (by omega)]; exact i.2.2.1.2 q hq) (by rw [upd_ne _ _ (by omega)]; exact i.2.2.2.1) (by rw [upd_ne _ _ (by omega)]; exact hA.x) (fun q hq => upd_ne _ _ (by omega))
    by_cases e : u = j
    · subst e; rw [upd_at]; exact ⟨k, by omega, rfl⟩
    · rw [upd_ne _ _ (by omega)]; exact i.2.2.1.1 u hu
theorem IA_bit {q k : Nat} {x : Int32} (hA : IA α) (hq : q < 6) (hk : k < 6) (hne : k ≠ q) : IA (sN α (upd (aN α) (10 + q) (wb (aN α (10 + q)) (nI k) x))) := by
  have i := hA.i
  refine IA_lane hA (fun u hu => by rw [upd_ne _ _ (by omega)]; exact i.2.2.1.1 u hu) (fun j hj => ?_) (by rw [upd_ne _ _ (by omega)]; exact i.2.2.2.1) (by rw [upd_ne _ _ (by omega)]; exact hA.x) (fun j hj => upd_ne _ _ (by omega))
  by_cases e : j = q
  · subst e
    rw [upd_at, hb_wb (by omega) (by omega), if_neg (fun z => hne z.symm)]; exact i.2.2.1.2 j hj
  · rw [upd_ne _ _ (by omega)]; exact i.2.2.1.2 j hj
theorem i_cross (hA : IA α) (l o is : Int32) : IA (sp_cross α l o is).2 := by
  unfold sp_cross
  split
  · exact hA
  · rename_i c
    obtain ⟨h1, h2, h3⟩ := Classical.not_not.mp c
    obtain ⟨j, hj, rfl⟩ := rg (B := 5) h1 (by decide)
    obtain ⟨k, hk, rfl⟩ := rg (B := 5) h2 (by decide)
    have hne : j ≠ k := fun z => h3 (by rw [z])
    rw [nI_clamp (by omega), nI_clamp (by omega)]
    exact IA_bit (α := (bitS α (10 + k) (nI j) is).2) (IA_bit hA (by omega) (by omega) hne) (by omega) (by omega) (fun z => hne z.symm)
theorem i_rule (hA : IA α) (w v : Int32) : IA (sp_rule α w v).2 := by
  have i := hA.i
  unfold sp_rule
  by_cases c : (if w = 0 then 1 ≤ v ∧ v ≤ 20 else if w = 1 then 0 ≤ v ∧ v ≤ 900 else if w = 2 then 1 ≤ v ∧ v ≤ 60 else w = 3 ∧ 0 ≤ v ∧ v ≤ 20)
  · rw [if_neg (not_not_intro c)]
    have key : ∀ q, q < 4 → (q = 0 → ∃ f, 1 ≤ f ∧ f ≤ 20 ∧ v = nI f) → (q = 1 → 0 ≤ v) → IA (becS α (26 + q) v).2 := fun q hq h0 h1 => by
      refine IA_lane hA (fun u hu => by rw [upd_ne _ _ (by omega)]; exact i.2.2.1.1 u hu) (fun j hj => by rw [upd_ne _ _ (by omega)]; exact i.2.2.1.2 j hj) ?_ ?_ (fun j hj => upd_ne _ _ (by omega))
      · by_cases e : q = 0
        · subst e; rw [upd_at]; exact h0 rfl
        · rw [upd_ne _ _ (by omega)]; exact i.2.2.2.1
      · by_cases e : q = 1
        · subst e; rw [upd_at]; exact h1 rfl
        · rw [upd_ne _ _ (by omega)]; exact hA.x
    by_cases e0 : w = 0
    · rw [if_pos e0] at c
      subst e0
      obtain ⟨f, hf, rfl⟩ := rgL (B := 20) c (by decide) (by decide)
      exact key 0 (by decide) (fun _ => ⟨f, (nI_leI (a := 1) (by decide) (by omega)).mp c.1, hf, rfl⟩) (fun z => absurd z (by decide))
    · rw [if_neg e0] at c
      by_cases e1 : w = 1
      · rw [if_pos e1] at c
        subst e1
        exact key 1 (by decide) (fun z => absurd z (by decide)) (fun _ => c.1)
      · rw [if_neg e1] at c
        by_cases e2 : w = 2
        · subst e2; exact key 2 (by decide) (fun z => absurd z (by decide)) (fun z => absurd z (by decide))
        · rw [if_neg e2] at c
          rw [c.1]; exact key 3 (by decide) (fun z => absurd z (by decide)) (fun z => absurd z (by decide))
  · rw [if_pos c]; exact hA
theorem i_winch (hA : IA α) : IA (sp_winch α).2 := by
  have i := hA.i
  have n3 := i.n3.2
  have n4 := i.n4.2
  obtain ⟨h0, n0⟩ := i.n5
  unfold sp_winch
  split
  · exact hA
  · rename_i c
    have hlt : cnt (aN α) 5 < 3 := by
      rcases Nat.lt_or_ge (cnt (aN α) 5) 3 with z | z
      · exact z
      · exact absurd (by rw [h0, show cnt (aN α) 5 = 3 by omega]; rfl) c
    obtain ⟨ν', hν⟩ : ∃ ν', ν' = upd (upd (upd (upd (upd (aN α) (33 + 4 * (cnt (aN α) 5) + 2 * 0) 0) (33 + 4 * (cnt (aN α) 5) + 2 * 0 + 1) (-1)) (33 + 4 * (cnt (aN α) 5) + 2 * 1) 0) (33 + 4 * (cnt (aN α) 5) + 2 * 1 + 1) (-1)) 5 ((upd (upd (upd (upd (aN α) (33 + 4 * (cnt (aN α) 5) + 2 * 0) 0) (33 + 4 * (cnt (aN α) 5) + 2 * 0 + 1) (-1)) (33 + 4 * (cnt (aN α) 5) + 2 * 1) 0) (33 + 4 * (cnt (aN α) 5) + 2 * 1 + 1) (-1)) 5 + 1) := ⟨_, rfl⟩
    show IA (sN α (upd (upd (upd (upd (upd (aN α) (33 + 4 * (cnt (aN α) 5) + 2 * 0) 0) (33 + 4 * (cnt (aN α) 5) + 2 * 0 + 1) (-1)) (33 + 4 * (cnt (aN α) 5) + 2 * 1) 0) (33 + 4 * (cnt (aN α) 5) + 2 * 1 + 1) (-1)) 5 ((upd (upd (upd (upd (aN α) (33 + 4 * (cnt (aN α) 5) + 2 * 0) 0) (33 + 4 * (cnt (aN α) 5) + 2 * 0 + 1) (-1)) (33 + 4 * (cnt (aN α) 5) + 2 * 1) 0) (33 + 4 * (cnt (aN α) 5) + 2 * 1 + 1) (-1)) 5 + 1)))
    rw [← hν]
    obtain ⟨w, hw⟩ : ∃ w, cnt (aN α) 5 = w := ⟨_, rfl⟩
    rw [hw] at hν hlt h0
    have hk : ∀ j, (j < 33 ∨ 45 ≤ j ∨ (j < 33)) → j ≠ 5 → ν' j = aN α j := fun j h1 h2 => by
      rw [hν, upd_ne _ _ h2, upd_ne _ _ (by omega), upd_ne _ _ (by omega), upd_ne _ _ (by omega), upd_ne _ _ (by omega)]
    have e0 : ν' 5 = nI (w + 1) := by rw [hν, upd_at, upd_ne _ _ (by omega), upd_ne _ _ (by omega), upd_ne _ _ (by omega), upd_ne _ _ (by omega), h0]; exact nI_1 w
    have cw : cnt ν' 5 = w + 1 := cnt_of e0 (by omega)
    refine IA_more hA ⟨by rw [hk 3 (by omega) (by omega)]; exact i.2.1.1, by rw [hk 4 (by omega) (by omega)]; exact i.2.1.2.1, by rw [e0]; exact ⟨w + 1, by omega, rfl⟩, by rw [hk 6 (by omega) (by omega)]; exact i.2.1.2.2.2.1⟩ (by rw [cntE (hk 3 (by omega) (by omega))]; exact Nat.le_refl _) (by rw [cntE (hk 4 (by omega) (by omega))]; exact Nat.le_refl _) (fun u hu => by rw [hk _ (by omega) (by omega)]; exact i.2.2.1.1 u hu) (fun k hk6 => by rw [hk _ (by omega) (by omega)]; exact i.2.2.1.2 k hk6) (by rw [hk 26 (by omega) (by omega)]; exact i.2.2.2.1) (by rw [hk 27 (by omega) (by omega)]; exact hA.x) (fun g hg => ?_) (fun j hj => hk j (by omega) (by omega))
    rw [cntE (hk 3 (by omega) (by omega))] at hg
    obtain ⟨o, ho, e⟩ := i.2.2.2.2.1 g hg
    rw [cntE (hk 4 (by omega) (by omega))]
    refine ⟨o, ho, ?_⟩
    unfold aG at *
    rw [hk _ (by omega) (by omega)]; exact e
theorem i_plane (hA : IA α) : IA (sp_plane α).2 := by
  have i := hA.i
  have n3 := i.n3.2
  have n4 := i.n4.2
  obtain ⟨h0, n0⟩ := i.n6
  unfold sp_plane
  split
  · exact hA
  · rename_i c
    have hlt : cnt (aN α) 6 < 3 := by
      rcases Nat.lt_or_ge (cnt (aN α) 6) 3 with z | z
      · exact z
      · exact absurd (by rw [h0, show cnt (aN α) 6 = 3 by omega]; rfl) c
    obtain ⟨ν', hν⟩ : ∃ ν', ν' = upd (upd (aN α) (30 + (cnt (aN α) 6)) (-1)) 6 ((upd (aN α) (30 + (cnt (aN α) 6)) (-1)) 6 + 1) := ⟨_, rfl⟩
    show IA (sN α (upd (upd (aN α) (30 + (cnt (aN α) 6)) (-1)) 6 ((upd (aN α) (30 + (cnt (aN α) 6)) (-1)) 6 + 1)))
    rw [← hν]
    obtain ⟨w, hw⟩ : ∃ w, cnt (aN α) 6 = w := ⟨_, rfl⟩
    rw [hw] at hν hlt h0
    have hk : ∀ j, (j < 30 ∨ 33 ≤ j ∨ (j < 30)) → j ≠ 6 → ν' j = aN α j := fun j h1 h2 => by
      rw [hν, upd_ne _ _ h2, upd_ne _ _ (by omega)]
    have e0 : ν' 6 = nI (w + 1) := by rw [hν, upd_at, upd_ne _ _ (by omega), h0]; exact nI_1 w
    have cw : cnt ν' 6 = w + 1 := cnt_of e0 (by omega)
    refine IA_more hA ⟨by rw [hk 3 (by omega) (by omega)]; exact i.2.1.1, by rw [hk 4 (by omega) (by omega)]; exact i.2.1.2.1, by rw [hk 5 (by omega) (by omega)]; exact i.2.1.2.2.1, by rw [e0]; exact ⟨w + 1, by omega, rfl⟩⟩ (by rw [cntE (hk 3 (by omega) (by omega))]; exact Nat.le_refl _) (by rw [cntE (hk 4 (by omega) (by omega))]; exact Nat.le_refl _) (fun u hu => by rw [hk _ (by omega) (by omega)]; exact i.2.2.1.1 u hu) (fun k hk6 => by rw [hk _ (by omega) (by omega)]; exact i.2.2.1.2 k hk6) (by rw [hk 26 (by omega) (by omega)]; exact i.2.2.2.1) (by rw [hk 27 (by omega) (by omega)]; exact hA.x) (fun g hg => ?_) (fun j hj => hk j (by omega) (by omega))
    rw [cntE (hk 3 (by omega) (by omega))] at hg
    obtain ⟨o, ho, e⟩ := i.2.2.2.2.1 g hg
    rw [cntE (hk 4 (by omega) (by omega))]
    refine ⟨o, ho, ?_⟩
    unfold aG at *
    rw [hk _ (by omega) (by omega)]; exact e
theorem i_person (hA : IA α) (p q : Int32) : IA (sp_person α p q).2 := by
  have i := hA.i
  have n3 := i.n3.2
  have n4 := i.n4.2
  obtain ⟨h0, n0⟩ := i.n4
  unfold sp_person
  split
  · exact hA
  · rename_i c0
    split
    · exact hA
    · rename_i c
      have hlt : cnt (aN α) 4 < 14 := by
        rcases Nat.lt_or_ge (cnt (aN α) 4) 14 with z | z
        · exact z
        · exact absurd (by rw [h0, show cnt (aN α) 4 = 14 by omega]; rfl) c
      obtain ⟨ν', hν⟩ : ∃ ν', ν' = upd (upd (upd (upd (upd (aN α) (90 + 4 * (cnt (aN α) 4)) p) (90 + 4 * (cnt (aN α) 4) + 1) q) (90 + 4 * (cnt (aN α) 4) + 2) (-1)) (90 + 4 * (cnt (aN α) 4) + 3) 0) 4 ((upd (upd (upd (upd (aN α) (90 + 4 * (cnt (aN α) 4)) p) (90 + 4 * (cnt (aN α) 4) + 1) q) (90 + 4 * (cnt (aN α) 4) + 2) (-1)) (90 + 4 * (cnt (aN α) 4) + 3) 0) 4 + 1) := ⟨_, rfl⟩
      show IA (sN α (upd (upd (upd (upd (upd (aN α) (90 + 4 * (cnt (aN α) 4)) p) (90 + 4 * (cnt (aN α) 4) + 1) q) (90 + 4 * (cnt (aN α) 4) + 2) (-1)) (90 + 4 * (cnt (aN α) 4) + 3) 0) 4 ((upd (upd (upd (upd (aN α) (90 + 4 * (cnt (aN α) 4)) p) (90 + 4 * (cnt (aN α) 4) + 1) q) (90 + 4 * (cnt (aN α) 4) + 2) (-1)) (90 + 4 * (cnt (aN α) 4) + 3) 0) 4 + 1)))
      rw [← hν]
      obtain ⟨w, hw⟩ : ∃ w, cnt (aN α) 4 = w := ⟨_, rfl⟩
      rw [hw] at hν hlt h0
      have hk : ∀ j, (j < 90 ∨ 146 ≤ j ∨ (j < 90)) → j ≠ 4 → ν' j = aN α j := fun j h1 h2 => by
        rw [hν, upd_ne _ _ h2, upd_ne _ _ (by omega), upd_ne _ _ (by omega), upd_ne _ _ (by omega), upd_ne _ _ (by omega)]
      have e0 : ν' 4 = nI (w + 1) := by rw [hν, upd_at, upd_ne _ _ (by omega), upd_ne _ _ (by omega), upd_ne _ _ (by omega), upd_ne _ _ (by omega), h0]; exact nI_1 w
      have cw : cnt ν' 4 = w + 1 := cnt_of e0 (by omega)
      refine IA_more hA ⟨by rw [hk 3 (by omega) (by omega)]; exact i.2.1.1, by rw [e0]; exact ⟨w + 1, by omega, rfl⟩, by rw [hk 5 (by omega) (by omega)]; exact i.2.1.2.2.1, by rw [hk 6 (by omega) (by omega)]; exact i.2.1.2.2.2.1⟩ (by rw [cntE (hk 3 (by omega) (by omega))]; exact Nat.le_refl _) (by omega) (fun u hu => by rw [hk _ (by omega) (by omega)]; exact i.2.2.1.1 u hu) (fun k hk6 => by rw [hk _ (by omega) (by omega)]; exact i.2.2.1.2 k hk6) (by rw [hk 26 (by omega) (by omega)]; exact i.2.2.2.1) (by rw [hk 27 (by omega) (by omega)]; exact hA.x) (fun g hg => ?_) (fun j hj => hk j (by omega) (by omega))
      rw [cntE (hk 3 (by omega) (by omega))] at hg
      obtain ⟨o, ho, e⟩ := i.2.2.2.2.1 g hg
      rw [cw]
      refine ⟨o, Nat.lt_of_lt_of_le ho (Nat.pow_le_pow_right (by decide) (by omega)), ?_⟩
      unfold aG at *
      rw [hk _ (by omega) (by omega)]; exact e
theorem i_glider (hA : IA α) (s m l o : Int32) : IA (sp_glider α s m l o).2 := by
  have i := hA.i
  have n3 := i.n3.2
  have n4 := i.n4.2
  obtain ⟨h0, n0⟩ := i.n3
  unfold sp_glider
  split
  · exact hA
  · rename_i c0
    split
    · exact hA
    · rename_i c
      have hlt : cnt (aN α) 3 < 10 := by
        rcases Nat.lt_or_ge (cnt (aN α) 3) 10 with z | z
        · exact z
        · exact absurd (by rw [h0, show cnt (aN α) 3 = 10 by omega]; rfl) c
      obtain ⟨ν', hν⟩ : ∃ ν', ν' = upd (upd (upd (upd (upd (aN α) (50 + 4 * (cnt (aN α) 3)) s) (50 + 4 * (cnt (aN α) 3) + 1) m) (50 + 4 * (cnt (aN α) 3) + 2) l) (50 + 4 * (cnt (aN α) 3) + 3) o) 3 ((upd (upd (upd (upd (aN α) (50 + 4 * (cnt (aN α) 3)) s) (50 + 4 * (cnt (aN α) 3) + 1) m) (50 + 4 * (cnt (aN α) 3) + 2) l) (50 + 4 * (cnt (aN α) 3) + 3) o) 3 + 1) := ⟨_, rfl⟩
      show IA (sN α (upd (upd (upd (upd (upd (aN α) (50 + 4 * (cnt (aN α) 3)) s) (50 + 4 * (cnt (aN α) 3) + 1) m) (50 + 4 * (cnt (aN α) 3) + 2) l) (50 + 4 * (cnt (aN α) 3) + 3) o) 3 ((upd (upd (upd (upd (aN α) (50 + 4 * (cnt (aN α) 3)) s) (50 + 4 * (cnt (aN α) 3) + 1) m) (50 + 4 * (cnt (aN α) 3) + 2) l) (50 + 4 * (cnt (aN α) 3) + 3) o) 3 + 1)))
      rw [← hν]
      obtain ⟨w, hw⟩ : ∃ w, cnt (aN α) 3 = w := ⟨_, rfl⟩
      rw [hw] at hν hlt h0
      have hk : ∀ j, (j < 50 ∨ 90 ≤ j ∨ (j < 50 + 4 * w)) → j ≠ 3 → ν' j = aN α j := fun j h1 h2 => by
        rw [hν, upd_ne _ _ h2, upd_ne _ _ (by omega), upd_ne _ _ (by omega), upd_ne _ _ (by omega), upd_ne _ _ (by omega)]
      have e0 : ν' 3 = nI (w + 1) := by rw [hν, upd_at, upd_ne _ _ (by omega), upd_ne _ _ (by omega), upd_ne _ _ (by omega), upd_ne _ _ (by omega), h0]; exact nI_1 w
      have cw : cnt ν' 3 = w + 1 := cnt_of e0 (by omega)
      refine IA_more hA ⟨by rw [e0]; exact ⟨w + 1, by omega, rfl⟩, by rw [hk 4 (by omega) (by omega)]; exact i.2.1.2.1, by rw [hk 5 (by omega) (by omega)]; exact i.2.1.2.2.1, by rw [hk 6 (by omega) (by omega)]; exact i.2.1.2.2.2.1⟩ (by omega) (by rw [cntE (hk 4 (by omega) (by omega))]; exact Nat.le_refl _) (fun u hu => by rw [hk _ (by omega) (by omega)]; exact i.2.2.1.1 u hu) (fun k hk6 => by rw [hk _ (by omega) (by omega)]; exact i.2.2.1.2 k hk6) (by rw [hk 26 (by omega) (by omega)]; exact i.2.2.2.1) (by rw [hk 27 (by omega) (by omega)]; exact hA.x) (fun g hg => ?_) (fun j hj => hk j (by omega) (by omega))
      rw [cw] at hg
      rw [cntE (hk 4 (by omega) (by omega))]
      by_cases e : g = w
      · subst e
        obtain ⟨-, -, -, c1, c2⟩ := Classical.not_not.mp c0
        have ep : (1 : Int32) <<< (aN α 4 &&& 31) - 1 = nI (2 ^ cnt (aN α) 4 - 1) := by
          rw [i.n4.1, one_shl (by omega)]
          have h9 := nI_pred (2 ^ cnt (aN α) 4 - 1)
          rw [show 2 ^ cnt (aN α) 4 - 1 + 1 = 2 ^ cnt (aN α) 4 by have := Nat.pow_pos (n := cnt (aN α) 4) (show 0 < 2 by decide); omega] at h9
          exact h9
        rw [ep] at c2
        have hp : 2 ^ cnt (aN α) 4 ≤ 2 ^ 14 := Nat.pow_le_pow_right (by decide) n4
        have hp0 := Nat.pow_pos (n := cnt (aN α) 4) (show 0 < 2 by decide)
        obtain ⟨z, hz, rfl⟩ := rg ⟨c1, c2⟩ (by omega)
        refine ⟨z, by omega, ?_⟩
        unfold aG
        rw [hν, upd_ne _ _ (by omega), upd_at]
      · obtain ⟨z, hz, e2⟩ := i.2.2.2.2.1 g (by omega)
        refine ⟨z, hz, ?_⟩
        unfold aG at *
        rw [hk _ (by omega) (by omega)]; exact e2
end KEEP
