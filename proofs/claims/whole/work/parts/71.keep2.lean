/-! ===== each call leaves what is well made well made: the rest ===== -/
section KEEP2
variable {α : Al}
theorem i_back (hA : IA α) (a : Int32) : IA (sp_back α a).2 := by
  have i := hA.i
  have n7 := i.n7.2
  unfold sp_back
  split
  · exact hA
  · rename_i c
    split
    · exact hA
    · obtain ⟨j, hj, rfl⟩ := (is_iff i.n7.1 (by omega)).mp (Classical.not_not.mp c)
      rw [nI_clamp (by omega)]
      exact IA_now hA (IN_back hA.1 hj) (by rw [cntE (upd_ne _ _ (by omega))]; exact Nat.le_refl _)
theorem i_ask (hA : IA α) (p w g h m : Int32) : IA (sp_ask α p w g h m).2 := by
  have i := hA.i
  have n3 := i.n3.2
  have n4 := i.n4.2
  obtain ⟨h7, n7⟩ := i.n7
  unfold sp_ask
  split
  · exact hA
  · rename_i c0
    split
    · exact hA
    · rename_i c
      have hlt : cnt (aN α) 7 < 20 := by
        rcases Nat.lt_or_ge (cnt (aN α) 7) 20 with z | z
        · exact z
        · exact absurd (by rw [h7, show cnt (aN α) 7 = 20 by omega]; rfl) c
      obtain ⟨c1, c2, c3, c4, c5, c6⟩ := Classical.not_not.mp c0
      obtain ⟨k, e, hk, he⟩ := how_k ⟨c4, c5⟩
      have hN : IN (askN (aN α) (cnt (aN α) 7) p w g (jrem h 10) (h / 10) m) := IN_ask hA.1 h7 hlt ((is_iff i.n4.1 (by omega)).mp c1) (c2.imp id (fun z => (is_iff i.n4.1 (by omega)).mp z.1)) ((is_iff i.n3.1 (by omega)).mp c3) hk he
      have e7 : upd (upd (upd (upd (upd (upd (upd (upd (upd (upd (aN α) (146 + 10 * cnt (aN α) 7 + 0) p) (146 + 10 * cnt (aN α) 7 + 1) w) (146 + 10 * cnt (aN α) 7 + 2) g) (146 + 10 * cnt (aN α) 7 + 3) (jrem h 10)) (146 + 10 * cnt (aN α) 7 + 4) (h / 10)) (146 + 10 * cnt (aN α) 7 + 5) m) (146 + 10 * cnt (aN α) 7 + 6) 0) (146 + 10 * cnt (aN α) 7 + 7) (-1)) (146 + 10 * cnt (aN α) 7 + 8) (-1)) (146 + 10 * cnt (aN α) 7 + 9) (-1) 7 = aN α 7 := by
        simp (disch := omega) only [upd_ne]
      have key := IA_now hA hN (by rw [cntE (askN_ne (by omega) (by omega))]; exact Nat.le_refl _)
      unfold askN at key
      dsimp only
      rw [e7]
      exact key
theorem i_run (hA : IA α) (n : Int32) : IA (sp_run α n).2 := by
  obtain ⟨m0, hm9, hm0⟩ := hA.m
  unfold sp_run
  split
  · exact hA
  · rename_i c0
    split
    · exact hA
    · rename_i c
      obtain ⟨j, hj, rfl⟩ := rgL (B := 100) (Classical.not_not.mp c0) (by decide) (by decide)
      rw [hm0, nI_add] at c
      have hle : m0 + j ≤ 900 := (nI_leI (b := 900) (by omega) (by decide)).mp (Int32.not_lt.mp c)
      rw [nI_clamp (by omega)]
      exact IA_now hA (IN_run hA.1 hm0 hle) (by rw [cntE (KP_run hA.i hm0 j (by omega)).2.2.1]; exact Nat.le_refl _)
theorem i_wipe (hA : IA α) : IA (sp_wipe α).2 := ⟨hA.1, hA.2.1, hA.2.2.1, hA.2.2.2.1, ⟨0, by decide, rfl, fun i hi => absurd hi (Nat.not_lt_zero i)⟩, hA.2.2.2.2.2⟩
theorem IA_wip (hA : IA α) : IA (wipA α) := ⟨hA.1, hA.2.1, hA.2.2.1, hA.2.2.2.1, ⟨0, by decide, rfl, fun i hi => absurd hi (Nat.not_lt_zero i)⟩, hA.2.2.2.2.2⟩
theorem i_text (hA : IA α) (u : Int32) : IA (sp_text α u).2 := by
  have i := hA.i
  obtain ⟨t, ht, hS, hby⟩ := hA.2.2.2.2.1
  unfold sp_text
  split
  · exact hA
  · rename_i c0
    split
    · exact hA
    · rename_i c
      have hlt : cnt (aN α) 8 < 6 := by
        rcases Nat.lt_or_ge (cnt (aN α) 8) 6 with z | z
        · exact z
        · exact absurd (by rw [i.n8.1, show cnt (aN α) 8 = 6 by have := i.n8.2; omega]; rfl) c
      obtain ⟨k, hk, rfl⟩ := rg (B := 1) (Classical.not_not.mp c0) (by decide)
      have hn : (aS α).toNatClampNeg ≤ 100 := by rw [hS, nI_clamp (by omega)]; exact ht
      cases hr : readT (aT α) (aS α).toNatClampNeg with
      | inr q => exact IA_wip hA
      | inl z =>
        obtain ⟨q, s⟩ := z
        have hg : GC 100 s := by
          unfold readT at hr
          have hp := eit_good (t := aT α) (n := (aS α).toNatClampNeg) (lvl_good (t := aT α) 6).1 (lvl_good (t := aT α) 6).2 0 (Nat.zero_le _)
          cases he : eitP (aT α) (aS α).toNatClampNeg (lvl (aT α) (aS α).toNatClampNeg 6).1 (lvl (aT α) (aS α).toNatClampNeg 6).2 0 with
          | inr q' => rw [he] at hr; cases hr
          | inl z =>
            obtain ⟨q', s'⟩ := z
            rw [he] at hr hp
            have hr : (if sortS (aT α) (aS α).toNatClampNeg q' = 0 then pOk q' s' else pNo q') = .inl (q, s) := hr
            split at hr
            · cases hr
              exact GC_mono hp.2.2 (by have := hp.2.1; omega)
            · cases hr
        exact IA_now (α := wipA α) (IA_wip hA) (IN_text hA.1 rfl hlt (show k < 2 by omega) rfl hg) (by rw [tx_cnt rfl i.n8.1 hlt]; show cnt (aN α) 8 ≤ _; omega)
theorem fd_by (b : Int32) : ∀ (n s : Nat) (t : Nu), (∀ i, i < s → ∃ x, x < 256 ∧ t i = nI x) → ∀ i, i < s + n → ∃ x, x < 256 ∧ fdT t s b n i = nI x := by
  intro n
  induction n with
  | zero => intro s t h i hi; exact h i (by omega)
  | succ n ih =>
    intro s t h i hi
    refine ih (s + 1) _ (fun j hj => ?_) i (by omega)
    by_cases e : j = s
    · subst e; rw [upd_at]; exact bytes256 _
    · rw [upd_ne _ _ e]; exact h j (by omega)
theorem i_feed (hA : IA α) (b n : Int32) : IA (sp_feed α b n).2 := by
  obtain ⟨t, ht, hS, hby⟩ := hA.2.2.2.2.1
  unfold sp_feed
  split
  · exact hA
  · rename_i c0
    split
    · exact hA
    · rename_i c
      obtain ⟨j, hj, rfl⟩ := rgL (B := 4) (Classical.not_not.mp c0) (by decide) (by decide)
      rw [hS, nI_add] at c ⊢
      have hle : t + j ≤ 100 := (nI_leI (b := 100) (by omega) (by decide)).mp (Int32.not_lt.mp c)
      rw [nI_clamp (by omega), nI_clamp (by omega)]
      exact ⟨hA.1, hA.2.1, hA.2.2.1, hA.2.2.2.1, ⟨t + j, hle, rfl, fd_by b j t _ hby⟩, hA.2.2.2.2.2⟩
theorem IA_sheet {w z u : Nu} (hA : IA α) (h : ∀ s, s < 4 → ∃ n, n ≤ 24 ∧ z s = nI n) : IA (sW α w z u) := ⟨hA.1, hA.2.1, hA.2.2.1, hA.2.2.2.1, hA.2.2.2.2.1, h⟩
theorem i_sheet (hA : IA α) (s b n : Int32) : IA (sp_sheet α s b n).2 := by
  unfold sp_sheet
  split
  · exact hA
  · split
    · exact hA
    · rename_i c1
      split
      · exact hA
      · rename_i c2
        refine IA_sheet hA (fun q hq => ?_)
        by_cases e : q = s.toNatClampNeg
        · rw [e, upd_at]
          split
          · exact ⟨0, by decide, rfl⟩
          · obtain ⟨k, hk, rfl⟩ := rg (B := 24) (w := n) ⟨Int32.not_lt.mp c1, Int32.not_lt.mp c2⟩ (by decide)
            exact ⟨k, hk, rfl⟩
        · rw [upd_ne _ _ e]; exact hA.z q hq
theorem i_write (hA : IA α) (s x v : Int32) : IA (sp_write α s x v).2 := by
  unfold sp_write
  split
  · exact hA
  · split
    · exact hA
    · split
      · exact hA
      · exact IA_sheet hA hA.z
theorem i_copy (hA : IA α) (s f t p n : Int32) : IA (sp_copy α s f t p n).2 := by
  unfold sp_copy
  split
  · exact hA
  · split
    · exact hA
    · split
      · exact hA
      · split
        · exact hA
        · exact IA_sheet hA hA.z
theorem i_image (hA : IA α) : IA (sp_image α).2 := ⟨hA.1, fun _ => ⟨hA.1, Nat.le_refl _⟩, hA.i.2.2.2.2.2.2.2.2, Or.inr rfl, hA.2.2.2.2.1, hA.2.2.2.2.2⟩
theorem i_tear (hA : IA α) : IA (sp_tear α).2 := ⟨hA.1, fun z => absurd rfl z, hA.2.2.1, Or.inl rfl, hA.2.2.2.2.1, hA.2.2.2.2.2⟩
theorem i_undo (hA : IA α) : IA (sp_undo α).2 := by
  unfold sp_undo
  split
  · exact hA
  · rename_i c
    exact ⟨(hA.2.1 c).1, fun _ => ⟨(hA.2.1 c).1, Nat.le_refl _⟩, hA.2.2.1, hA.2.2.2.1, hA.2.2.2.2.1, hA.2.2.2.2.2⟩
end KEEP2
