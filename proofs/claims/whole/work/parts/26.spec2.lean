/-! ===== what each call answers and leaves, over the view of the model ===== -/
def MT (σ : Sg) : Prop := ∀ j, 970 ≤ j → σ 138 j = 0
def MPo (σ : Sg) (q : Int32 × Al) (v : Int32) (τ : Sg) : Prop := v = q.1 ∧ mv τ = q.2 ∧ (∀ k, k < 135 → τ k = σ k) ∧ (MT σ → MT τ)
theorem frU {σ τ : Sg} {c j : Nat} {x : Int32} (hc : 135 ≤ c) (h : ∀ k, k < 135 → τ k = σ k) : ∀ k, k < 135 → up τ c j x k = σ k := fun k hk => by
  rw [up_ne _ _ _ (by omega)]; exact h k hk
theorem mtU {σ τ : Sg} {c j : Nat} {x : Int32} (hc : c ≠ 138) (h : MT σ → MT τ) : MT σ → MT (up τ c j x) := fun q k hk => by
  rw [up_ne _ _ _ (Ne.symm hc)]; exact h q k hk
theorem mtE {σ τ : Sg} {L : List Nat} (h : Eqx L σ τ) (h8 : 138 ∉ L) : MT σ → MT τ := fun q k hk => by rw [h 138 h8]; exact q k hk
theorem frE {σ τ : Sg} {L : List Nat} (h : Eqx L σ τ) (hL : ∀ k, k < 135 → k ∉ L) : ∀ k, k < 135 → τ k = σ k := fun k hk => h k (hL k hk)
def FB (α : Al) : Int32 × Al := fnd α 0 (-1000001)
def FF (α : Al) : Int32 × Al := fnd α 1 (-1000002)
def FK (α : Al) : Int32 × Al := fnd α 2 (-1000003)
def FN (α : Al) : Int32 × Al := fnd α 3 (-1000004)
def FS (α : Al) : Int32 × Al := fnd α 4 (-1000005)
def FM (α : Al) : Int32 × Al := fnd α 5 (-1000006)
def FZ (α : Al) : Int32 × Al := fnd α 6 (-1000007)
def inC (α : Al) (c : Nat) (k : Int32) : Prop := 0 ≤ k ∧ k ≤ aN α c - 1
def inD (α : Al) (c : Nat) (k : Int32) : Decidable (inC α c k) := by unfold inC; exact inferInstance
def sp_glider (α : Al) (s m l o : Int32) : Int32 × Al :=
  if ¬ ((1 ≤ s ∧ s ≤ 2) ∧ (60 ≤ m ∧ m ≤ 250) ∧ (0 ≤ l ∧ l ≤ 3) ∧ (0 ≤ o ∧ o ≤ (1 : Int32) <<< (aN α 4 &&& 31) - 1)) then FB α else if aN α 3 = 10 then FF α else
  let ν := upd (upd (upd (upd (aN α) (50 + 4 * cnt (aN α) 3) s) (50 + 4 * cnt (aN α) 3 + 1) m) (50 + 4 * cnt (aN α) 3 + 2) l) (50 + 4 * cnt (aN α) 3 + 3) o
  (aN α 3, sN α (upd ν 3 (ν 3 + 1)))
def sp_person (α : Al) (w p : Int32) : Int32 × Al :=
  if ¬ ((40 ≤ w ∧ w ≤ 130) ∧ p &&& (-127) = 0) then FB α else if aN α 4 = 14 then FF α else
  let ν := upd (upd (upd (upd (aN α) (90 + 4 * cnt (aN α) 4) w) (90 + 4 * cnt (aN α) 4 + 1) p) (90 + 4 * cnt (aN α) 4 + 2) (-1)) (90 + 4 * cnt (aN α) 4 + 3) 0
  (aN α 4, sN α (upd ν 4 (ν 4 + 1)))
def sp_winch (α : Al) : Int32 × Al := if aN α 5 = 3 then FF α else
  let w := cnt (aN α) 5
  let ν := upd (upd (upd (upd (aN α) (33 + 4 * w + 2 * 0) 0) (33 + 4 * w + 2 * 0 + 1) (-1)) (33 + 4 * w + 2 * 1) 0) (33 + 4 * w + 2 * 1 + 1) (-1)
  (aN α 5, sN α (upd ν 5 (ν 5 + 1)))
def sp_plane (α : Al) : Int32 × Al := if aN α 6 = 3 then FF α else
  let ν := upd (aN α) (30 + cnt (aN α) 6) (-1)
  (aN α 6, sN α (upd ν 6 (ν 6 + 1)))
def sp_gliderIs (α : Al) (g w : Int32) : Int32 × Al := if ¬ ((0 ≤ g ∧ g ≤ aN α 3 - 1) ∧ (0 ≤ w ∧ w ≤ 4)) then FB α else
  (if w < 4 then aN α (50 + 4 * g.toNatClampNeg + w.toNatClampNeg) else if inRow (aN α) g = true then 1 else 0, α)
def sp_personIs (α : Al) (g w : Int32) : Int32 × Al := if ¬ ((0 ≤ g ∧ g ≤ aN α 4 - 1) ∧ (0 ≤ w ∧ w ≤ 4)) then FB α else
  (if w < 4 then aN α (90 + 4 * g.toNatClampNeg + w.toNatClampNeg) else if inAir (aN α) g = true then 1 else 0, α)
/-- a bit of number q of the row -/
def bitS (α : Al) (q : Nat) (k is : Int32) : Int32 × Al := (if wb (aN α q) k is = aN α q then 0 else 1, sN α (upd (aN α) q (wb (aN α q) k is)))
def sp_paper (α : Al) (p k h : Int32) : Int32 × Al := if ¬ ((0 ≤ p ∧ p ≤ aN α 4 - 1) ∧ (1 ≤ k ∧ k ≤ 6)) then FB α else bitS α (90 + 4 * p.toNatClampNeg + 1) k h
def sp_rope (α : Al) (w r f : Int32) : Int32 × Al := if ¬ ((0 ≤ w ∧ w ≤ aN α 5 - 1) ∧ (0 ≤ r ∧ r ≤ 1) ∧ (0 ≤ f ∧ f ≤ 1)) then FB α else (aN α (33 + 4 * w.toNatClampNeg + 2 * r.toNatClampNeg + f.toNatClampNeg), α)
def sp_broken (α : Al) (w r : Int32) : Int32 × Al := if ¬ ((0 ≤ w ∧ w ≤ aN α 5 - 1) ∧ (0 ≤ r ∧ r ≤ 1)) then FB α else if aN α (33 + 4 * w.toNatClampNeg + 2 * r.toNatClampNeg) = 3 then FS α else
  (aN α 0 + aN α 28, sN α (ropeS (aN α) w.toNatClampNeg r.toNatClampNeg 3 (aN α 0 + aN α 28)))
def sp_tow (α : Al) (p : Int32) : Int32 × Al := if ¬ (0 ≤ p ∧ p ≤ aN α 6 - 1) then FB α else (aN α (30 + p.toNatClampNeg), α)
def sp_cross (α : Al) (l o is : Int32) : Int32 × Al := if ¬ ((0 ≤ l ∧ l ≤ 5) ∧ (0 ≤ o ∧ o ≤ 5) ∧ ¬ l = o) then FB α else bitS (bitS α (10 + o.toNatClampNeg) l is).2 (10 + l.toNatClampNeg) o is
/-- number q of the row becomes v -/
def becS (α : Al) (q : Nat) (v : Int32) : Int32 × Al := (aN α q, sN α (upd (aN α) q v))
def sp_lane (α : Al) (w l : Int32) : Int32 × Al := if ¬ ((0 ≤ w ∧ w ≤ 3) ∧ (0 ≤ l ∧ l ≤ 5)) then FB α else becS α (16 + w.toNatClampNeg) l
def sp_wind (α : Al) (v : Int32) : Int32 × Al := if ¬ (0 ≤ v ∧ v ≤ 40) then FB α else becS α 1 v
def sp_link (α : Al) (l is : Int32) : Int32 × Al := if ¬ (0 ≤ l ∧ l ≤ 3) then FB α else bitS α 2 l is
def sp_rule (α : Al) (w v : Int32) : Int32 × Al := if ¬ (if w = 0 then 1 ≤ v ∧ v ≤ 20 else if w = 1 then 0 ≤ v ∧ v ≤ 900 else if w = 2 then 1 ≤ v ∧ v ≤ 60 else w = 3 ∧ 0 ≤ v ∧ v ≤ 20) then FB α else becS α (26 + w.toNatClampNeg) v
def sp_bound (α : Al) (k : Int32) : Int32 × Al := if ¬ (0 ≤ k ∧ k ≤ 5) then FB α else (boundK k, α)
def sp_span (α : Al) (k h : Int32) : Int32 × Al := if ¬ ((0 ≤ k ∧ k ≤ 5) ∧ (1 ≤ h ∧ h ≤ 30)) then FB α else (spanK k h, α)
def sp_ask (α : Al) (p w g h m : Int32) : Int32 × Al :=
  if ¬ ((0 ≤ p ∧ p ≤ aN α 4 - 1) ∧ (w = -1 ∨ ((0 ≤ w ∧ w ≤ aN α 4 - 1) ∧ ¬ w = p)) ∧ (0 ≤ g ∧ g ≤ aN α 3 - 1) ∧ (10 ≤ h ∧ h ≤ 309) ∧ (1 ≤ jrem h 10 ∧ jrem h 10 ≤ 5) ∧ (1 ≤ m ∧ m ≤ 60)) then FB α else if aN α 7 = 20 then FF α else
  let q := 146 + 10 * cnt (aN α) 7
  let ν := upd (upd (upd (upd (upd (upd (upd (upd (upd (upd (aN α) (q + 0) p) (q + 1) w) (q + 2) g) (q + 3) (jrem h 10)) (q + 4) (h / 10)) (q + 5) m) (q + 6) 0) (q + 7) (-1)) (q + 8) (-1)) (q + 9) (-1)
  (aN α 7, sN α (upd ν 7 (ν 7 + 1)))
def sp_askIs (α : Al) (a w : Int32) : Int32 × Al := if ¬ ((0 ≤ a ∧ a ≤ aN α 7 - 1) ∧ (0 ≤ w ∧ w ≤ 9)) then FB α else (aN α (146 + 10 * a.toNatClampNeg + w.toNatClampNeg), α)
def sp_as (α : Al) (a k : Int32) : Int32 × Al := if ¬ ((0 ≤ a ∧ a ≤ aN α 7 - 1) ∧ (0 ≤ k ∧ k ≤ 5)) then FB α else if undK (aN α (146 + 10 * a.toNatClampNeg + 3)) k = true then (a, α) else FK α
def sp_back (α : Al) (a : Int32) : Int32 × Al := if ¬ (0 ≤ a ∧ a ≤ aN α 7 - 1) then FB α else if ¬ aN α (146 + 10 * a.toNatClampNeg + 6) = 0 then FS α else (1, sN α (upd (aN α) (146 + 10 * a.toNatClampNeg + 6) 3))
def sp_why (α : Al) (a : Int32) : Int32 × Al := if ¬ (0 ≤ a ∧ a ≤ aN α 7 - 1) then FB α else if ¬ aN α (146 + 10 * a.toNatClampNeg + 6) = 0 then FS α else (whyA (aN α) a.toNatClampNeg, α)
def sp_clear (α : Al) (l n : Int32) : Int32 × Al := if ¬ ((0 ≤ l ∧ l ≤ 5) ∧ (1 ≤ n ∧ n ≤ 60)) then FB α else (if clearL (aN α) l.toNatClampNeg = true then 1 else 0, α)
def sp_next (α : Al) : Int32 × Al := (nextS (aN α), α)
def sp_force (α : Al) (u : Int32) : Int32 × Al := if ¬ (0 ≤ u ∧ u ≤ 1) then FB α else match textU (aN α) u with
  | none => FN α
  | some t => (nI t, α)
def sp_says (α : Al) (t h m k : Int32) : Int32 × Al := if ¬ (0 ≤ t ∧ t ≤ aN α 8 - 1) then FB α else (worth (aN α) t.toNatClampNeg h m k, α)
def sp_run (α : Al) (n : Int32) : Int32 × Al := if ¬ (1 ≤ n ∧ n ≤ 100) then FB α else if 900 < aN α 0 + n then FF α else (runS (aN α) n.toNatClampNeg 0, sN α (runS (aN α) n.toNatClampNeg))
def launS (ν : Nu) : Nat → Int32
  | 0 => 0
  | n + 1 => launS ν n + jrem (wentS ν n) 10
def landS (ν : Nu) : Nat → Int32
  | 0 => 0
  | n + 1 => landS ν n + wentS ν n / 10
def sp_ahead (α : Al) (n w : Int32) : Int32 × Al := if ¬ ((0 ≤ n ∧ n ≤ 200) ∧ (0 ≤ w ∧ w ≤ 3)) then FB α else
  (if w = 0 then launS (aN α) n.toNatClampNeg else if w = 1 then landS (aN α) n.toNatClampNeg else if w = 2 then setS (runS (aN α) n.toNatClampNeg) 1 else setS (runS (aN α) n.toNatClampNeg) 0, α)
def sp_late (α : Al) (m : Int32) : Int32 × Al := if ¬ (aN α 0 ≤ m ∧ m ≤ aN α 0 + 200) then FB α else (setS (runS (aN α) (m - aN α 0 + 1).toNatClampNeg) 0, α)
/-- how far a sheet's numbers tell what goes -/
def chkS (ν : Nu) (f : Nu) : Nat → Nat → Nat
  | k, 0 => k
  | k, n + 1 => if wentS ν k = f k then chkS ν f (k + 1) n else k
def sp_check (α : Al) (s : Int32) : Int32 × Al := if ¬ (0 ≤ s ∧ s ≤ 3) then FB α else if aW α s.toNatClampNeg = 0 then FM α else (nI (chkS (aN α) (fun k => aU α (24 * s.toNatClampNeg + k)) 0 (aZ α s.toNatClampNeg).toNatClampNeg), α)
def sp_wipe (α : Al) : Int32 × Al := (aS α, α.1, α.2.1, α.2.2.1, α.2.2.2.1, α.2.2.2.2.1, 0, α.2.2.2.2.2.2)
def sp_pay (α : Al) (p c : Int32) : Int32 × Al := if ¬ ((0 ≤ p ∧ p ≤ aN α 4 - 1) ∧ (1 ≤ c ∧ c ≤ 99999)) then FB α else if aN α (90 + 4 * p.toNatClampNeg + 3) < c then FS α else
  (aN α (90 + 4 * p.toNatClampNeg + 3) - c, sN α (upd (aN α) (90 + 4 * p.toNatClampNeg + 3) (aN α (90 + 4 * p.toNatClampNeg + 3) - c)))
def sp_image (α : Al) : Int32 × Al := (1, aN α, aN α, 1, α.2.2.2)
def sp_undo (α : Al) : Int32 × Al := if aH α = 0 then FN α else (aK α 0, sN α (aK α))
def sp_tear (α : Al) : Int32 × Al := (if aH α = 0 then 0 else 1, aN α, aK α, 0, α.2.2.2)
