/-! ===== a row of numbers that is well made; the view of the model ===== -/
section GT
variable {μ : Mx} {ω : Om} {Q : State → Prop} {own : String} {cc : ByteArray} {nL d pc n k : Nat} {lv : List (Option Value)} {st : List Value} {h : AH}
theorem g_tabE (C : Cx μ ω own cc nL d) {df lo hi off : Int} {offs : Array Int} {len tgt : Nat} {x v : Int32} (hd : decode cc pc = .ok (.tableswitch df lo hi offs, len)) (hx : x = v) (h1 : ¬ v.toInt < lo) (h2 : ¬ hi < v.toInt) (ho : offs[(v.toInt - lo).toNat]? = some off) (ht : (pc : Int) + off = (tgt : Int)) (kk : G μ ω Q tgt lv st h n k) : G μ ω Q pc lv (.int x :: st) h n k := by
  subst hx
  exact g_tabIn C hd h1 h2 ho ht kk
end GT
def isN (x : Int32) (n : Nat) : Prop := ∃ k, k < n ∧ x = nI k
theorem cnt_of {ν : Nu} {k n : Nat} (h : ν k = nI n) (hn : n < 2 ^ 31) : cnt ν k = n := by unfold cnt; rw [h, nI_clamp hn]
theorem isN_cnt {ν : Nu} {k n : Nat} (h : isN (ν k) n) (hn : n < 2 ^ 31) : ν k = nI (cnt ν k) ∧ cnt ν k < n := by
  obtain ⟨j, h1, h2⟩ := h
  rw [cnt_of h2 (Nat.lt_trans h1 hn)]
  exact ⟨h2, h1⟩
theorem clamp_isN {x : Int32} {n : Nat} (h : isN x n) (hn : n < 2 ^ 31) : x = nI x.toNatClampNeg ∧ x.toNatClampNeg < n := by
  obtain ⟨j, h1, h2⟩ := h
  rw [h2, nI_clamp (Nat.lt_trans h1 hn)]
  exact ⟨rfl, h1⟩
theorem isN_pos {x : Int32} {n : Nat} (h : isN x n) (hn : n ≤ 2 ^ 31) : ¬ x < 0 := by
  obtain ⟨j, h1, rfl⟩ := h
  exact nI_pos (Nat.lt_of_lt_of_le h1 hn)
/-- k is one of the first n (n as a number of the row) -/
theorem is_iff {x k : Int32} {n : Nat} (h : x = nI n) (hn : n < 2 ^ 31) : (0 ≤ k ∧ k ≤ x - 1) ↔ isN k n := by
  subst h
  constructor
  · rintro ⟨h1, h2⟩
    have hk : ¬ k < 0 := Int32.not_lt.mpr h1
    obtain ⟨j, hj, rfl⟩ := nI_of hk
    cases n with
    | zero =>
      have e : nI 0 - 1 = -1 := by decide
      rw [e] at h2
      exact absurd (Int32.le_trans h1 h2) (by decide)
    | succ n =>
      rw [nI_pred] at h2
      have := (nI_leI hj (by omega)).mp h2
      exact ⟨j, by omega, rfl⟩
  · rintro ⟨j, hj, rfl⟩
    cases n with
    | zero => omega
    | succ n =>
      rw [nI_pred]
      exact ⟨nI_pos' (by omega), nI_le (by omega) (by omega)⟩
def INV (ν : Nu) : Prop :=
  (∃ m, m ≤ 5000 ∧ ν 0 = nI m) ∧ (isN (ν 3) 11 ∧ isN (ν 4) 15 ∧ isN (ν 5) 4 ∧ isN (ν 6) 4 ∧ isN (ν 7) 21 ∧ isN (ν 8) 7) ∧
  ((∀ u, u < 4 → isN (ν (16 + u)) 6) ∧ ∀ k, k < 6 → hb (ν (10 + k)) (nI k) = true) ∧ (∃ f, 1 ≤ f ∧ f ≤ 20 ∧ ν 26 = nI f) ∧
  (∀ g, g < cnt ν 3 → ∃ o, o < 2 ^ cnt ν 4 ∧ aG ν g 3 = nI o) ∧
  (∀ a, a < cnt ν 7 → isN (aA ν a 0) (cnt ν 4) ∧ (aA ν a 1 = -1 ∨ isN (aA ν a 1) (cnt ν 4)) ∧ isN (aA ν a 2) (cnt ν 3) ∧ (∃ k, 1 ≤ k ∧ k ≤ 5 ∧ aA ν a 3 = nI k) ∧ (∃ h, 1 ≤ h ∧ h ≤ 30 ∧ aA ν a 4 = nI h) ∧ isN (aA ν a 6) 4) ∧
  (∀ a a', a < cnt ν 7 → a' < cnt ν 7 → aA ν a 6 = 1 → aA ν a' 6 = 1 → a ≠ a' → aA ν a 2 ≠ aA ν a' 2 ∧ aA ν a 0 ≠ aA ν a' 0 ∧ aA ν a 0 ≠ aA ν a' 1 ∧ aA ν a 1 ≠ aA ν a' 0 ∧ (aA ν a 1 = -1 ∨ aA ν a 1 ≠ aA ν a' 1)) ∧
  (∀ t, t < cnt ν 8 → isN (ν (346 + 104 * t)) 2 ∧ (∃ n, 1 ≤ n ∧ n ≤ 100 ∧ ν (346 + 104 * t + 1) = nI n) ∧ depT (codes ν t) (lenT ν t) = some 1) ∧
  (∀ j, 970 ≤ j → ν j = 0)
/-- now, kept, whether, found, tape, how many, widths, sizes, numbers -/
abbrev Al : Type := Nu × Nu × Int32 × Nu × Nu × Int32 × Nu × Nu × Nu
def mv (σ : Sg) : Al := (σ 136, σ 137, σ 135 3, σ 139, σ 140, σ 135 6, σ 144, σ 145, σ 146)
abbrev aN (α : Al) : Nu := α.1
abbrev aK (α : Al) : Nu := α.2.1
abbrev aH (α : Al) : Int32 := α.2.2.1
abbrev aF (α : Al) : Nu := α.2.2.2.1
abbrev aT (α : Al) : Nu := α.2.2.2.2.1
abbrev aS (α : Al) : Int32 := α.2.2.2.2.2.1
abbrev aW (α : Al) : Nu := α.2.2.2.2.2.2.1
abbrev aZ (α : Al) : Nu := α.2.2.2.2.2.2.2.1
abbrev aU (α : Al) : Nu := α.2.2.2.2.2.2.2.2
def sN (α : Al) (ν : Nu) : Al := (ν, α.2)
/-- a finding: its answer, counted -/
def fnd (α : Al) (i : Nat) (w : Int32) : Int32 × Al := (w, α.1, α.2.1, α.2.2.1, upd (aF α) i (aF α i + 1), α.2.2.2.2)
theorem up_apply (σ : Sg) (k j : Nat) (x : Int32) (q : Nat) : up σ k j x q = if q = k then upd (σ k) j x else σ q := rfl
theorem sup_apply (σ : Sg) (k : Nat) (f : Nat → Int32) (q : Nat) : sup σ k f q = if q = k then f else σ q := rfl
theorem upd_apply (f : Nat → Int32) (k : Nat) (x : Int32) (j : Nat) : upd f k x j = if j = k then x else f j := rfl
/-- sigma and sigma' agree but for these cells -/
def Eqx (L : List Nat) (σ σ' : Sg) : Prop := ∀ k, k ∉ L → σ' k = σ k
theorem Eqx.rf {L : List Nat} {σ : Sg} : Eqx L σ σ := fun _ _ => rfl
theorem Eqx.tr {L : List Nat} {σ σ' σ'' : Sg} (h : Eqx L σ σ') (h' : Eqx L σ' σ'') : Eqx L σ σ'' := fun k hk => (h' k hk).trans (h k hk)
theorem Eqx.up {L : List Nat} {σ : Sg} {k j : Nat} {x : Int32} (hk : k ∈ L) : Eqx L σ (up σ k j x) := fun q hq => by
  rw [up_apply, if_neg (fun e : q = k => hq (by rw [e]; exact hk))]
theorem and1 (x : Int32) : x &&& 1 = 0 ∨ x &&& 1 = 1 := by
  have h := pk_and x (m := 1) 1 (by decide)
  rw [h]
  rcases (show x.toBitVec.toNat % 2 ^ 1 = 0 ∨ x.toBitVec.toNat % 2 ^ 1 = 1 by omega) with e | e
  · rw [e]; exact Or.inl (by decide)
  · rw [e]; exact Or.inr (by decide)
theorem hb_iff1 {s k : Int32} : hb s k = true ↔ (s >>> (k &&& 31)) &&& 1 = 1 := by
  unfold hb
  rw [decide_eq_true_eq]
  rcases and1 (s >>> (k &&& 31)) with e | e
  · rw [e]; decide
  · rw [e]; decide
theorem hb_iff0 {s k : Int32} : hb s k = true ↔ ¬ (s >>> (k &&& 31)) &&& 1 = 0 := by
  unfold hb
  rw [decide_eq_true_eq]
