/-! ===== the tape read as a text: pure ===== -/
def bh (t : Nu) (n : Nat) (lo hi : Int32) : Nat → Nat → Nat
  | 0, p => p
  | f + 1, p => if p < n ∧ lo ≤ t p ∧ t p ≤ hi then bh t n lo hi f (p + 1) else p
/-- the first place from p on whose byte isn't of the range -/
def bhA (t : Nu) (n : Nat) (lo hi : Int32) (p : Nat) : Nat := bh t n lo hi (n - p) p
theorem bhA_y {t : Nu} {n : Nat} {lo hi : Int32} {p : Nat} (h : p < n ∧ lo ≤ t p ∧ t p ≤ hi) : bhA t n lo hi p = bhA t n lo hi (p + 1) := by
  unfold bhA
  rw [show n - p = n - (p + 1) + 1 by omega]
  show (if _ then _ else _) = _
  rw [if_pos h]
theorem bhA_n {t : Nu} {n : Nat} {lo hi : Int32} {p : Nat} (h : ¬ (p < n ∧ lo ≤ t p ∧ t p ≤ hi)) : bhA t n lo hi p = p := by
  unfold bhA
  cases n - p with
  | zero => rfl
  | succ f => exact if_neg h
theorem bhA_ge {t : Nu} {n : Nat} {lo hi : Int32} : ∀ (f p : Nat), p + f = n → p ≤ bhA t n lo hi p ∧ bhA t n lo hi p ≤ n := by
  intro f
  induction f with
  | zero => intro p hp; rw [bhA_n (by omega)]; omega
  | succ f ih =>
    intro p hp
    by_cases h : p < n ∧ lo ≤ t p ∧ t p ≤ hi
    · rw [bhA_y h]; have := ih (p + 1) (by omega); omega
    · rw [bhA_n h]; omega
theorem bhA_le {t : Nu} {n : Nat} {lo hi : Int32} {p : Nat} (h : p ≤ n) : p ≤ bhA t n lo hi p ∧ bhA t n lo hi p ≤ n := bhA_ge (n - p) p (by omega)
theorem bhA_in {t : Nu} {n : Nat} {lo hi : Int32} : ∀ (f p : Nat), p + f = n → ∀ j, p ≤ j → j < bhA t n lo hi p → lo ≤ t j ∧ t j ≤ hi := by
  intro f
  induction f with
  | zero => intro p hp j h1 h2; rw [bhA_n (by omega)] at h2; omega
  | succ f ih =>
    intro p hp j h1 h2
    by_cases h : p < n ∧ lo ≤ t p ∧ t p ≤ hi
    · rw [bhA_y h] at h2
      by_cases e : j = p
      · subst e; exact h.2
      · exact ih (p + 1) (by omega) j (by omega) h2
    · rw [bhA_n h] at h2; omega
/-- where the token that is read from q on begins -/
def stS (t : Nu) (n q : Nat) : Nat := bhA t n 32 32 q
/-- its sort: 0 the end, 1 a word, 2 a number, 3 a sign -/
def sortS (t : Nu) (n q : Nat) : Int32 := if stS t n q = n then 0 else if 97 ≤ t (stS t n q) ∧ t (stS t n q) ≤ 122 then 1 else if 48 ≤ t (stS t n q) ∧ t (stS t n q) ≤ 57 then 2 else 3
def enS (t : Nu) (n q : Nat) : Nat := if stS t n q = n then n else if 97 ≤ t (stS t n q) ∧ t (stS t n q) ≤ 122 then bhA t n 97 122 (stS t n q + 1) else if 48 ≤ t (stS t n q) ∧ t (stS t n q) ≤ 57 then bhA t n 48 57 (stS t n q + 1) else stS t n q + 1
theorem stS_le {t : Nu} {n q : Nat} (h : q ≤ n) : q ≤ stS t n q ∧ stS t n q ≤ n := bhA_le h
theorem enS_le {t : Nu} {n q : Nat} (h : q ≤ n) : stS t n q ≤ enS t n q ∧ enS t n q ≤ n ∧ (sortS t n q ≠ 0 → stS t n q < enS t n q) := by
  have h1 := stS_le (t := t) h
  unfold enS sortS
  by_cases e : stS t n q = n
  · rw [if_pos e, if_pos e]; exact ⟨h1.2, Nat.le_refl _, fun q => absurd rfl q⟩
  · rw [if_neg e, if_neg e]
    by_cases e1 : 97 ≤ t (stS t n q) ∧ t (stS t n q) ≤ 122
    · rw [if_pos e1, if_pos e1]
      have := bhA_le (t := t) (n := n) (lo := 97) (hi := 122) (p := stS t n q + 1) (by omega)
      exact ⟨by omega, this.2, fun _ => by omega⟩
    · rw [if_neg e1, if_neg e1]
      by_cases e2 : 48 ≤ t (stS t n q) ∧ t (stS t n q) ≤ 57
      · rw [if_pos e2, if_pos e2]
        have := bhA_le (t := t) (n := n) (lo := 48) (hi := 57) (p := stS t n q + 1) (by omega)
        exact ⟨by omega, this.2, fun _ => by omega⟩
      · rw [if_neg e2, if_neg e2]
        exact ⟨by omega, by omega, fun _ => by omega⟩
theorem enS_lt {t : Nu} {n q : Nat} (h : q ≤ n) (hs : sortS t n q ≠ 0) : q < enS t n q ∧ enS t n q ≤ n := by
  have h1 := stS_le (t := t) h
  have h2 := enS_le (t := t) h
  have := h2.2.2 hs
  omega
theorem sort_lt {t : Nu} {n q : Nat} (h : q ≤ n) (hs : sortS t n q ≠ 0) : stS t n q < n := by
  have h1 := stS_le (t := t) h
  unfold sortS at hs
  by_cases e : stS t n q = n
  · rw [if_pos e] at hs; exact absurd rfl hs
  · omega
/-- the byte of a sign; -1 of another token -/
def sg (t : Nu) (n q : Nat) : Int32 := if sortS t n q = 3 then t (stS t n q) else -1
def numL (t : Nu) (s : Nat) : Nat → Int32
  | 0 => 0
  | k + 1 => 10 * numL t s k + t (s + k) - 48
def wdB (t : Nu) (s : Nat) : List Int32 → Bool
  | [] => true
  | c :: r => decide (t s = c) && wdB t (s + 1) r
def isNum (t : Nu) (n q : Nat) : Bool := decide (sortS t n q = 2) && decide (enS t n q - stS t n q ≤ 4)
theorem isNum_i {t : Nu} {n q : Nat} : isNum t n q = true ↔ sortS t n q = 2 ∧ enS t n q - stS t n q ≤ 4 := by unfold isNum; rw [Bool.and_eq_true, decide_eq_true_eq, decide_eq_true_eq]
def numS (t : Nu) (n q : Nat) : Int32 := numL t (stS t n q) (enS t n q - stS t n q)
def isWd (t : Nu) (n q : Nat) (w : List Int32) : Bool := decide (sortS t n q = 1) && (decide (enS t n q - stS t n q = w.length) && wdB t (stS t n q) w)
theorem isWd_i {t : Nu} {n q : Nat} {w : List Int32} : isWd t n q w = true ↔ sortS t n q = 1 ∧ enS t n q - stS t n q = w.length ∧ wdB t (stS t n q) w = true := by unfold isWd; rw [Bool.and_eq_true, Bool.and_eq_true, decide_eq_true_eq, decide_eq_true_eq]
def wHeight : List Int32 := [104, 101, 105, 103, 104, 116]
def wMinutes : List Int32 := [109, 105, 110, 117, 116, 101, 115]
def wKind : List Int32 := [107, 105, 110, 100]
def wWind : List Int32 := [119, 105, 110, 100]
def nameS (t : Nu) (n q : Nat) : Option Nat := if isWd t n q wHeight = true then some 0 else if isWd t n q wMinutes = true then some 1 else if isWd t n q wKind = true then some 2 else if isWd t n q wWind = true then some 3 else none
abbrev PR : Type := (Nat × List Int32) ⊕ Nat
abbrev pOk (q : Nat) (s : List Int32) : PR := .inl (q, s)
abbrev pNo (q : Nat) : PR := .inr q
def bnd (r : PR) (k : Nat → List Int32 → PR) : PR := match r with
  | .inl (q, s) => k q s
  | .inr q => pNo q
section PRS
variable (t : Nu) (n : Nat)
def lpP (P : Nat → PR) (op : Int32 → Int32) : Nat → Nat → List Int32 → PR
  | 0, q, s => pOk q s
  | f + 1, q, s => if op (sg t n q) = 0 then pOk q s else bnd (P (enS t n q)) (fun q' s' => lpP P op f q' (s ++ s' ++ [op (sg t n q)]))
def opE (c : Int32) : Int32 := if c = 124 then 10106 else 0
def opB (c : Int32) : Int32 := if c = 38 then 10105 else 0
def opC (c : Int32) : Int32 := if c = 60 then 10102 else if c = 61 then 10103 else if c = 62 then 10104 else 0
def opS (c : Int32) : Int32 := if c = 43 then 10100 else if c = 45 then 10101 else 0
def opM (c : Int32) : Int32 := if c = 42 then 10108 else if c = 47 then 10109 else 0
def parP (e : Nat → PR) (q : Nat) : PR := bnd (e (enS t n q)) (fun q' s => if sg t n q' = 41 then pOk (enS t n q') s else pNo q')
def sglP (E : Option (Nat → PR)) (q : Nat) : PR := if isNum t n q = true then pOk (enS t n q) [numS t n q] else match nameS t n q with
  | some i => pOk (enS t n q) [10000 + nI i]
  | none => if sg t n q = 40 then (match E with
    | none => pNo q
    | some e => parP t n e q) else pNo q
def prdP (E : Option (Nat → PR)) (q : Nat) : PR := bnd (sglP t n E q) (lpP t n (sglP t n E) opM 100)
def sumP (E : Option (Nat → PR)) (q : Nat) : PR := bnd (prdP t n E q) (lpP t n (prdP t n E) opS 100)
def cmpT (E : Option (Nat → PR)) (q : Nat) (s : List Int32) : PR := if opC (sg t n q) = 0 then pOk q s else bnd (sumP t n E (enS t n q)) (fun q2 s2 => pOk q2 (s ++ s2 ++ [opC (sg t n q)]))
def cmpP (E : Option (Nat → PR)) (q : Nat) : PR := bnd (sumP t n E q) (cmpT t n E)
def notP (E N : Option (Nat → PR)) (q : Nat) : PR := if sg t n q = 33 then (match N with
    | none => pNo q
    | some nt => bnd (nt (enS t n q)) (fun q' s => pOk q' (s ++ [10107]))) else cmpP t n E q
def bthP (E N : Option (Nat → PR)) (q : Nat) : PR := bnd (notP t n E N q) (lpP t n (notP t n E N) opB 100)
def eitP (E N : Option (Nat → PR)) (q : Nat) : PR := bnd (bthP t n E N q) (lpP t n (bthP t n E N) opE 100)
def lvl : Nat → Option (Nat → PR) × Option (Nat → PR)
  | 0 => (none, none)
  | k + 1 => (some (eitP t n (lvl k).1 (lvl k).2), some (notP t n (lvl k).1 (lvl k).2))
/-- the whole text: its steps, or the fault's place -/
def readT : PR := bnd (eitP t n (lvl t n 6).1 (lvl t n 6).2 0) (fun q s => if sortS t n q = 0 then pOk q s else pNo q)
end PRS
/-! what a part of a text leaves is well made -/
def stpD (d : Nat) (c : Int32) : Option Nat := if c < 10100 then some (d + 1) else if c = 10107 then (if d = 0 then none else some d) else (if d < 2 then none else some (d - 1))
def depL : Nat → List Int32 → Option Nat
  | d, [] => some d
  | d, c :: r => match stpD d c with
    | none => none
    | some e => depL e r
theorem depL_app (a b : List Int32) : ∀ d, depL d (a ++ b) = (match depL d a with | none => none | some e => depL e b) := by
  induction a with
  | nil => intro d; rfl
  | cons c r ih =>
    intro d
    show (match stpD d c with | none => none | some e => depL e (r ++ b)) = _
    show _ = (match (match stpD d c with | none => none | some e => depL e r) with | none => none | some e => depL e b)
    cases stpD d c with
    | none => rfl
    | some e => exact ih e
/-- a code of a step: a number, a name, or what is done -/
def okC (c : Int32) : Prop := (∃ k, k < 10000 ∧ c = nI k) ∨ (∃ k, k < 4 ∧ c = 10000 + nI k) ∨ (∃ k, k < 10 ∧ c = 10100 + nI k)
def GC (m : Nat) (s : List Int32) : Prop := 1 ≤ s.length ∧ s.length ≤ m ∧ (∀ d, depL d s = some (d + 1)) ∧ ∀ c ∈ s, okC c
/-- a part ends behind where it began, within the tape, and its steps are well made -/
def GoodP (n : Nat) (P : Nat → PR) : Prop := ∀ q, q ≤ n → match P q with
  | .inl (q', s) => q < q' ∧ q' ≤ n ∧ GC (q' - q) s
  | .inr q' => q ≤ q' ∧ q' ≤ n
theorem GC_op {m m' : Nat} {a b : List Int32} {c : Int32} (ha : GC m a) (hb : GC m' b) (h1 : ¬ c < 10100) (h2 : c ≠ 10107) (hc : okC c) : GC (m + m' + 1) (a ++ b ++ [c]) := by
  refine ⟨by simp; omega, ?_, ?_, ?_⟩
  · simp only [List.length_append, List.length_cons, List.length_nil]; have := ha.2.1; have := hb.2.1; omega
  · intro d
    rw [depL_app, depL_app, ha.2.2.1 d]
    show (match depL (d + 1) b with | none => none | some e => depL e [c]) = _
    rw [hb.2.2.1 (d + 1)]
    show (match stpD (d + 1 + 1) c with | none => none | some e => depL e []) = _
    unfold stpD
    rw [if_neg h1, if_neg h2, if_neg (by omega)]
    rfl
  · intro x hx
    simp only [List.mem_append, List.mem_singleton] at hx
    rcases hx with (h | h) | h
    · exact ha.2.2.2 x h
    · exact hb.2.2.2 x h
    · rw [h]; exact hc
theorem GC_turn {m : Nat} {a : List Int32} (ha : GC m a) : GC (m + 1) (a ++ [10107]) := by
  refine ⟨by simp, ?_, ?_, ?_⟩
  · simp only [List.length_append, List.length_cons, List.length_nil]; have := ha.2.1; omega
  · intro d
    rw [depL_app, ha.2.2.1 d]
    rfl
  · intro x hx
    simp only [List.mem_append, List.mem_singleton] at hx
    rcases hx with h | h
    · exact ha.2.2.2 x h
    · rw [h]; exact Or.inr (Or.inr ⟨7, by decide, by decide⟩)
theorem GC_mono {m m' : Nat} {a : List Int32} (h : GC m a) (hm : m ≤ m') : GC m' a := ⟨h.1, Nat.le_trans h.2.1 hm, h.2.2⟩
/-- an op's codes: each takes two -/
def OpK (op : Int32 → Int32) : Prop := op (-1) = 0 ∧ ∀ c, op c ≠ 0 → ¬ op c < 10100 ∧ op c ≠ 10107 ∧ okC (op c)
theorem okO {c : Int32} (k : Nat) (hk : k < 10) (e : c = 10100 + nI k) : okC c := Or.inr (Or.inr ⟨k, hk, e⟩)
theorem OpE : OpK opE := ⟨by decide, fun c h => by
  unfold opE at *
  by_cases e : c = 124
  · rw [if_pos e]; exact ⟨by decide, by decide, okO 6 (by decide) (by decide)⟩
  · rw [if_neg e] at h; exact absurd rfl h⟩
theorem OpB : OpK opB := ⟨by decide, fun c h => by
  unfold opB at *
  by_cases e : c = 38
  · rw [if_pos e]; exact ⟨by decide, by decide, okO 5 (by decide) (by decide)⟩
  · rw [if_neg e] at h; exact absurd rfl h⟩
theorem OpC : OpK opC := ⟨by decide, fun c h => by
  unfold opC at *
  by_cases e : c = 60
  · rw [if_pos e]; exact ⟨by decide, by decide, okO 2 (by decide) (by decide)⟩
  · rw [if_neg e] at h ⊢
    by_cases e : c = 61
    · rw [if_pos e]; exact ⟨by decide, by decide, okO 3 (by decide) (by decide)⟩
    · rw [if_neg e] at h ⊢
      by_cases e : c = 62
      · rw [if_pos e]; exact ⟨by decide, by decide, okO 4 (by decide) (by decide)⟩
      · rw [if_neg e] at h; exact absurd rfl h⟩
theorem OpS : OpK opS := ⟨by decide, fun c h => by
  unfold opS at *
  by_cases e : c = 43
  · rw [if_pos e]; exact ⟨by decide, by decide, okO 0 (by decide) (by decide)⟩
  · rw [if_neg e] at h ⊢
    by_cases e : c = 45
    · rw [if_pos e]; exact ⟨by decide, by decide, okO 1 (by decide) (by decide)⟩
    · rw [if_neg e] at h; exact absurd rfl h⟩
theorem OpM : OpK opM := ⟨by decide, fun c h => by
  unfold opM at *
  by_cases e : c = 42
  · rw [if_pos e]; exact ⟨by decide, by decide, okO 8 (by decide) (by decide)⟩
  · rw [if_neg e] at h ⊢
    by_cases e : c = 47
    · rw [if_pos e]; exact ⟨by decide, by decide, okO 9 (by decide) (by decide)⟩
    · rw [if_neg e] at h; exact absurd rfl h⟩
section PRG
variable {t : Nu} {n : Nat}
theorem op_sort {op : Int32 → Int32} (hop : OpK op) {q : Nat} (h : op (sg t n q) ≠ 0) : sortS t n q ≠ 0 := by
  intro e
  apply h
  unfold sg
  rw [e, if_neg (by decide)]
  exact hop.1
theorem sg_sort {q : Nat} {c : Int32} (hc : c ≠ -1) (h : sg t n q = c) : sortS t n q = 3 ∧ t (stS t n q) = c := by
  unfold sg at h
  by_cases e : sortS t n q = 3
  · rw [if_pos e] at h; exact ⟨e, h⟩
  · rw [if_neg e] at h; exact absurd h.symm hc
theorem lp_good {P : Nat → PR} {op : Int32 → Int32} (hP : GoodP n P) (hop : OpK op) : ∀ (f q0 q : Nat) (s : List Int32), q0 < q → q ≤ n → GC (q - q0) s → match lpP t n P op f q s with
  | .inl (q', s') => q0 < q' ∧ q' ≤ n ∧ GC (q' - q0) s'
  | .inr q' => q0 ≤ q' ∧ q' ≤ n := by
  intro f
  induction f with
  | zero => intro q0 q s h1 h2 h3; exact ⟨h1, h2, h3⟩
  | succ f ih =>
    intro q0 q s h1 h2 h3
    show match (if op (sg t n q) = 0 then pOk q s else bnd (P (enS t n q)) (fun q' s' => lpP t n P op f q' (s ++ s' ++ [op (sg t n q)]))) with
      | .inl (q', s') => q0 < q' ∧ q' ≤ n ∧ GC (q' - q0) s'
      | .inr q' => q0 ≤ q' ∧ q' ≤ n
    by_cases e : op (sg t n q) = 0
    · rw [if_pos e]; exact ⟨h1, h2, h3⟩
    · rw [if_neg e]
      have hl := enS_lt (t := t) h2 (op_sort hop e)
      have hp := hP (enS t n q) hl.2
      cases hr : P (enS t n q) with
      | inr q' => rw [hr] at hp; exact ⟨by have := hp.1; omega, hp.2⟩
      | inl p =>
        obtain ⟨q', s'⟩ := p
        rw [hr] at hp
        obtain ⟨p1, p2, p3⟩ := hp
        obtain ⟨o1, o2, o3⟩ := hop.2 _ e
        exact ih q0 q' _ (by omega) p2 (GC_mono (GC_op h3 p3 o1 o2 o3) (by omega))
theorem bl_good {P : Nat → PR} {op : Int32 → Int32} (hP : GoodP n P) (hop : OpK op) (f : Nat) : GoodP n (fun q => bnd (P q) (lpP t n P op f)) := by
  intro q hq
  have hp := hP q hq
  show match bnd (P q) (lpP t n P op f) with | .inl (q', s) => q < q' ∧ q' ≤ n ∧ GC (q' - q) s | .inr q' => q ≤ q' ∧ q' ≤ n
  cases hr : P q with
  | inr q' => rw [hr] at hp; exact hp
  | inl p => obtain ⟨q', s⟩ := p; rw [hr] at hp; exact lp_good hP hop f q q' s hp.1 hp.2.1 hp.2.2
theorem numL_le (s : Nat) : ∀ k, k ≤ 4 → (∀ j, s ≤ j → j < s + k → 48 ≤ t j ∧ t j ≤ 57) → ∃ v, v < 10 ^ k ∧ numL t s k = nI v := by
  intro k
  induction k with
  | zero => intro _ _; exact ⟨0, by decide, rfl⟩
  | succ k ih =>
    intro hk h
    obtain ⟨v, hv, e⟩ := ih (by omega) (fun j h1 h2 => h j h1 (by omega))
    obtain ⟨h1, h2⟩ := h (s + k) (by omega) (by omega)
    obtain ⟨b, hb, eb⟩ := rgL (B := 57) ⟨h1, h2⟩ (by decide) (by decide)
    have hb2 : 48 ≤ b := by rw [eb] at h1; exact (nI_leI (a := 48) (by decide) (by omega)).mp h1
    refine ⟨10 * v + (b - 48), ?_, ?_⟩
    · rw [Nat.pow_succ]; omega
    · show 10 * numL t s k + t (s + k) - 48 = _
      rw [e, eb, show (10 : Int32) = nI 10 from rfl, pk_mul, nI_add, show (48 : Int32) = nI 48 from rfl, nI_sub (by omega)]
      congr 1; omega
theorem num_ok {q : Nat} (hq : q ≤ n) (h : isNum t n q = true) : ∃ v, v < 10000 ∧ numS t n q = nI v := by
  obtain ⟨h1, h2⟩ := isNum_i.mp h
  have hl := enS_le (t := t) hq
  have hs := sort_lt (t := t) hq (by rw [h1]; decide)
  have hin : ∀ j, stS t n q ≤ j → j < stS t n q + (enS t n q - stS t n q) → 48 ≤ t j ∧ t j ≤ 57 := by
    intro j j1 j2
    unfold sortS at h1
    rw [if_neg (by omega)] at h1
    by_cases e1 : 97 ≤ t (stS t n q) ∧ t (stS t n q) ≤ 122
    · rw [if_pos e1] at h1; exact absurd h1 (by decide)
    · rw [if_neg e1] at h1
      by_cases e2 : 48 ≤ t (stS t n q) ∧ t (stS t n q) ≤ 57
      · by_cases e : j = stS t n q
        · rw [e]; exact e2
        · have ee : enS t n q = bhA t n 48 57 (stS t n q + 1) := by
            unfold enS; rw [if_neg (by omega), if_neg e1, if_pos e2]
          exact bhA_in (t := t) (n := n) (n - (stS t n q + 1)) (stS t n q + 1) (by omega) j (by omega) (by omega)
      · rw [if_neg e2] at h1; exact absurd h1 (by decide)
  obtain ⟨v, hv, e⟩ := numL_le (t := t) (stS t n q) (enS t n q - stS t n q) h2 hin
  refine ⟨v, Nat.lt_of_lt_of_le hv ?_, e⟩
  exact (Nat.pow_le_pow_right (by decide) h2 : 10 ^ (enS t n q - stS t n q) ≤ 10 ^ 4)
theorem name_sort {q i : Nat} (h : nameS t n q = some i) : sortS t n q = 1 ∧ i < 4 := by
  unfold nameS at h
  by_cases e : isWd t n q wHeight = true
  · rw [if_pos e] at h; cases h; exact ⟨(isWd_i.mp e).1, by decide⟩
  · rw [if_neg e] at h
    by_cases e : isWd t n q wMinutes = true
    · rw [if_pos e] at h; cases h; exact ⟨(isWd_i.mp e).1, by decide⟩
    · rw [if_neg e] at h
      by_cases e : isWd t n q wKind = true
      · rw [if_pos e] at h; cases h; exact ⟨(isWd_i.mp e).1, by decide⟩
      · rw [if_neg e] at h
        by_cases e : isWd t n q wWind = true
        · rw [if_pos e] at h; cases h; exact ⟨(isWd_i.mp e).1, by decide⟩
        · rw [if_neg e] at h; cases h
theorem GC_one {c : Int32} (h : okC c) (h2 : c < 10100) {m : Nat} (hm : 1 ≤ m) : GC m [c] := by
  refine ⟨by simp, by simp; omega, ?_, ?_⟩
  · intro d
    show (match stpD d c with | none => none | some e => depL e []) = _
    unfold stpD
    rw [if_pos h2]
    rfl
  · intro x hx
    rw [List.mem_singleton.mp hx]; exact h
theorem sgl_good {E : Option (Nat → PR)} (hE : ∀ e, E = some e → GoodP n e) : GoodP n (sglP t n E) := by
  intro q hq
  unfold sglP
  by_cases h1 : isNum t n q = true
  · rw [if_pos h1]
    have hl := enS_lt (t := t) hq (by rw [(isNum_i.mp h1).1]; decide)
    obtain ⟨v, hv, e⟩ := num_ok hq h1
    refine ⟨hl.1, hl.2, GC_one (Or.inl ⟨v, hv, e⟩) ?_ (by omega)⟩
    rw [e]; exact nI_lt (b := 10100) (by omega) (by decide)
  · rw [if_neg h1]
    cases h2 : nameS t n q with
    | some i =>
      obtain ⟨h3, h4⟩ := name_sort h2
      have hl := enS_lt (t := t) hq (by rw [h3]; decide)
      refine ⟨hl.1, hl.2, GC_one (Or.inr (Or.inl ⟨i, h4, rfl⟩)) ?_ (by omega)⟩
      rw [show (10000 : Int32) = nI 10000 from rfl, nI_add]; exact nI_lt (b := 10100) (by omega) (by decide)
    | none =>
      dsimp only
      by_cases h3 : sg t n q = 40
      · rw [if_pos h3]
        have hl := enS_lt (t := t) hq (by rw [(sg_sort (by decide) h3).1]; decide)
        cases E with
        | none => exact ⟨Nat.le_refl _, hq⟩
        | some e =>
          have hp := hE e rfl (enS t n q) hl.2
          show match bnd (e (enS t n q)) (fun q' s => if sg t n q' = 41 then pOk (enS t n q') s else pNo q') with | .inl (q', s) => q < q' ∧ q' ≤ n ∧ GC (q' - q) s | .inr q' => q ≤ q' ∧ q' ≤ n
          cases hr : e (enS t n q) with
          | inr q' => rw [hr] at hp; exact ⟨by have := hp.1; omega, hp.2⟩
          | inl p =>
            obtain ⟨q', s⟩ := p
            rw [hr] at hp
            obtain ⟨p1, p2, p3⟩ := hp
            show match (if sg t n q' = 41 then pOk (enS t n q') s else pNo q') with | .inl (q', s) => q < q' ∧ q' ≤ n ∧ GC (q' - q) s | .inr q' => q ≤ q' ∧ q' ≤ n
            by_cases h4 : sg t n q' = 41
            · rw [if_pos h4]
              have hl2 := enS_lt (t := t) p2 (by rw [(sg_sort (by decide) h4).1]; decide)
              exact ⟨by omega, hl2.2, GC_mono p3 (by omega)⟩
            · rw [if_neg h4]; exact ⟨by omega, p2⟩
      · rw [if_neg h3]; exact ⟨Nat.le_refl _, hq⟩
theorem prd_good {E : Option (Nat → PR)} (hE : ∀ e, E = some e → GoodP n e) : GoodP n (prdP t n E) := bl_good (sgl_good hE) OpM 100
theorem sum_good {E : Option (Nat → PR)} (hE : ∀ e, E = some e → GoodP n e) : GoodP n (sumP t n E) := bl_good (prd_good hE) OpS 100
theorem cmp_good {E : Option (Nat → PR)} (hE : ∀ e, E = some e → GoodP n e) : GoodP n (cmpP t n E) := by
  intro q hq
  have hp := sum_good (t := t) hE q hq
  show match bnd (sumP t n E q) (cmpT t n E) with | .inl (q', s) => q < q' ∧ q' ≤ n ∧ GC (q' - q) s | .inr q' => q ≤ q' ∧ q' ≤ n
  cases hr : sumP t n E q with
  | inr q' => rw [hr] at hp; exact hp
  | inl p =>
    obtain ⟨q', s⟩ := p
    rw [hr] at hp
    obtain ⟨p1, p2, p3⟩ := hp
    show match cmpT t n E q' s with | .inl (q', s) => q < q' ∧ q' ≤ n ∧ GC (q' - q) s | .inr q' => q ≤ q' ∧ q' ≤ n
    unfold cmpT
    by_cases e : opC (sg t n q') = 0
    · rw [if_pos e]; exact ⟨p1, p2, p3⟩
    · rw [if_neg e]
      have hl := enS_lt (t := t) p2 (op_sort OpC e)
      have hp2 := sum_good (t := t) hE (enS t n q') hl.2
      cases hr2 : sumP t n E (enS t n q') with
      | inr q2 => rw [hr2] at hp2; exact ⟨by have := hp2.1; omega, hp2.2⟩
      | inl p =>
        obtain ⟨q2, s2⟩ := p
        rw [hr2] at hp2
        obtain ⟨r1, r2, r3⟩ := hp2
        obtain ⟨o1, o2, o3⟩ := OpC.2 _ e
        exact ⟨by omega, r2, GC_mono (GC_op p3 r3 o1 o2 o3) (by omega)⟩
theorem not_good {E N : Option (Nat → PR)} (hE : ∀ e, E = some e → GoodP n e) (hN : ∀ e, N = some e → GoodP n e) : GoodP n (notP t n E N) := by
  intro q hq
  unfold notP
  by_cases h3 : sg t n q = 33
  · rw [if_pos h3]
    have hl := enS_lt (t := t) hq (by rw [(sg_sort (by decide) h3).1]; decide)
    cases N with
    | none => exact ⟨Nat.le_refl _, hq⟩
    | some e =>
      have hp := hN e rfl (enS t n q) hl.2
      show match bnd (e (enS t n q)) (fun q' s => pOk q' (s ++ [10107])) with | .inl (q', s) => q < q' ∧ q' ≤ n ∧ GC (q' - q) s | .inr q' => q ≤ q' ∧ q' ≤ n
      cases hr : e (enS t n q) with
      | inr q' => rw [hr] at hp; exact ⟨by have := hp.1; omega, hp.2⟩
      | inl p =>
        obtain ⟨q', s⟩ := p
        rw [hr] at hp
        obtain ⟨p1, p2, p3⟩ := hp
        exact ⟨by omega, p2, GC_mono (GC_turn p3) (by omega)⟩
  · rw [if_neg h3]; exact cmp_good hE q hq
theorem bth_good {E N : Option (Nat → PR)} (hE : ∀ e, E = some e → GoodP n e) (hN : ∀ e, N = some e → GoodP n e) : GoodP n (bthP t n E N) := bl_good (not_good hE hN) OpB 100
theorem eit_good {E N : Option (Nat → PR)} (hE : ∀ e, E = some e → GoodP n e) (hN : ∀ e, N = some e → GoodP n e) : GoodP n (eitP t n E N) := bl_good (bth_good hE hN) OpE 100
theorem lvl_good : ∀ k, (∀ e, (lvl t n k).1 = some e → GoodP n e) ∧ (∀ e, (lvl t n k).2 = some e → GoodP n e) := by
  intro k
  induction k with
  | zero => exact ⟨fun e h => (by cases h), fun e h => (by cases h)⟩
  | succ k ih => exact ⟨fun e h => (by cases h; exact eit_good ih.1 ih.2), fun e h => (by cases h; exact not_good ih.1 ih.2)⟩
end PRG
