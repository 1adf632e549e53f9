/-! ===== the abstract heap: int arrays, arrays of references (by kind), objects; a reference is a place of the heap (or, from 100000 on, a cell that nobody writes) ===== -/
abbrev AE : Type := (Nat × (Nat → Int32)) ⊕ ((Nat × Nat × (Nat → Option Nat)) ⊕ (Nat × List Value))
abbrev AH : Type := List AE
/-- class numbers and slots; array classes by kind; addresses; the first own address; the script's length and ints; the formatter -/
abbrev Om : Type := va_G × (Nat → ClassId) × (Nat → Nat) × Nat × Nat × (Nat → Int32) × Value
abbrev oD (ω : Om) : va_G := ω.1
abbrev oT (ω : Om) : Nat → ClassId := ω.2.1
abbrev oR (ω : Om) : Nat → Nat := ω.2.2.1
abbrev oZ (ω : Om) : Nat := ω.2.2.2.1
abbrev oL (ω : Om) : Nat := ω.2.2.2.2.1
abbrev oX (ω : Om) : Nat → Int32 := ω.2.2.2.2.2.1
abbrev oF (ω : Om) : Value := ω.2.2.2.2.2.2
def oA (ω : Om) : Nat → Prop := fun q => oZ ω ≤ q
def cV (ω : Om) (v : Value) : Value := match v with
  | .ref k => .ref (oR ω k)
  | w => w
theorem cV_int (ω : Om) (x : Int32) : cV ω (.int x) = .int x := rfl
theorem cV_ref (ω : Om) (k : Nat) : cV ω (.ref k) = .ref (oR ω k) := rfl
theorem cV_cat (ω : Om) (v : Value) : (cV ω v).category = v.category := by cases v <;> rfl
def cE (ω : Om) (e : AE) : va_E := match e with
  | .inl a => .inl (oT ω 0, a.1, .inl a.2)
  | .inr (.inl a) => .inl (oT ω a.1, a.2.1, .inr (.inr (.inr (.inr (fun j => (a.2.2 j).map (oR ω))))))
  | .inr (.inr o) => .inr (o.1, o.2.map (cV ω))
def cW (ω : Om) (h : AH) : va_W := h.mapIdx (fun k e => (oR ω k, cE ω e))
theorem cW_get (ω : Om) (h : AH) (k : Nat) {e : AE} (hk : h[k]? = some e) : (cW ω h)[k]? = some (oR ω k, cE ω e) := by
  unfold cW
  rw [List.getElem?_mapIdx, hk]
  rfl
theorem cW_set (ω : Om) (h : AH) (k : Nat) (e : AE) : cW ω (h.set k e) = (cW ω h).set k (oR ω k, cE ω e) := by
  unfold cW
  apply List.ext_getElem?
  intro i
  rw [List.getElem?_mapIdx, List.getElem?_set, List.getElem?_set, List.getElem?_mapIdx, List.length_mapIdx]
  by_cases hki : k = i
  · subst hki
    by_cases hl : k < h.length
    · simp [hl]
    · simp [hl]
  · simp [hki]
def tysL (ω : Om) : List (ClassId × FieldType) := [(oT ω 0, .int), (oT ω 1, .array .int), (oT ω 2, .object "java/lang/String")]
/-- the machine's heap holds the abstract one, and nothing old has changed -/
def Jh (ω : Om) (h : AH) (H : Heap) : Prop := va_P (oD ω) vwCl (cW ω h) H ∧ va_D (oA ω) (cW ω h)
def J (ω : Om) (s : State) (h : AH) (H : Heap) (locs : List Loc) : Prop := Jh ω h H ∧ va_S (oA ω) s.heap H locs
/-- the locals -/
def Hs (ω : Om) (ls : Array Slot) (lv : List (Option Value)) : Prop := ls.size = lv.length ∧ lv_wf ls ∧ ∀ (i : Nat) (v : Value), lv[i]? = some (some v) → ls[i]? = some (.val (cV ω v)) ∧ v.category = 1
def lvP (ω : Om) (lv : List (Option Value)) : List (Nat × Value) := (List.range lv.length).filterMap (fun i => (lv[i]?.getD none).map (fun v => (i, cV ω v)))
theorem lvP_mem {ω : Om} {lv : List (Option Value)} {q : Nat × Value} : q ∈ lvP ω lv ↔ ∃ v, lv[q.1]? = some (some v) ∧ q.2 = cV ω v := by
  unfold lvP
  rw [List.mem_filterMap]
  constructor
  · rintro ⟨i, hi, he⟩
    cases hx : lv[i]? with
    | none => rw [hx] at he; simp at he
    | some o =>
      cases o with
      | none => rw [hx] at he; simp at he
      | some v =>
        rw [hx] at he
        simp at he
        subst he
        exact ⟨v, hx, rfl⟩
  · rintro ⟨v, h1, h2⟩
    refine ⟨q.1, List.mem_range.mpr (List.getElem?_eq_some_iff.mp h1).1, ?_⟩
    rw [h1]
    simp [← h2]
theorem Hs.has {ω : Om} {ls : Array Slot} {lv : List (Option Value)} (h : Hs ω ls lv) : lv_has ls lv.length (lvP ω lv) := by
  refine ⟨h.1, h.2.1, fun q hq => ?_⟩
  obtain ⟨v, h1, h2⟩ := lvP_mem.mp hq
  rw [h2]
  exact (h.2.2 _ _ h1).1
theorem Hs.stored {ω : Om} {ls ls' : Array Slot} {lv : List (Option Value)} {i : Nat} {x : Value} (h : Hs ω ls lv) (hx : x.category = 1) (hi : i < lv.length)
    (h' : lv_has ls' lv.length ((i, cV ω x) :: (lvP ω lv).filter (fun q => !(q.1 == i) && !(q.1 + 1 == i && q.2.category == 2)))) : Hs ω ls' (lv.set i (some x)) := by
  refine ⟨by rw [List.length_set]; exact h'.1, h'.2.1, fun j v hj => ?_⟩
  rw [List.getElem?_set] at hj
  by_cases hji : i = j
  · subst hji
    rw [if_pos rfl, if_pos hi] at hj
    cases hj
    exact ⟨h'.2.2 (i, cV ω x) List.mem_cons_self, hx⟩
  · rw [if_neg hji] at hj
    have hc := (h.2.2 j v hj).2
    refine ⟨h'.2.2 (j, cV ω v) (List.mem_cons_of_mem _ (List.mem_filter.mpr ⟨lvP_mem.mpr ⟨v, hj, rfl⟩, ?_⟩)), hc⟩
    have e1 : (j == i) = false := by simpa using fun e => hji e.symm
    simp [e1, cV_cat, hc]
/-- the words that every method may lean on -/
def TW : List Cond := lw_tbl.filter goodWord
theorem TW_of {w : Cond} (h : w ∈ lw_tbl) (g : goodWord w = true) : w ∈ TW := List.mem_filter.mpr ⟨h, g⟩
theorem TW_good {w : Cond} (h : w ∈ TW) : (w.onTables && w.keeps) = true ∨ ∃ ty, w = .arrayClass ty := good_of_word (List.mem_filter.mp h).2
theorem TW_in {Ts : List Cond} {ws : List Cond} (hT : ∀ w ∈ TW, w ∈ Ts) (h : ∀ w ∈ ws, w ∈ TW) : GoodIn Ts ws := fun w hw => ⟨hT w (h w hw), TW_good (h w hw)⟩
