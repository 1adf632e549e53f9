/-! ===== what lies outside and is never written: static arrays, String constants, the script; links among nest mates ===== -/
def axL : List (String × String × List Int32) := [("TowField$Kinds", "ABOVE", [-1, 0, 0, 1, 2, 2]), ("TowField$World", "RULE_FIRST", [4, 0, 10, 2]), ("TowField$World", "RULE_LEAST", [1, 0, 1, 0]), ("TowField$World", "RULE_MOST", [20, 900, 60, 20])]
def sxL : List (String × Nat × String × List Int32) := [("TowField$Tape", 93, "height", [104, 101, 105, 103, 104, 116]), ("TowField$Tape", 99, "minutes", [109, 105, 110, 117, 116, 101, 115]), ("TowField$Tape", 101, "kind", [107, 105, 110, 100]), ("TowField$Tape", 103, "wind", [119, 105, 110, 100]), ("TowField$Tape", 85, "|&!<=>+-*/()", [124, 38, 33, 60, 61, 62, 43, 45, 42, 47, 40, 41]), ("TowFieldModel", 27, "height", [104, 101, 105, 103, 104, 116]), ("TowFieldModel", 29, "minutes", [109, 105, 110, 117, 116, 101, 115]), ("TowFieldModel", 31, "kind", [107, 105, 110, 100]), ("TowFieldModel", 33, "wind", [119, 105, 110, 100])]
def nestL : List (String × Nat × MethodName) := [
  ("TowField", 9, ⟨"TowField$Texts", "<init>", "()V"⟩), ("TowField$World", 9, ⟨"TowField$Gliders", "<init>", "()V"⟩), ("TowField$World", 18, ⟨"TowField$People", "<init>", "()V"⟩), ("TowField$World", 25, ⟨"TowField$Winches", "<init>", "()V"⟩),
  ("TowField$World", 32, ⟨"TowField$Planes", "<init>", "()V"⟩), ("TowField$World", 46, ⟨"TowField$Asks", "<init>", "()V"⟩), ("TowField", 33, ⟨"TowField$Sheets", "<init>", "()V"⟩), ("TowField", 40, ⟨"TowField$Tape", "<init>", "()V"⟩),
  ("TowField$Gliders", 29, ⟨"TowField", "within", "(III)Z"⟩), ("TowField$Gliders", 35, ⟨"TowField", "hasBit", "(II)Z"⟩), ("TowField$People", 29, ⟨"TowField", "within", "(III)Z"⟩), ("TowField$People", 35, ⟨"TowField", "hasBit", "(II)Z"⟩),
  ("TowField$Winches", 20, ⟨"TowField", "within", "(III)Z"⟩), ("TowField$Planes", 17, ⟨"TowField", "within", "(III)Z"⟩), ("TowField$Lanes", 29, ⟨"TowField", "within", "(III)Z"⟩), ("TowField$Kinds", 9, ⟨"TowField", "within", "(III)Z"⟩),
  ("TowField$Asks", 50, ⟨"TowField", "within", "(III)Z"⟩), ("TowField$World", 148, ⟨"TowField", "hasBit", "(II)Z"⟩), ("TowField$Lanes", 35, ⟨"TowField", "hasBit", "(II)Z"⟩), ("TowField$Tape", 75, ⟨"TowField", "within", "(III)Z"⟩),
  ("TowField$World", 277, ⟨"TowField", "withBit", "(IIZ)I"⟩), ("TowField$Sheets", 21, ⟨"TowField", "within", "(III)Z"⟩)]
def aoI (U : State) : Prop := (Cond.arrayOver (.array .int)).before #[] U = true
theorem aoI_spec {u : State} (h : aoI u) : ∃ comp c k, u.vm.findClass (FieldType.array .int).toString = some comp ∧ (u.vm.classes.findIdx? fun (x : Class) => match x.kind with | .array component _ => component == comp | _ => false) = some c ∧ u.vm.classes[c]? = some k ∧ k.kind = .array comp (.array .int) ∧ u.vm.findClass ("[" ++ (FieldType.array .int).toString) = some c := by
  unfold aoI Cond.before at h
  simp only [Cond.holds, Cond.value, beq_iff_eq] at h
  cases hc : u.vm.findClass (FieldType.array .int).toString with
  | none => simp [hc] at h
  | some comp =>
    simp only [hc, Option.bind_some, Option.bind_eq_some_iff, Option.map_eq_some_iff] at h
    obtain ⟨c, hi, k, hk, hb⟩ := h
    obtain ⟨hlt, hp, -⟩ := Array.findIdx?_eq_some_iff_getElem.mp hi
    have hkk : u.vm.classes[c] = k := (Array.getElem?_eq_some_iff.mp hk).2
    rw [hkk] at hp
    cases hkind : k.kind with
    | array component ty =>
      rw [hkind] at hb hp
      simp at hb hp
      exact ⟨comp, c, k, rfl, hi, hk, by rw [hkind, hp, hb.1], hb.2⟩
    | _ => rw [hkind] at hb; simp at hb
theorem aoI_moved {u U : State} (hvm : u.vm.Alike U.vm) (h : aoI u) : aoI U := by
  obtain ⟨comp, c, k, h1, h2, h3, h4, h5⟩ := aoI_spec h
  obtain ⟨k', hk', he⟩ := hvm.2.2 _ _ h3
  have hi : (U.vm.classes.findIdx? fun (x : Class) => match x.kind with | .array component _ => component == comp | _ => false) = some c := by
    have a1 := va_idx_bare U.vm comp
    have a2 := va_idx_bare u.vm comp
    have hb : U.vm.bare = u.vm.bare := by first | exact hvm.bare_eq | exact hvm.bare_eq.symm
    rw [hb] at a1
    exact a1.symm.trans (a2.trans h2)
  have hkind : k'.kind = .array comp (.array .int) := by rw [he]; exact h4
  have f1 : U.vm.findClass (FieldType.array .int).toString = some comp := by rw [hvm.findClass]; exact h1
  have f2 : U.vm.findClass ("[" ++ (FieldType.array .int).toString) = some c := by rw [hvm.findClass]; exact h5
  unfold aoI Cond.before Cond.holds
  simp only [Cond.value]
  rw [f1, Option.bind_some]
  refine (congrArg (fun o : Option Nat => (o.bind (fun c => (U.vm.classes[c]?).map fun (k : Class) => match k.kind with | .array _ ty => decide (ty = FieldType.array .int) && decide (U.vm.findClass ("[" ++ (FieldType.array .int).toString) = some c) | _ => false) == some true)) hi).trans ?_
  simp [hk', hkind, f2]
/-- one String constant -/
def sxAt (ω : Om) (j : Nat) (q : String × Nat × String × List Int32) (U : State) (H : Heap) : Prop :=
  vk_R q.1 q.2.1 q.2.2.1 (oR ω (100100 + j)) U ∧ va_O "java/lang/String" (oR ω (100100 + j)) (oA ω) U H ∧ va_OF "java/lang/String" "coder" "B" (.int 0) (oR ω (100100 + j)) (oA ω) U H ∧ va_OF "java/lang/String" "value" "[B" (.ref (oR ω (100200 + j))) (oR ω (100100 + j)) (oA ω) U H ∧ va_T .byte (oR ω (100200 + j)) q.2.2.2.length (fun i => .int (q.2.2.2.getD i 0)) (oA ω) U H
def axAt (ω : Om) (j : Nat) (q : String × String × List Int32) (U : State) (H : Heap) : Prop :=
  va_Z q.1 q.2.1 "[I" (.ref (oR ω (100000 + j))) (oA ω) U H ∧ va_T .int (oR ω (100000 + j)) q.2.2.length (fun i => .int (q.2.2.getD i 0)) (oA ω) U H
def EnvX (ω : Om) (U : State) (H : Heap) : Prop :=
  (∀ j q, axL[j]? = some q → axAt ω j q U H) ∧ (∀ j q, sxL[j]? = some q → sxAt ω j q U H) ∧ va_Z "java/lang/String" "COMPACT_STRINGS" "Z" (.int 1) (oA ω) U H ∧ va_Z "jdk/internal/util/Preconditions" "SIOOBE_FORMATTER" "Ljava/util/function/BiFunction;" (cV ω (oF ω)) (oA ω) U H ∧ va_T .int (oR ω 100300) (oL ω) (fun j => .int (oX ω j)) (oA ω) U H
def EnvK (ω : Om) (U : State) : Prop :=
  va_K (oD ω) vwCl (tysL ω) U ∧ (∀ q ∈ nestL, va_Nw (.methodLinkNest q.1 q.2.1 q.2.2 "TowField") U) ∧ (va_AO "java/lang/String" U ∧ aoI U) ∧ EnvX ω U U.heap ∧ (oF ω = .null ∨ oF ω = .ref 100301)
theorem EnvK.move {ω : Om} {s U : State} (h : EnvK ω s) (hW : s.WarmedH U.vm) (hq : ∀ a : Nat, a < s.heap.size → ¬ oA ω a → U.heap[a]? = s.heap[a]?) : EnvK ω U := by
  obtain ⟨h1, h2, ⟨h3, h4⟩, ⟨e1, e2, e3, e4, e5⟩, h6⟩ := h
  have hvm := hW.alike
  refine ⟨va_K.moved hvm h1, fun q hq => va_Nw.warmM hW (h2 q hq), ⟨va_AO.moved hvm h3, aoI_moved hvm h4⟩, ⟨fun j q hj => ?_, fun j q hj => ?_, (va_Z.moved hvm e3).kept hq, (va_Z.moved hvm e4).kept hq, (va_T.moved hvm e5).kept hq⟩, h6⟩
  · obtain ⟨a1, a2⟩ := e1 j q hj
    exact ⟨(va_Z.moved hvm a1).kept hq, (va_T.moved hvm a2).kept hq⟩
  · obtain ⟨a1, a2, a3, a4, a5⟩ := e2 j q hj
    exact ⟨vk_R.warm hW a1, (va_O.moved hvm a2).kept hq, (va_OF.moved hvm a3).kept hq, (va_OF.moved hvm a4).kept hq, (va_T.moved hvm a5).kept hq⟩
/-- the same machine tables, the same heap -/
theorem EnvK.same {ω : Om} {s U : State} (h : EnvK ω s) (hv : U.vm = s.vm) (hh : U.heap = s.heap) : EnvK ω U := by
  obtain ⟨h1, h2, ⟨h3, h4⟩, ⟨e1, e2, e3, e4, e5⟩, h6⟩ := h
  have hvm : s.vm.Alike U.vm := by rw [hv]; exact Vm.Alike.refl _
  unfold EnvK
  rw [hh]
  refine ⟨va_K.moved hvm h1, fun q hq => va_Nw.same rfl hv.symm (h2 q hq), ⟨va_AO.moved hvm h3, aoI_moved hvm h4⟩, ⟨fun j q hj => ?_, fun j q hj => ?_, va_Z.moved hvm e3, va_Z.moved hvm e4, va_T.moved hvm e5⟩, h6⟩
  · obtain ⟨a1, a2⟩ := e1 j q hj
    exact ⟨va_Z.moved hvm a1, va_T.moved hvm a2⟩
  · obtain ⟨a1, a2, a3, a4, a5⟩ := e2 j q hj
    exact ⟨vk_R.same hv a1, va_O.moved hvm a2, va_OF.moved hvm a3, va_OF.moved hvm a4, va_T.moved hvm a5⟩
