/-! ===== arrays of arrays of ints: one step of the machine ===== -/
/-- the outer array, its first i rows in it -/
def oArr (c : ClassId) (N h0 i : Nat) : Cell := arrV c N (fun j => if j < i then .ref (h0 + 1 + j) else .null)
def iArr (c : ClassId) (M : Nat) : Cell := arrV c M (fun _ => .int 0)
/-- the machine behind i rows -/
def mf (s : State) (c comp : ClassId) (N M : Nat) : Nat → State
  | 0 => s.pushCell (oArr c N s.heap.size 0)
  | i + 1 => ((mf s c comp N M i).pushCell (iArr comp M)).setCell s.heap.size (oArr c N s.heap.size (i + 1))
theorem oArr_0 (c : ClassId) (N h0 : Nat) : oArr c N h0 0 = { cls := c, slots := Array.replicate N .null } := by
  unfold oArr
  rw [arrV_new]
  congr 1
theorem iArr_0 (c : ClassId) (M : Nat) : iArr c M = { cls := c, slots := Array.replicate M (.int 0) } := by
  unfold iArr
  rw [arrV_new]
theorem oArr_s (c : ClassId) (N h0 i : Nat) : (oArr c N h0 i).setSlot i (.ref (h0 + 1 + i)) = oArr c N h0 (i + 1) := by
  unfold oArr
  rw [arrV_store]
  congr 1
  funext j
  unfold updV
  by_cases e : j = i
  · rw [if_pos e, if_pos (by omega), e]
  · rw [if_neg e]
    show (if j < i then Value.ref (h0 + 1 + j) else Value.null) = _
    by_cases l : j < i
    · rw [if_pos l, if_pos (by omega)]
    · rw [if_neg l, if_neg (by omega)]
theorem push_at (s : State) (x : Cell) : (s.pushCell x).heap = s.heap.push x := rfl
theorem mf_facts (s : State) (c comp : ClassId) (N M : Nat) : ∀ i, (mf s c comp N M i).heap.size = s.heap.size + 1 + i ∧ (mf s c comp N M i).heap[s.heap.size]? = some (oArr c N s.heap.size i) ∧ (mf s c comp N M i).vm = s.vm ∧ (mf s c comp N M i).slotsUsed = s.slotsUsed + N + i * M ∧ (∀ a : Nat, a < s.heap.size → (mf s c comp N M i).heap[a]? = s.heap[a]?) ∧ ∀ j, j < i → (mf s c comp N M i).heap[s.heap.size + 1 + j]? = some (iArr comp M) := by
  intro i
  induction i with
  | zero =>
    refine ⟨?_, ?_, rfl, ?_, fun a ha => ?_, fun j hj => absurd hj (by omega)⟩
    · show (s.heap.push _).size = _; rw [Array.size_push]
    · show (s.heap.push _)[s.heap.size]? = _; rw [Array.getElem?_push_size]
    · show s.slotsUsed + (oArr c N s.heap.size 0).slots.size = _
      unfold oArr; rw [arrV_size]; omega
    · show (s.heap.push _)[a]? = _; rw [Array.getElem?_push, if_neg (Nat.ne_of_lt ha)]
  | succ i ih =>
    obtain ⟨h1, h2, h3, h4, h5, h6⟩ := ih
    have hh : (mf s c comp N M (i + 1)).heap = ((mf s c comp N M i).heap.push (iArr comp M)).setIfInBounds s.heap.size (oArr c N s.heap.size (i + 1)) := rfl
    have hlt : s.heap.size < ((mf s c comp N M i).heap.push (iArr comp M)).size := by rw [Array.size_push, h1]; omega
    refine ⟨?_, ?_, h3, ?_, fun a ha => ?_, fun j hj => ?_⟩
    · rw [hh, Array.size_setIfInBounds, Array.size_push, h1]; omega
    · rw [hh, Array.getElem?_setIfInBounds, if_pos rfl, if_pos hlt]
    · show (mf s c comp N M i).slotsUsed + (iArr comp M).slots.size = _
      unfold iArr; rw [arrV_size, h4, Nat.succ_mul]; omega
    · rw [hh, Array.getElem?_setIfInBounds, if_neg (by omega), Array.getElem?_push, if_neg (by rw [h1]; omega)]
      exact h5 a ha
    · rw [hh, Array.getElem?_setIfInBounds, if_neg (by omega), Array.getElem?_push]
      by_cases e : s.heap.size + 1 + j = (mf s c comp N M i).heap.size
      · rw [if_pos e]
      · rw [if_neg e]; exact h6 j (by rw [h1] at e; omega)
theorem mf_top (s : State) (g : JFrame) (c comp : ClassId) (N M : Nat) : ∀ i, mf (s.setTop g) c comp N M i = (mf s c comp N M i).setTop g := by
  intro i
  induction i with
  | zero => rfl
  | succ i ih => show (((mf (s.setTop g) c comp N M i).pushCell _).setCell _ _) = _; rw [ih]; rfl
section MW
variable {E : CtlPost} {e : Env} {d : Bool} {acts : List Action} {s : State}
theorem wp_rows {c comp cc : ClassId} {k kc : Class} {n m : Int32} (hk : s.vm.classes[c]? = some k) (hkind : k.kind = .array comp (.array .int)) (hkc : s.vm.classes[comp]? = some kc) (hkindc : kc.kind = .array cc .int) (hn : ¬ n < 0) (hm : ¬ m < 0) {N M : Nat} (hN : n.toNatClampNeg = N) (hM : m.toNatClampNeg = M) (hl1 : ¬ N > e.platform.arrayLengthLimit) (hh1 : ¬ N * 4 > e.platform.maxHeapBytes) (hl2 : ¬ M > e.platform.arrayLengthLimit) (hh2 : ¬ M * 4 > e.platform.maxHeapBytes)
    (hc : s.heap.size + 1 + N ≤ e.platform.maxCells) (hs : s.slotsUsed + N + N * M ≤ e.platform.maxSlots) {Q : Addr → Pre} (hq : ∀ d' acts', Q s.heap.size d' acts' (mf s c comp N M N)) : wp (multianewarray.make c [n, m]) Q E e d acts s := by
  subst hN; subst hM
  have hfind : ([m].find? (· < 0)) = none := by simp [hm]
  rw [multianewarray.make]
  simp only [wp_bind', W.ite, hn, if_false, wp_pure', W.theClass, hk, hkind, Option.some.injEq, exists_eq_left']
  refine W.newArray_of hk hkind hl1 hh1 (by omega) (by have := Nat.zero_le (n.toNatClampNeg * m.toNatClampNeg); omega) rfl (fun acts1 => ?_)
  simp only [hfind]
  rw [ite_self, wp_bind', Std.Legacy.Range.forIn_eq_forIn_range']
  rw [show ([:n.toNatClampNeg] : Std.Legacy.Range).size = n.toNatClampNeg from by simp [Std.Legacy.Range.size]]
  rw [← oArr_0 c n.toNatClampNeg s.heap.size]
  refine wp_forIn_inv (fun rest s' => ∃ i, i ≤ n.toNatClampNeg ∧ rest = List.range' i (n.toNatClampNeg - i) ∧ s' = mf s c comp n.toNatClampNeg m.toNatClampNeg i) _ _ ⟨0, Nat.zero_le _, rfl, rfl⟩ ?_ ?_
  · rintro x rest s' d' acts' Q' ⟨i, hi, hl, rfl⟩ hnext
    obtain ⟨r, hr⟩ : ∃ r, n.toNatClampNeg - i = r := ⟨_, rfl⟩
    rw [hr] at hl
    cases r with
    | zero => cases hl
    | succ r =>
      rw [List.range'_succ] at hl
      obtain ⟨rfl, rfl⟩ := List.cons.inj hl
      obtain ⟨f1, f2, f3, f4, f5, f6⟩ := mf_facts s c comp n.toNatClampNeg m.toNatClampNeg x
      have hmul : x * m.toNatClampNeg + m.toNatClampNeg ≤ n.toNatClampNeg * m.toNatClampNeg := by
        rw [← Nat.succ_mul]; exact Nat.mul_le_mul_right _ (by omega)
      simp only [wp_bind']
      rw [multianewarray.make]
      simp only [wp_bind', W.ite, hm, if_false, wp_pure', W.theClass, f3, hkc, hkindc, Option.some.injEq, exists_eq_left']
      refine W.newArray_of (by rw [f3]; exact hkc) hkindc hl2 hh2 (by rw [f1]; omega) (by rw [f4]; omega) rfl (fun acts2 => ?_)
      rw [show defaultValue .int = .int 0 from rfl, ← iArr_0]
      simp only [wp_bind', W.writeLoc, wp_pure']
      refine ⟨oArr c n.toNatClampNeg s.heap.size x, ?_, ?_, ?_, ?_, hnext _ _ _ ⟨x + 1, by omega, by rw [show n.toNatClampNeg - (x + 1) = r by omega], ?_⟩⟩
      · rw [push_at, Array.getElem?_push, if_neg (by rw [f1]; omega)]; exact f2
      · show Cell.vm (arrV _ _ _) ≠ _; simp [arrV]
      · unfold oArr; rw [arrV_size]; omega
      · show State.fitsSlot _ (arrV _ _ _).cls (arrV _ _ _).vm _ _ = true
        simp only [arrV]
        simp [State.fitsSlot, State.slotType?, f3, hk, hkind, fits]
      · rw [f1, oArr_s]; rfl
  · rintro s' d' acts' ⟨i, hi, hl, rfl⟩
    have : n.toNatClampNeg - i = 0 := by
      have := congrArg List.length hl
      rw [List.length_range'] at this
      exact this.symm
    simp only [wp_pure']
    rw [show i = n.toNatClampNeg by omega]
    exact hq _ _
end MW
section MS
variable {p : Program} {l : Launch} {e : Env} {R : Room} {s : State} {m : MethodId} {args : Array Value} {below : List Frame} {meth : Method} {c : Code} {T : State} {locs : List Loc} {cells slots : Nat}
theorem mf_stand (X : Stand p l e R s m args below meth c T locs cells slots) (cA comp : ClassId) (N M : Nat) : ∀ i, ∃ L : List Loc, (∀ q ∈ L, q.base = T.heap.size) ∧ Stand p l e R s m args below meth c (mf T cA comp N M i) (locs ++ L) (cells + 1 + i) (slots + N + i * M) := by
  intro i
  induction i with
  | zero =>
    have h := X.pushed (oArr cA N T.heap.size 0)
    rw [show (oArr cA N T.heap.size 0).slots.size = N from by unfold oArr; rw [arrV_size]] at h
    exact ⟨[], (fun q hq => by cases hq), by rw [List.append_nil, Nat.zero_mul]; exact h⟩
  | succ i ih =>
    obtain ⟨L, hL, Xi⟩ := ih
    obtain ⟨f1, f2, f3, f4, f5, f6⟩ := mf_facts T cA comp N M i
    have h := (Xi.pushed (iArr comp M)).stored (a := T.heap.size) (cell := oArr cA N T.heap.size i) (by rw [push_at, Array.getElem?_push, if_neg (by rw [f1]; omega)]; exact f2) i (.ref (T.heap.size + 1 + i))
    rw [oArr_s, show (iArr comp M).slots.size = M from by unfold iArr; rw [arrV_size]] at h
    refine ⟨L ++ [⟨T.heap.size, i⟩], fun q hq => ?_, ?_⟩
    · rcases List.mem_append.mp hq with z | z
      · exact hL q z
      · rw [List.mem_singleton.mp z]
    · rw [← List.append_assoc, Nat.succ_mul, ← Nat.add_assoc (slots + N)]
      exact h
theorem multi_step (X : Stand p l e R s m args below meth c T locs cells slots) (hexec : p.tables.exec = Jvm.exec) {own : String} {index : Nat} (hown : s.vm.findClass own = some m.cls) (hclink : (Cond.classLink own index "[[I").before args s = true) (hover : aoI s) (harr : (Cond.arrayClass .int).before args s = true)
    {g : JFrame} (hg : g.method = m) (hdg : decode c.code g.pc = .ok (.multianewarray index 2, 4)) {n k : Int32} {rest : List Value} (hstack : g.stack = .int k :: .int n :: rest) (hn : ¬ n < 0) (hk : ¬ k < 0) {N M : Nat} (hN : n.toNatClampNeg = N) (hM : k.toNatClampNeg = M) (hN2 : N ≤ 1000) (hM2 : M ≤ 1000) (hcells : cells + (1 + N) ≤ R.cells) (hslots : slots + (N + N * M) ≤ R.slots) :
    ∃ (vm₁ : Vm) (cA comp : ClassId) (L : List Loc), s.vm.findClass "[[I" = some cA ∧ s.vm.findClass "[I" = some comp ∧ (∀ q ∈ L, q.base = T.heap.size) ∧ Stand p l e R s m args below meth c (mf (T.setVm vm₁) cA comp N M N) (locs ++ L) (cells + 1 + N) (slots + N + N * M) ∧
      ∀ target, Steps p.tables e below ((mf (T.setVm vm₁) cA comp N M N).setTop { g with pc := g.pc + 4, stack := .ref T.heap.size :: rest }) target → Steps p.tables e below (T.setTop g) target := by
  subst hg
  have hpl : e.platform.magicAccessors = ({} : Platform).magicAccessors := by rw [X.admits.platform]
  obtain ⟨comp, cA, kA, hcomp, -, hkA, hkindA, hnameA⟩ := aoI_spec hover
  obtain ⟨comp', kC, cc, hcomp', hkC, hkindC⟩ := Cond.arrayClass_spec harr
  have ecomp : comp' = comp := Option.some.inj (hcomp'.symm.trans hcomp)
  subst ecomp
  obtain ⟨c0, hfc0, hcl⟩ := Cond.classLink_spec hown hclink e.platform hpl
  have ec : c0 = cA := Option.some.inj (hfc0.symm.trans hnameA)
  subst ec
  obtain ⟨hg₁, hwarm₁, hready₁⟩ := State.classEntry (e := e) X.warmed hcl
  generalize T.vm.noted g.method.cls index (.cls c0) = vm₁ at hg₁ hwarm₁ hready₁
  obtain ⟨kA₁, hkA₁, heA⟩ := hwarm₁.alike.2.2 _ _ hkA
  obtain ⟨kC₁, hkC₁, heC⟩ := hwarm₁.alike.2.2 _ _ hkC
  obtain ⟨hr1, hr2⟩ := X.roomAbove hcells hslots
  obtain ⟨L, hL, XF⟩ := mf_stand (X.noted hwarm₁) c0 comp' N M N
  refine ⟨vm₁, c0, comp', L, hnameA, hcomp, hL, XF, fun target hrest => ?_⟩
  have hal := Launch.admits_arrayLengthLimit X.admits
  have hah := Launch.admits_maxHeapBytes X.admits
  jvm_step X.here [hexec, hdg]
  simp only [multianewarray.sem, wp_bind', W.resolveClassAt_links (State.method?_setTop g X.here.top) hg₁]
  rw [W.popN, if_neg (by decide)]
  refine ⟨g, State.topJava?_setTop' (s := T.setVm vm₁) g X.here.top, [.int n, .int k], rest, rfl, hstack, ?_⟩
  simp only [List.mapM_cons, List.mapM_nil, wp_bind', wp_pure']
  refine wp_rows (N := N) (M := M) (k := kA₁) (kc := kC₁) (comp := comp') (cc := cc) hkA₁ (by rw [heA]; exact hkindA) hkC₁ (by rw [heC]; exact hkindC) hn hk hN hM (by rw [hal]; omega) (by rw [hah]; omega) (by rw [hal]; omega) (by rw [hah]; omega) (by show T.heap.size + 1 + _ ≤ _; omega) (by show T.slotsUsed + _ + _ ≤ _; omega) (fun d' acts' => ?_)
  have eS : ((T.setTop g).setVm vm₁).setTop { g with stack := rest } = (T.setVm vm₁).setTop { g with stack := rest } := by
    show ((T.setVm vm₁).setTop g).setTop _ = _
    rw [State.setTop_setTop]
  rw [eS, mf_top]
  simp only [wp_bind', W.mark, W.pushRef, State.topJava?_setTop' _ XF.here.top, Option.some.injEq, exists_eq_left', State.setTop_setTop, State.heap_setTop]
  intro acts
  simp [jvm, XF.here.top]
  exact hrest
end MS
