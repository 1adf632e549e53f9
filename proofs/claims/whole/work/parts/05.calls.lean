/-! ===== contracts and calls ===== -/
/-- a method: its name, its code, how many locals, what it answers -/
abbrev MI : Type := MethodName × ByteArray × Nat × Option FieldType
def Qc (ω : Om) (post : Option Value → AH → Prop) : Array Value → State → Outcome → State → Prop := fun _ st oc t => ∃ r h', oc = .returned (r.map (cV ω)) ∧ post r h' ∧ Jh ω h' t.heap ∧ va_F (oA ω) st t
def rmD (d : Nat) : Room := { frames := d, cells := 0, slots := 0, locals := 40 * d }
def wsM (M : MI) : List Cond := .code M.1 M.2.1 M.2.2.1 M.2.2.2 :: TW
def Pc0 (ω : Om) (as : List Value) (h : AH) : Array Value → State → Prop := va_Pc (as.map (cV ω)) (fun U => EnvK ω U ∧ Jh ω h U.heap ∧ (∀ q, U.heap.size ≤ q → oA ω q))
def Con (d : Nat) (M : MI) (as : List Value) (h : AH) (post : Option Value → AH → Prop) : Prop :=
  ∀ (l : Launch) (ω : Om), Met l M.1 (wsM M) (rmD d) (Pc0 ω as h) (Qc ω post) 0 0 (oA ω)
abbrev RQ (μ : Mx) (ω : Om) (post : Option Value → AH → Prop) : State → Prop := MQ (mB μ) (Qc ω post) (mA μ) (mS μ) 0 0 (oA ω)
theorem Pc0_blind (ω : Om) (as : List Value) (h : AH) : FrameBlind (Pc0 ω as h) := fun a U g mk q => ⟨q.1, EnvK.same q.2.1 rfl rfl, q.2.2.1, q.2.2.2⟩
theorem lv_args_cat (ω : Om) : ∀ (as : List Value) (i : Nat), (∀ v ∈ as, v.category = 1) → ∀ (j : Nat) (v : Value), as[j]? = some v → (i + j, cV ω v) ∈ lv_args i (as.map (cV ω))
  | [], _, _, j, v, h => by simp at h
  | a :: as, i, hc, j, v, h => by
    have h1 : (cV ω a).category = 1 := by rw [cV_cat]; exact hc a List.mem_cons_self
    show (i + j, cV ω v) ∈ (i, cV ω a) :: lv_args (if (cV ω a).category = 2 then i + 2 else i + 1) (as.map (cV ω))
    rw [if_neg (by rw [h1]; decide)]
    cases j with
    | zero =>
      rw [List.getElem?_cons_zero] at h
      cases h
      exact List.mem_cons_self
    | succ j =>
      rw [List.getElem?_cons_succ] at h
      have := lv_args_cat ω as (i + 1) (fun v hv => hc v (List.mem_cons_of_mem _ hv)) j v h
      rw [show i + (j + 1) = i + 1 + j by omega]
      exact List.mem_cons_of_mem _ this
theorem lg_sl_len (ω : Om) : ∀ (as : List Value), (∀ v ∈ as, v.category = 1) → (lg_sl (as.map (cV ω))).length = as.length
  | [], _ => rfl
  | a :: as, hc => by
    have h1 : (cV ω a).category = 1 := by rw [cV_cat]; exact hc a List.mem_cons_self
    have ih := lg_sl_len ω as (fun v hv => hc v (List.mem_cons_of_mem _ hv))
    unfold lg_sl at ih ⊢
    rw [List.map_cons, List.flatMap_cons, List.length_append, ih, if_neg (by rw [h1]; decide)]
    simp
    omega
def lvIn (as : List Value) (nL : Nat) : List (Option Value) := as.map some ++ List.replicate (nL - as.length) none
theorem Hs_entry (ω : Om) (as : List Value) (nL : Nat) (hc : ∀ v ∈ as, v.category = 1) (hn : as.length ≤ nL) : Hs ω ((lg_sl (as.map (cV ω)) ++ List.replicate (nL - (lg_sl (as.map (cV ω))).length) Slot.unset).toArray) (lvIn as nL) := by
  have hlen := lg_sl_len ω as hc
  have h0 := lv_entry (as.map (cV ω)) (n := nL) (by rw [hlen]; exact hn)
  refine ⟨?_, h0.2.1, fun i v hi => ?_⟩
  · rw [h0.1]; simp [lvIn]; omega
  · have hi2 : as[i]? = some v := by
      unfold lvIn at hi
      by_cases hl : i < as.length
      · rw [List.getElem?_append_left (by simpa using hl), List.getElem?_map] at hi
        cases hx : as[i]? with
        | none => rw [hx] at hi; cases hi
        | some w => rw [hx] at hi; simpa using hi
      · rw [List.getElem?_append_right (by simpa using Nat.le_of_not_lt hl), List.getElem?_replicate] at hi
        split at hi <;> cases hi
    have hm := lv_args_cat ω as 0 hc i v hi2
    rw [Nat.zero_add] at hm
    exact ⟨h0.2.2 _ hm, hc v (List.mem_of_getElem? hi2)⟩
theorem con_of {d : Nat} {M : MI} {as : List Value} {h : AH} {post : Option Value → AH → Prop} (hy : plainName M.1.cls = true) (hc : ∀ v ∈ as, v.category = 1) (hn : as.length ≤ M.2.2.1)
    (body : ∀ (μ : Mx) (ω : Om), Cx μ ω M.1.cls M.2.1 M.2.2.1 d → (mH μ).sig.returnType = M.2.2.2 → G μ ω (RQ μ ω post) 0 (lvIn as M.2.2.1) [] h 0 0) : Con d M as h post := by
  intro l ω
  refine Met.ofW (cc := M.2.1) (maxL := M.2.2.1) (ret := M.2.2.2) hy rfl ?_
  intro p e s m args below meth c s₁ B hml hv
  obtain ⟨rfl, hE, hJ, hA⟩ := hv
  have hts := atoms_spec (ws := wsM M) B.pre
  have C : Cx (p, l, e, (headSpec (wsM M) (rmD d)).room, s, m, (as.map (cV ω)).toArray, below, meth, c) ω M.1.cls M.2.1 M.2.2.1 d :=
    ⟨B.exec, B.bytes, hml, findClass_of_methodNamed B.named, fun w hw => hts w (List.mem_cons_of_mem _ hw), hE, Nat.le_refl _, Nat.le_refl _, hA, B.notSynchronized⟩
  have k := body (p, l, e, (headSpec (wsM M) (rmD d)).room, s, m, (as.map (cV ω)).toArray, below, meth, c) ω C B.returns
  rw [lg_entry_eq]
  exact k s.heap [] _ ⟨hJ, va_S.rf⟩ (Hs_entry ω as M.2.2.1 hc hn)
/-- what every call of M asks of the tables -/
def MF (M : MI) (n : Nat) : Prop := Cond.initialized M.1.cls ∈ TW ∧ Cond.code M.1 M.2.1 M.2.2.1 M.2.2.2 ∈ TW ∧ (M.1.cls ≠ "java/lang/invoke/MethodHandle" ∧ M.1.cls ≠ "java/lang/invoke/VarHandle") ∧ (parseMethodDescriptor M.1.desc).map (fun d => d.parameters.length) = some n ∧ M.2.2.1 ≤ 21
section GC
variable {μ : Mx} {ω : Om} {Q : State → Prop} {own : String} {cc : ByteArray} {nL d pc n k : Nat} {lv : List (Option Value)} {st : List Value} {h : AH} {M : MI} {d' idx : Nat} {as : List Value} {post : Option Value → AH → Prop}
theorem ws_warm (C : Cx μ ω own cc nL d) (hF : MF M n) : ∀ w ∈ wsM M, ∀ (a' : Array Value) (U : State), (mS μ).WarmedH U.vm → w.before a' U = true := by
  intro w hw a' U hW
  have hwT : w ∈ TW := by
    rcases List.mem_cons.mp hw with rfl | h
    · exact hF.2.1
    · exact h
  exact word_at hW (TW_good hwT) (C.w w hwT)
theorem pc_warm {H : Heap} {locs : List Loc} (C : Cx μ ω own cc nL d) (hJ : J ω (mS μ) h H locs) : ∀ U : State, U.heap = H → (mS μ).WarmedH U.vm → Pc0 ω as h (as.map (cV ω)).toArray U := by
  intro U hU hW
  refine ⟨rfl, C.e.move hW (fun a h1 h2 => by rw [hU]; exact hJ.2.2.1 a h1 h2), by rw [hU]; exact hJ.1, fun q hq => C.2.2.2.2.2.2.2.2.1 q (by rw [hU] at hq; exact Nat.le_trans hJ.2.1 hq)⟩
theorem g_run {H : Heap} {locs : List Loc} {ls : Array Slot} {stk : List Value} {a : Array Value} (hr : va_Run (mP μ) (mL μ) (mE μ) (mR μ) (mS μ) (mM μ) (mA μ) (mB μ) (mH μ) (mC μ) H locs n k 0 0 (F0 (mM μ) pc ls stk) (st.map (cV ω)) (Qc ω post a) (oA ω)) (hJ : J ω (mS μ) h H locs) (hL : Hs ω ls lv)
    (kk : ∀ r h', post r h' → G μ ω Q (pc + 3) lv (r.toList ++ st) h' n k) : Wm μ H locs n k Q (F0 (mM μ) pc ls stk) := by
  intro T hT X
  obtain ⟨v, st₀, t, T', L, h0, X', hLo, e1, e2, ⟨r, h', hv, hp, hJh, hz, hk⟩, go⟩ := hr T hT X
  rw [h0] at hz hk
  have hv' : v = r.map (cV ω) := by cases hv; rfl
  subst hv'
  have hS : va_S (oA ω) (mS μ).heap T'.heap (locs ++ L) := ⟨Nat.le_trans hJ.2.1 (by rw [e1]; exact hz), fun q h1 h2 => by rw [e1, hk q (Nat.lt_of_lt_of_le h1 hJ.2.1) h2]; exact hJ.2.2.1 q h1 h2, fun q hq => by
    rcases List.mem_append.mp hq with h | h
    · exact hJ.2.2.2 q h
    · exact hLo q h⟩
  obtain ⟨t2, a1, b1⟩ := kk r h' hp T'.heap (locs ++ L) ls ⟨by rw [e1]; exact hJh, hS⟩ hL T' rfl X'
  refine ⟨t2, go t2 ?_, b1⟩
  have e : (r.toList ++ st).map (cV ω) = (r.map (cV ω)).toList ++ st.map (cV ω) := by cases r <;> simp
  rw [e] at a1
  exact a1
def MLs (own : String) (idx : Nat) (M : MI) (n : Nat) : Prop := Cond.methodLink own idx M.1 ∈ TW ∧ Cond.static M.1 ∈ TW ∧ MF M n
def MLn (own : String) (idx : Nat) (M : MI) (n : Nat) : Prop := (own, idx, M.1) ∈ nestL ∧ Cond.static M.1 ∈ TW ∧ MF M n
def MLv (own : String) (idx : Nat) (M : MI) (n : Nat) : Prop := Cond.methodLink own idx M.1 ∈ TW ∧ Cond.instanceMethod M.1 ∈ TW ∧ Cond.selects M.1.cls M.1 M.1 ∈ TW ∧ MF M n
theorem cat_map (ω : Om) (st : List Value) : ((st.map (cV ω)).map fun v => v.category) = st.map fun v => v.category := by
  rw [List.map_map]
  exact List.map_congr_left (fun v _ => cV_cat ω v)
theorem g_callS (C : Cx μ ω own cc nL d) (hM : Con d' M as h post) (hdd : d' + 1 ≤ d) (hml : MLs own idx M as.length) (hd : decode cc pc = .ok (.invokestatic idx, 3)) {stk : List Value} (hstk : stk = as.reverse ++ st) (hst : (st.map fun v => v.category).sum ≤ 8) (kk : ∀ r h', post r h' → G μ ω Q (pc + 3) lv (r.toList ++ st) h' n k)
    (hc : n ≤ (mR μ).cells ∧ k ≤ (mR μ).slots) (hlv : lv.length = nL) : G μ ω Q pc lv stk h n k := by
  intro H locs ls hJ hL
  obtain ⟨h1, h2, hF⟩ := hml
  have hF' := hF
  obtain ⟨f1, f2, f3, f4, f5⟩ := hF'
  obtain ⟨cx, cb, cm, co, cw, ce, cf, cl, cA, -⟩ := id C
  refine g_run (a := (as.map (cV ω)).toArray) (post := post) (st := st) (va_runS (As := as.map (cV ω)) (n := as.length) (bytes := M.2.1) (maxL := M.2.2.1) (ret := M.2.2.2) (rm := rmD d') (ws := wsM M) (Ts := TW) (own := own) (index := idx) (nL := nL) ⟨cx, cb, cm, co, cw⟩ (hM (mL μ) ω)
    ⟨⟨rfl, rfl, Nat.le_trans hdd cf, by show 8 + (M.2.2.1 + 11) + 40 * d' ≤ _; omega, ws_warm C hF, List.mem_cons_self, cw _ f2, cw _ f1, f3, fun sig hs => by rw [hs] at f4; exact (Option.some.inj f4).symm, cw _ h1⟩, cw _ h2⟩
    ⟨Pc0_blind ω as h, pc_warm C hJ⟩ rfl (by simp) (by rw [hL.1]; exact hlv) (by rw [hstk]; simp) (lv_room (by rw [cat_map]; exact hst)) hd ⟨hc.1, hc.2⟩) hJ hL kk
theorem g_callN (C : Cx μ ω own cc nL d) (hM : Con d' M as h post) (hdd : d' + 1 ≤ d) (hml : MLn own idx M as.length) (hd : decode cc pc = .ok (.invokestatic idx, 3)) {stk : List Value} (hstk : stk = as.reverse ++ st) (hst : (st.map fun v => v.category).sum ≤ 8) (kk : ∀ r h', post r h' → G μ ω Q (pc + 3) lv (r.toList ++ st) h' n k)
    (hc : n ≤ (mR μ).cells ∧ k ≤ (mR μ).slots) (hlv : lv.length = nL) : G μ ω Q pc lv stk h n k := by
  intro H locs ls hJ hL
  obtain ⟨h1, h2, hF⟩ := hml
  have hF' := hF
  obtain ⟨f1, f2, f3, f4, f5⟩ := hF'
  obtain ⟨cx, cb, cm, co, cw, ce, cf, cl, cA, -⟩ := id C
  refine g_run (a := (as.map (cV ω)).toArray) (post := post) (st := st) (va_runSN (As := as.map (cV ω)) (n := as.length) (bytes := M.2.1) (maxL := M.2.2.1) (ret := M.2.2.2) (rm := rmD d') (ws := wsM M) (Ts := TW) (own := own) (host := "TowField") (index := idx) (nL := nL) ⟨cx, cb, cm, co, cw⟩ (hM (mL μ) ω)
    ⟨⟨⟨rfl, rfl, Nat.le_trans hdd cf, by show 8 + (M.2.2.1 + 11) + 40 * d' ≤ _; omega, ws_warm C hF, List.mem_cons_self⟩, cw _ f2, cw _ f1, f3, fun sig hs => by rw [hs] at f4; exact (Option.some.inj f4).symm, va_Nw.use rfl (ce.2.1 _ h1)⟩, cw _ h2, trivial⟩
    ⟨Pc0_blind ω as h, pc_warm C hJ⟩ rfl (by simp) (by rw [hL.1]; exact hlv) (by rw [hstk]; simp) (lv_room (by rw [cat_map]; exact hst)) hd ⟨hc.1, hc.2⟩) hJ hL kk
theorem g_callV (C : Cx μ ω own cc nL d) {b ci : Nat} {fs : List Value} {T : u_T} {N : Nat} (hM : Con d' M (.ref b :: as) h post) (hb : h[b]? = some (.inr (.inr (ci, fs)))) (hci : vwCl[ci]? = some (M.1.cls, T, N)) (hdd : d' + 1 ≤ d) (hml : MLv own idx M as.length) (hd : decode cc pc = .ok (.invokevirtual idx, 3)) {stk : List Value} (hstk : stk = as.reverse ++ .ref b :: st) (hst : (st.map fun v => v.category).sum ≤ 8) (kk : ∀ r h', post r h' → G μ ω Q (pc + 3) lv (r.toList ++ st) h' n k)
    (hc : n ≤ (mR μ).cells ∧ k ≤ (mR μ).slots) (hlv : lv.length = nL) : G μ ω Q pc lv stk h n k := by
  intro H locs ls hJ hL
  obtain ⟨h1, h2, h3, hF⟩ := hml
  have hF' := hF
  obtain ⟨f1, f2, f3, f4, f5⟩ := hF'
  obtain ⟨cx, cb, cm, co, cw, ce, cf, cl, cA, -⟩ := id C
  refine g_run (a := (Value.ref (oR ω b) :: as.map (cV ω)).toArray) (post := post) (st := st) (va_runV (As := as.map (cV ω)) (b := oR ω b) (C := M.1.cls) (n := as.length) (bytes := M.2.1) (maxL := M.2.2.1) (ret := M.2.2.2) (rm := rmD d') (ws := wsM M) (Ts := TW) (own := own) (index := idx) (nL := nL) ⟨cx, cb, cm, co, cw⟩ (hM (mL μ) ω)
    ⟨⟨rfl, rfl, Nat.le_trans hdd cf, by show 8 + (M.2.2.1 + 11) + 40 * d' ≤ _; omega, ws_warm C hF, List.mem_cons_self, cw _ f2, cw _ f1, f3, fun sig hs => by rw [hs] at f4; exact (Option.some.inj f4).symm, cw _ h1⟩, cw _ h2, cw _ h3⟩
    ⟨Pc0_blind ω _ h, va_recv ce.1 hJ.1.1 hci (cW_get ω h b hb), pc_warm C hJ⟩ rfl (by simp) (by rw [hL.1]; exact hlv) (by rw [hstk]; simp [cV_ref]) (lv_room (by rw [cat_map]; exact hst)) hd ⟨hc.1, hc.2⟩) hJ hL kk
/-- a String constant is called -/
theorem g_callX (C : Cx μ ω own cc nL d) {j : Nat} {q : String × Nat × String × List Int32} (hM : Con d' M (.ref (100100 + j) :: as) h post) (hj : sxL[j]? = some q) (hcls : M.1.cls = "java/lang/String") (hdd : d' + 1 ≤ d) (hml : MLv own idx M as.length) (hd : decode cc pc = .ok (.invokevirtual idx, 3)) {stk : List Value} (hstk : stk = as.reverse ++ .ref (100100 + j) :: st) (hst : (st.map fun v => v.category).sum ≤ 8) (kk : ∀ r h', post r h' → G μ ω Q (pc + 3) lv (r.toList ++ st) h' n k)
    (hc : n ≤ (mR μ).cells ∧ k ≤ (mR μ).slots) (hlv : lv.length = nL) : G μ ω Q pc lv stk h n k := by
  intro H locs ls hJ hL
  obtain ⟨h1, h2, h3, hF⟩ := hml
  have hF' := hF
  obtain ⟨f1, f2, f3, f4, f5⟩ := hF'
  obtain ⟨cx, cb, cm, co, cw, ce, cf, cl, cA, -⟩ := id C
  obtain ⟨cell, r1, r2, r3, -⟩ := (ce.2.2.2.1.2.1 j q hj).2.1.kept hJ.2.2.1
  refine g_run (a := (Value.ref (oR ω (100100 + j)) :: as.map (cV ω)).toArray) (post := post) (st := st) (va_runV (As := as.map (cV ω)) (b := oR ω (100100 + j)) (C := M.1.cls) (n := as.length) (bytes := M.2.1) (maxL := M.2.2.1) (ret := M.2.2.2) (rm := rmD d') (ws := wsM M) (Ts := TW) (own := own) (index := idx) (nL := nL) ⟨cx, cb, cm, co, cw⟩ (hM (mL μ) ω)
    ⟨⟨rfl, rfl, Nat.le_trans hdd cf, by show 8 + (M.2.2.1 + 11) + 40 * d' ≤ _; omega, ws_warm C hF, List.mem_cons_self, cw _ f2, cw _ f1, f3, fun sig hs => by rw [hs] at f4; exact (Option.some.inj f4).symm, cw _ h1⟩, cw _ h2, cw _ h3⟩
    ⟨Pc0_blind ω _ h, ⟨cell, r1, r2, by rw [hcls]; exact r3⟩, pc_warm C hJ⟩ rfl (by simp) (by rw [hL.1]; exact hlv) (by rw [hstk]; simp [cV_ref]) (lv_room (by rw [cat_map]; exact hst)) hd ⟨hc.1, hc.2⟩) hJ hL kk
/-! the ends of a method -/
theorem Qc_end {H : Heap} {locs : List Loc} {r : Option Value} (hJ : J ω (mS μ) h H locs) (hp : post r h) : ∀ t : State, t.heap = H → (mS μ).WarmedH t.vm → Qc ω post (mA μ) (mS μ) (.returned (r.map (cV ω))) t :=
  fun t ht _ => ⟨r, h, rfl, hp, by rw [ht]; exact hJ.1, hJ.2.F ht⟩
theorem g_iret (C : Cx μ ω own cc nL d) {v : Int32} (hr : (mH μ).sig.returnType = some .int) (hd : decode cc pc = .ok (.ireturn, 1)) (hp : post (some (.int v)) h) : G μ ω (RQ μ ω post) pc lv [.int v] h 0 0 :=
  fun H locs ls hJ hL => W.iret (Qc := Qc ω post) (free := oA ω) C.x C.b hr (Qc_end hJ hp) hJ.2.2.2 hd C.2.2.2.2.2.2.2.2.2
theorem g_zret (C : Cx μ ω own cc nL d) {v : Int32} {ty : FieldType} (hr : (mH μ).sig.returnType = some ty) (hn : narrow ty (.int v) = .int v) (hd : decode cc pc = .ok (.ireturn, 1)) (hp : post (some (.int v)) h) : G μ ω (RQ μ ω post) pc lv [.int v] h 0 0 :=
  fun H locs ls hJ hL => W.zret (Qc := Qc ω post) (free := oA ω) C.x C.b hr hn (Qc_end hJ hp) hJ.2.2.2 hd C.2.2.2.2.2.2.2.2.2
theorem g_vret (C : Cx μ ω own cc nL d) (hr : (mH μ).sig.returnType = none) (hd : decode cc pc = .ok (.return_, 1)) (hp : post none h) : G μ ω (RQ μ ω post) pc lv [] h 0 0 :=
  fun H locs ls hJ hL => W.vret (Qc := Qc ω post) (free := oA ω) C.x C.b hr (Qc_end hJ hp) hJ.2.2.2 hd C.2.2.2.2.2.2.2.2.2
end GC
