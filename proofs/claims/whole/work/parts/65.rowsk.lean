/-! ===== the constructors: rows that make cells ===== -/
/-- where a method begins, the heap ends behind L cells of ours -/
def Sz (μ : Mx) (ω : Om) (L : Nat) : Prop := (mS μ).heap.size = oZ ω + L ∧ ∀ k, k < 148 → oR ω k = oZ ω + k
/-- a heap of N cells -/
def hp (N : Nat) (f : Nat → AE) : AH := (List.range N).map f
def fu (f : Nat → AE) (a : Nat) (e : AE) : Nat → AE := fun k => if k = a then e else f k
theorem fu_at (f : Nat → AE) (a : Nat) (e : AE) : fu f a e a = e := if_pos rfl
theorem fu_ne (f : Nat → AE) {a k : Nat} (e : AE) (h : k ≠ a) : fu f a e k = f k := if_neg h
theorem hp_len (N : Nat) (f : Nat → AE) : (hp N f).length = N := by unfold hp; rw [List.length_map, List.length_range]
theorem hp_get {N : Nat} (f : Nat → AE) {k : Nat} (h : k < N) : (hp N f)[k]? = some (f k) := by
  unfold hp
  rw [List.getElem?_map, List.getElem?_range h]; rfl
theorem hp_none {N : Nat} (f : Nat → AE) {k : Nat} (h : N ≤ k) : (hp N f)[k]? = none := List.getElem?_eq_none (by rw [hp_len]; exact h)
theorem hp_app (N : Nat) (f : Nat → AE) (e : AE) : hp N f ++ [e] = hp (N + 1) (fu f N e) := by
  apply List.ext_getElem?
  intro i
  rcases Nat.lt_trichotomy i N with h | h | h
  · rw [List.getElem?_append_left (by rw [hp_len]; exact h), hp_get _ h, hp_get _ (by omega), fu_ne _ _ (by omega)]
  · subst h
    rw [List.getElem?_append_right (by rw [hp_len]; exact Nat.le_refl _), hp_len, Nat.sub_self, hp_get _ (by omega), fu_at]; rfl
  · rw [List.getElem?_append_right (by rw [hp_len]; omega), hp_len, hp_none _ (by omega)]
    exact List.getElem?_eq_none (by simp; omega)
theorem hp_set {N : Nat} (f : Nat → AE) {a : Nat} (ha : a < N) (e : AE) : (hp N f).set a e = hp N (fu f a e) := by
  apply List.ext_getElem?
  intro i
  rw [List.getElem?_set, hp_len]
  by_cases h : a = i
  · subst h
    rw [if_pos rfl, if_pos ha, hp_get _ ha, fu_at]
  · rw [if_neg h]
    by_cases hi : i < N
    · rw [hp_get _ hi, hp_get _ hi, fu_ne _ _ (fun z => h z.symm)]
    · rw [hp_none _ (by omega), hp_none _ (by omega)]
theorem wInt : Cond.arrayClass .int ∈ TW := TW_of (List.mem_of_getElem? (i := 128) (by decide +kernel)) rfl
theorem wObjI : Cond.instanceMethod Lib.objectInit ∈ TW := TW_of (List.mem_of_getElem? (i := 105) (by decide +kernel)) rfl
theorem wObjC : Cond.code Lib.objectInit ⟨#[0xb1]⟩ 1 none ∈ TW := TW_of (List.mem_of_getElem? (i := 106) (by decide +kernel)) rfl
def rmK (d nc ns : Nat) : Room := { frames := d, cells := nc, slots := ns, locals := 40 * d }
def PcK (ω : Om) (as : List Value) (h : AH) : Array Value → State → Prop := va_Pc (as.map (cV ω)) (fun U => EnvK ω U ∧ Jh ω h U.heap ∧ (∀ q, U.heap.size ≤ q → oA ω q) ∧ U.heap.size = oZ ω + h.length)
def pV (post : AH → Prop) : Option Value → AH → Prop := fun r h => r = none ∧ post h
def KCon (d nc ns : Nat) (M : MI) (as : List Value) (h : AH) (post : AH → Prop) : Prop :=
  ∀ (l : Launch) (ω : Om), (∀ k, k < 148 → oR ω k = oZ ω + k) → Met l M.1 (wsM M) (rmK d nc ns) (PcK ω as h) (Qc ω (pV post)) nc ns (oA ω)
abbrev RK (μ : Mx) (ω : Om) (nc ns : Nat) (post : AH → Prop) : State → Prop := MQ (mB μ) (Qc ω (pV post)) (mA μ) (mS μ) nc ns (oA ω)
theorem PcK_blind (ω : Om) (as : List Value) (h : AH) : FrameBlind (PcK ω as h) := fun a U g mk q => ⟨q.1, EnvK.same q.2.1 rfl rfl, q.2.2.1, q.2.2.2.1, q.2.2.2.2⟩
theorem kcon_of {d nc ns : Nat} {M : MI} {as : List Value} {h : AH} {post : AH → Prop} (hy : plainName M.1.cls = true) (hc : ∀ v ∈ as, v.category = 1) (hn : as.length ≤ M.2.2.1)
    (body : ∀ (μ : Mx) (ω : Om), Cx μ ω M.1.cls M.2.1 M.2.2.1 d → (mH μ).sig.returnType = M.2.2.2 → (mH μ).name = M.1.name → Sz μ ω h.length → (mR μ).cells = nc → (mR μ).slots = ns → G μ ω (RK μ ω nc ns post) 0 (lvIn as M.2.2.1) [] h 0 0) : KCon d nc ns M as h post := by
  intro l ω hR
  refine Met.ofW (cc := M.2.1) (maxL := M.2.2.1) (ret := M.2.2.2) hy rfl ?_
  intro p e s m args below meth c s₁ B hml hv
  obtain ⟨rfl, hE, hJ, hA, hsz⟩ := hv
  have hts := atoms_spec (ws := wsM M) B.pre
  have C : Cx (p, l, e, (headSpec (wsM M) (rmK d nc ns)).room, s, m, (as.map (cV ω)).toArray, below, meth, c) ω M.1.cls M.2.1 M.2.2.1 d :=
    ⟨B.exec, B.bytes, hml, findClass_of_methodNamed B.named, fun w hw => hts w (List.mem_cons_of_mem _ hw), hE, Nat.le_refl _, Nat.le_refl _, hA, B.notSynchronized⟩
  have k := body (p, l, e, (headSpec (wsM M) (rmK d nc ns)).room, s, m, (as.map (cV ω)).toArray, below, meth, c) ω C B.returns (name_of_methodNamed B.named B.method).1 ⟨hsz, hR⟩ rfl rfl
  rw [lg_entry_eq]
  exact k s.heap [] _ ⟨hJ, va_S.rf⟩ (Hs_entry ω as M.2.2.1 hc hn)
section KR
variable {μ : Mx} {ω : Om} {Q : State → Prop} {own : String} {cc : ByteArray} {nL d pc n k L : Nat} {lv : List (Option Value)} {st : List Value} {h : AH} {idx ci j a N : Nat} {f : Nat → AE}
theorem Sz.size (hz : Sz μ ω L) (hl : h.length = L + n) (h148 : h.length ≤ 148) {H : Heap} {locs : List Loc} (hJ : J ω (mS μ) h H locs) {T : State} (hT : T.heap = H) (X : Stand (mP μ) (mL μ) (mE μ) (mR μ) (mS μ) (mM μ) (mA μ) (mB μ) (mH μ) (mC μ) T locs n k) : H.size = oZ ω + h.length := by
  have h1 := X.heapSize
  rw [hT, hz.1] at h1
  have h2 : oZ ω + h.length ≤ H.size := by
    rcases Nat.eq_zero_or_pos h.length with hh | hh
    · have h3 := hJ.2.1
      rw [hz.1] at h3
      omega
    · have he : h[h.length - 1]? = some (h[h.length - 1]'(by omega)) := List.getElem?_eq_getElem (by omega)
      have h3 := (hJ.1.1 _ _ (cW_get ω h _ he)).lt
      have e2 : oR ω (h.length - 1) = oZ ω + (h.length - 1) := hz.2 _ (by omega)
      have h4 : oR ω (h.length - 1) < H.size := h3
      omega
  omega
theorem cW_at {i : Nat} {p : Nat × va_E} (hp : (cW ω h)[i]? = some p) : i < h.length ∧ p.1 = oR ω i := by
  unfold cW at hp
  rw [List.getElem?_mapIdx] at hp
  cases e : h[i]? with
  | none => rw [e] at hp; cases hp
  | some x => rw [e] at hp; cases hp; exact ⟨(List.getElem?_eq_some_iff.mp e).1, rfl⟩
/-- the heap is as told cell by cell -/
theorem Jh_of (hR : ∀ k, k < 148 → oR ω k = oZ ω + k) (h148 : h.length ≤ 148) {H : Heap} (hat : ∀ k e, h[k]? = some e → va_at (oD ω) vwCl (oR ω k, cE ω e) H) : Jh ω h H := by
  refine ⟨fun k q hk => ?_, fun i j p q hi hj hpq => ?_, fun k q hk => ?_⟩
  · unfold cW at hk
    rw [List.getElem?_mapIdx] at hk
    cases e : h[k]? with
    | none => rw [e] at hk; cases hk
    | some x => rw [e] at hk; cases hk; exact hat k x e
  · obtain ⟨a1, a2⟩ := cW_at hi
    obtain ⟨b1, b2⟩ := cW_at hj
    rw [a2, b2, hR i (by omega), hR j (by omega)] at hpq
    omega
  · obtain ⟨a1, a2⟩ := cW_at hk
    show oZ ω ≤ q.1
    rw [a2, hR k (by omega)]; omega
theorem J_grow (hR : ∀ k, k < 148 → oR ω k = oZ ω + k) (h148 : h.length < 148) {H H1 : Heap} {locs : List Loc} {e : AE} (hJ : J ω (mS μ) h H locs) (hs : oR ω h.length = H.size) (z1 : H1.size = H.size + 1) (o1 : ∀ q, q < H.size → H1[q]? = H[q]?) (hat : va_at (oD ω) vwCl (H.size, cE ω e) H1) : J ω (mS μ) (h ++ [e]) H1 locs := by
  obtain ⟨⟨hP, hD⟩, hS⟩ := hJ
  refine ⟨Jh_of hR (by rw [List.length_append, List.length_singleton]; omega) (fun k x hk => ?_), ⟨Nat.le_trans hS.1 (by omega), fun x h1 h2 => (o1 x (Nat.lt_of_lt_of_le h1 hS.1)).trans (hS.2.1 x h1 h2), hS.2.2⟩⟩
  rcases Nat.lt_or_ge k h.length with hl | hl
  · rw [List.getElem?_append_left hl] at hk
    have h3 := hP k _ (cW_get ω h k hk)
    exact h3.kept (o1 _ h3.lt)
  · rw [List.getElem?_append_right hl] at hk
    have hz : k - h.length < 1 := (List.getElem?_eq_some_iff.mp hk).1
    have hk2 : k = h.length := by omega
    subst hk2
    rw [Nat.sub_self] at hk
    cases hk
    rw [hs]; exact hat
theorem k_newa (C : Cx μ ω own cc nL d) (hz : Sz μ ω L) (hl : N = L + n) (h148 : N < 148) {x : Int32} {m : Nat} (hx : x = nI m) (hm : m ≤ 1000) (hc : n + 1 ≤ (mR μ).cells) (hk : k + m ≤ (mR μ).slots) (hd : decode cc pc = .ok (.newarray .int, 2))
    (kk : G μ ω Q (pc + 2) lv (.ref N :: st) (hp (N + 1) (fu f N (.inl (m, fun _ => 0)))) (n + 1) (k + m)) : G μ ω Q pc lv (.int x :: st) (hp N f) n k := by
  intro H locs ls hJ hL T hT X
  have hs := hz.size (by rw [hp_len]; exact hl) (by rw [hp_len]; omega) hJ hT X
  rw [hp_len] at hs
  have hR : oR ω N = H.size := (hz.2 _ h148).trans hs.symm
  have w : Wm μ H locs n k Q (F0 (mM μ) pc ls (.int x :: st.map (cV ω))) := by
    refine va_newaK (atype := .int) (N := m) C.x C.b (C.w _ wInt) rfl hd rfl (by rw [hx]; exact nI_pos (by omega)) (by rw [hx, nI_clamp (by omega)]) (by show m * 4 ≤ _; omega) hc hk rfl (fun H1 cA e1 z1 o1 hAr hNm => ?_)
    have hcA : cA = oT ω 0 := Option.some.inj (hNm.symm.trans (C.e.1.2 0 _ rfl).2)
    subst hcA
    have hJ1 := J_grow (e := .inl (m, fun _ => 0)) hz.2 (by rw [hp_len]; exact h148) hJ (by rw [hp_len]; exact hR) z1 o1 e1
    rw [hp_app] at hJ1
    refine W.eq (g2 := F0 (mM μ) (pc + 2) ls ((Value.ref N :: st).map (cV ω))) (by rw [← hR]; rfl) ?_
    exact kk H1 locs ls hJ1 hL
  exact w T hT X
/-- what a new object of a class asks, and its fields -/
def NWf (own : String) (idx ci : Nat) (fs : List Value) : Prop := ∃ (K : String) (T : u_T) (N : Nat) (ty : Nat → FieldType), fs.length = N ∧ vwCl[ci]? = some (K, T, N) ∧ (∀ w ∈ u_ws K T N, w ∈ TW) ∧ (∀ k, k < N → parseFieldDescriptor (T k).2.2.1 = some (ty k)) ∧ Cond.classLink own idx K ∈ TW ∧ Cond.instantiable K N ∈ TW ∧ Cond.initialized K ∈ TW ∧ (∀ j, j < N → defaultValue (ty j) = vp_V fs j) ∧ ∀ ω : Om, fs.map (cV ω) = fs
theorem k_new (C : Cx μ ω own cc nL d) (hz : Sz μ ω L) (hl : N = L + n) (h148 : N < 148) {fs : List Value} (hF : NWf own idx ci fs) (hc : n + 1 ≤ (mR μ).cells) (hk : k + fs.length ≤ (mR μ).slots) (hd : decode cc pc = .ok (.new idx, 3))
    (kk : G μ ω Q (pc + 3) lv (.ref N :: st) (hp (N + 1) (fu f N (.inr (.inr (ci, fs))))) (n + 1) (k + fs.length)) : G μ ω Q pc lv st (hp N f) n k := by
  intro H locs ls hJ hL T hT X
  have hs := hz.size (by rw [hp_len]; exact hl) (by rw [hp_len]; omega) hJ hT X
  rw [hp_len] at hs
  have hR : oR ω N = H.size := (hz.2 _ h148).trans hs.symm
  obtain ⟨K, TT, M, ty, f0, f1, f2, f3, f4, f5, f6, f7, f8⟩ := hF
  subst f0
  have hKn := C.e.1.1 ci _ f1
  have w : Wm μ H locs n k Q (F0 (mM μ) pc ls (st.map (cV ω))) := by
    refine W.newcK (n := fs.length) C.x C.b C.o (C.w _ f4) (C.w _ f5) (C.w _ f6) rfl hd hc hk hKn.2.1 rfl (fun H1 kC hkC e1 z1 o1 => ?_)
    have hat : va_at (oD ω) vwCl (H.size, cE ω (.inr (.inr (ci, fs)))) H1 := by
      show ∃ r : vw_C, vwCl[ci]? = some r ∧ t_OB H.size ((oD ω).1 ci) r.2.2 ((oD ω).2 ci) H1 (vp_V (fs.map (cV ω)))
      rw [f8 ω]
      exact ⟨_, f1, (u_born ty C.w f2 hKn hkC e1 f3).to f7⟩
    have hJ1 := J_grow (e := .inr (.inr (ci, fs))) hz.2 (by rw [hp_len]; exact h148) hJ (by rw [hp_len]; exact hR) z1 o1 hat
    rw [hp_app] at hJ1
    refine W.eq (g2 := F0 (mM μ) (pc + 3) ls ((Value.ref N :: st).map (cV ω))) (by rw [← hR]; rfl) ?_
    exact kk H1 locs ls hJ1 hL
  exact w T hT X
def FLq (own : String) (idx ci j : Nat) (ty : FieldType) : Prop := ∃ (K : String) (T : u_T) (N : Nat) (ty0 : Nat → FieldType), vwCl[ci]? = some (K, T, N) ∧ (∀ w ∈ u_ws K T N, w ∈ TW) ∧ (∀ k, k < N → parseFieldDescriptor (T k).2.2.1 = some (ty0 k)) ∧ (∀ a, a < N → ∀ b, b < N → a ≠ b → (T a).2.1 ≠ (T b).2.1) ∧ j < N ∧ Cond.fieldLink own idx (T j).1 (T j).2.1 (T j).2.2.1 ∈ TW ∧ (T j).2.2.2 = true ∧ (T j).1 = own ∧ parseFieldDescriptor (T j).2.2.1 = some ty
theorem k_putF (C : Cx μ ω own cc nL d) (hin : (mH μ).name = "<init>") {ty : FieldType} (hF : FLq own idx ci j ty) {fs fs' : List Value} {v : Value} (ha : a < N) (he : f a = .inr (.inr (ci, fs))) (hl : j < fs.length) (hn : narrow ty (cV ω v) = cV ω v) (hf : fits ty (cV ω v) = true) (hfs : fs.set j v = fs') (hd : decode cc pc = .ok (.putfield idx, 3)) (kk : G μ ω Q (pc + 3) lv st (hp N (fu f a (.inr (.inr (ci, fs'))))) n k) : G μ ω Q pc lv (v :: .ref a :: st) (hp N f) n k := by
  intro H locs ls hJ hL
  subst hfs
  have hk : (hp N f)[a]? = some (.inr (.inr (ci, fs))) := by rw [hp_get f ha, he]
  obtain ⟨K, T, M, ty0, h1, h2, h3, h4, h5, h6, h7, h7b, h8⟩ := hF
  rw [← hp_set f ha] at kk
  refine va_putF (C := K) (T := T) (N := M) (A := oA ω) (H0 := (mS μ).heap) C.x C.b C.w h2 ty0 h3 h4 C.o C.e.1 hJ.1.1 hJ.1.2 hJ.2 a (cW_get ω _ a hk) h1 j h5 (C.w _ h6) (fun x hx => hx) h7 hin h7b (v := cV ω v) h8 hn hf (by rw [List.length_map]; exact hl) hd (fun H1 locs1 hP hD hS => kk H1 locs1 ls ⟨⟨?_, ?_⟩, hS⟩ hL)
  · rw [cW_set]; show va_P _ _ ((cW ω _).set a (oR ω a, .inr (ci, (fs.set j v).map (cV ω)))) H1; rw [List.map_set]; exact hP
  · rw [cW_set]; show va_D _ ((cW ω _).set a (oR ω a, .inr (ci, (fs.set j v).map (cV ω)))); rw [List.map_set]; exact hD
theorem k_put (C : Cx μ ω own cc nL d) {ty : FieldType} (hF : FLp own idx ci j ty) {fs fs' : List Value} {v : Value} (ha : a < N) (he : f a = .inr (.inr (ci, fs))) (hl : j < fs.length) (hn : narrow ty (cV ω v) = cV ω v) (hf : fits ty (cV ω v) = true) (hfs : fs.set j v = fs') (hd : decode cc pc = .ok (.putfield idx, 3)) (kk : G μ ω Q (pc + 3) lv st (hp N (fu f a (.inr (.inr (ci, fs'))))) n k) : G μ ω Q pc lv (v :: .ref a :: st) (hp N f) n k := by
  subst hfs
  rw [← hp_set f ha] at kk
  exact g_put C hF (by rw [hp_get f ha, he]) hl hn hf hd kk
theorem k_get (C : Cx μ ω own cc nL d) (hF : FL own idx ci j) {fs : List Value} {v : Value} (ha : a < N) (he : f a = .inr (.inr (ci, fs))) (hv : fs[j]? = some v) (hd : decode cc pc = .ok (.getfield idx, 3)) (kk : G μ ω Q (pc + 3) lv (v :: st) (hp N f) n k) : G μ ω Q pc lv (.ref a :: st) (hp N f) n k :=
  g_get C hF (by rw [hp_get f ha, he]) hv hd kk
theorem k_iast (C : Cx μ ω own cc nL d) {m q : Nat} {g : Nat → Int32} {i x : Int32} (ha : a < N) (he : f a = .inl (m, g)) (hi : i = nI q) (hq : q < m) (hm : m ≤ 1000) (hd : decode cc pc = .ok (.iastore, 1)) (kk : G μ ω Q (pc + 1) lv st (hp N (fu f a (.inl (m, upd g q x)))) n k) : G μ ω Q pc lv (.int x :: .int i :: .ref a :: st) (hp N f) n k := by
  rw [← hp_set f ha] at kk
  have e : i.toNatClampNeg = q := by rw [hi, nI_clamp (by omega)]
  exact g_iast C (by rw [hp_get f ha, he]) (by rintro (z | z); exact absurd z (by rw [hi]; exact nI_pos (by omega)); rw [e] at z; omega) hd (by rw [e]; exact kk)
theorem k_obj (C : Cx μ ω own cc nL d) (hw : Cond.methodLink own idx Lib.objectInit ∈ TW) (h1 : 1 ≤ d) (hlv : lv.length = nL) (hst : (st.map fun v => v.category).sum ≤ 8) (hd : decode cc pc = .ok (.invokespecial idx, 3)) (kk : G μ ω Q (pc + 3) lv st h n k) : G μ ω Q pc lv (.ref a :: st) h n k := by
  intro H locs ls hJ hL
  obtain ⟨cx, cb, cm, co, cw, ce, cf, cl, cA, -⟩ := id C
  refine W.objInit C.x C.b C.o (C.w _ hw) (C.w _ wObjI) (C.w _ wObjC) rfl (by show ls.size = _; rw [hL.1, cm]; exact hlv) rfl hd (by omega) (by show 0 + ((st.map (cV ω)).map fun v => v.category).sum + 12 ≤ _; rw [cat_map]; omega) (kk H locs ls hJ hL)
def MLi (own : String) (idx : Nat) (M : MI) (n : Nat) : Prop := Cond.methodLink own idx M.1 ∈ TW ∧ Cond.instanceMethod M.1 ∈ TW ∧ M.1.name = "<init>" ∧ M.2.2.2 = none ∧ MF M n
def MLin (own : String) (idx : Nat) (M : MI) (n : Nat) : Prop := (own, idx, M.1) ∈ nestL ∧ Cond.instanceMethod M.1 ∈ TW ∧ M.1.name = "<init>" ∧ M.2.2.2 = none ∧ MF M n
theorem k_run {nc ns : Nat} {post : AH → Prop} {H : Heap} {locs : List Loc} {ls : Array Slot} {stk : List Value} {q : Array Value} (hr : va_Run (mP μ) (mL μ) (mE μ) (mR μ) (mS μ) (mM μ) (mA μ) (mB μ) (mH μ) (mC μ) H locs n k nc ns (F0 (mM μ) pc ls stk) (st.map (cV ω)) (Qc ω (pV post) q) (oA ω)) (hJ : J ω (mS μ) h H locs) (hL : Hs ω ls lv)
    (kk : ∀ h', post h' → G μ ω Q (pc + 3) lv st h' (n + nc) (k + ns)) : Wm μ H locs n k Q (F0 (mM μ) pc ls stk) := by
  intro T hT X
  obtain ⟨v, st₀, t, T', L, h0, X', hLo, e1, e2, ⟨r, h', hv, ⟨rfl, hp⟩, hJh, hz, hk⟩, go⟩ := hr T hT X
  rw [h0] at hz hk
  have hv' : v = none := by cases hv; rfl
  subst hv'
  have hS : va_S (oA ω) (mS μ).heap T'.heap (locs ++ L) := ⟨Nat.le_trans hJ.2.1 (by rw [e1]; exact hz), fun q h1 h2 => by rw [e1, hk q (Nat.lt_of_lt_of_le h1 hJ.2.1) h2]; exact hJ.2.2.1 q h1 h2, fun q hq => by
    rcases List.mem_append.mp hq with h | h
    · exact hJ.2.2.2 q h
    · exact hLo q h⟩
  obtain ⟨t2, a1, b1⟩ := kk h' hp T'.heap (locs ++ L) ls ⟨by rw [e1]; exact hJh, hS⟩ hL T' rfl X'
  exact ⟨t2, go t2 a1, b1⟩
theorem pk_warm {as : List Value} {H : Heap} {locs : List Loc} (C : Cx μ ω own cc nL d) (hJ : J ω (mS μ) h H locs) (hs : H.size = oZ ω + h.length) : ∀ U : State, U.heap = H → (mS μ).WarmedH U.vm → PcK ω as h (as.map (cV ω)).toArray U := by
  intro U hU hW
  refine ⟨rfl, C.e.move hW (fun a h1 h2 => by rw [hU]; exact hJ.2.2.1 a h1 h2), by rw [hU]; exact hJ.1, fun q hq => C.2.2.2.2.2.2.2.2.1 q (by rw [hU] at hq; exact Nat.le_trans hJ.2.1 hq), by rw [hU]; exact hs⟩
theorem k_callI (C : Cx μ ω own cc nL d) (hz : Sz μ ω L) {nc ns d' b : Nat} {M : MI} {as : List Value} {post : AH → Prop} (hM : KCon d' nc ns M (.ref b :: as) (hp N f) post) (hl : N = L + n) (h148 : N ≤ 148) (hdd : d' + 1 ≤ d) (hml : MLi own idx M as.length) (hd : decode cc pc = .ok (.invokespecial idx, 3)) {stk : List Value} (hstk : stk = as.reverse ++ .ref b :: st) (hst : (st.map fun v => v.category).sum ≤ 8) (hc : n + nc ≤ (mR μ).cells) (hk : k + ns ≤ (mR μ).slots) (hlv : lv.length = nL)
    (kk : ∀ h', post h' → G μ ω Q (pc + 3) lv st h' (n + nc) (k + ns)) : G μ ω Q pc lv stk (hp N f) n k := by
  intro H locs ls hJ hL T hT X
  have hs := hz.size (by rw [hp_len]; exact hl) (by rw [hp_len]; exact h148) hJ hT X
  obtain ⟨h1, h2, h3, h4, hF⟩ := hml
  have hF' := hF
  obtain ⟨f1, f2, f3, f4, f5⟩ := hF'
  rw [h4] at f2
  obtain ⟨cx, cb, cm, co, cw, ce, cf, cl, cA, -⟩ := id C
  refine k_run (q := (Value.ref (oR ω b) :: as.map (cV ω)).toArray) (post := post) (st := st) (va_runI (As := as.map (cV ω)) (b := oR ω b) (n := as.length) (bytes := M.2.1) (maxL := M.2.2.1) (rm := rmK d' nc ns) (ws := wsM M) (Ts := TW) (own := own) (index := idx) (nL := nL) ⟨cx, cb, cm, co, cw⟩ (hM (mL μ) ω hz.2)
    ⟨⟨rfl, rfl, Nat.le_trans hdd cf, by show 8 + (M.2.2.1 + 11) + 40 * d' ≤ _; omega, ws_warm C hF, by rw [← h4]; exact List.mem_cons_self, cw _ f2, cw _ f1, f3, fun sig hs => by rw [hs] at f4; exact (Option.some.inj f4).symm, cw _ h1⟩, h3, cw _ h2⟩
    ⟨PcK_blind ω _ _, pk_warm C hJ hs⟩ rfl (by simp) (by rw [hL.1]; exact hlv) (by rw [hstk]; simp [cV_ref]) (lv_room (by rw [cat_map]; exact hst)) hd ⟨hc, hk⟩) hJ hL kk T hT X
theorem k_callN (C : Cx μ ω own cc nL d) (hz : Sz μ ω L) {nc ns d' b : Nat} {M : MI} {as : List Value} {post : AH → Prop} (hM : KCon d' nc ns M (.ref b :: as) (hp N f) post) (hl : N = L + n) (h148 : N ≤ 148) (hdd : d' + 1 ≤ d) (hml : MLin own idx M as.length) (hd : decode cc pc = .ok (.invokespecial idx, 3)) {stk : List Value} (hstk : stk = as.reverse ++ .ref b :: st) (hst : (st.map fun v => v.category).sum ≤ 8) (hc : n + nc ≤ (mR μ).cells) (hk : k + ns ≤ (mR μ).slots) (hlv : lv.length = nL)
    (kk : ∀ h', post h' → G μ ω Q (pc + 3) lv st h' (n + nc) (k + ns)) : G μ ω Q pc lv stk (hp N f) n k := by
  intro H locs ls hJ hL T hT X
  have hs := hz.size (by rw [hp_len]; exact hl) (by rw [hp_len]; exact h148) hJ hT X
  obtain ⟨h1, h2, h3, h4, hF⟩ := hml
  have hF' := hF
  obtain ⟨f1, f2, f3, f4, f5⟩ := hF'
  rw [h4] at f2
  obtain ⟨cx, cb, cm, co, cw, ce, cf, cl, cA, -⟩ := id C
  refine k_run (q := (Value.ref (oR ω b) :: as.map (cV ω)).toArray) (post := post) (st := st) (va_runIN (As := as.map (cV ω)) (b := oR ω b) (n := as.length) (bytes := M.2.1) (maxL := M.2.2.1) (rm := rmK d' nc ns) (ws := wsM M) (Ts := TW) (own := own) (host := "TowField") (index := idx) (nL := nL) ⟨cx, cb, cm, co, cw⟩ (hM (mL μ) ω hz.2)
    ⟨⟨⟨rfl, rfl, Nat.le_trans hdd cf, by show 8 + (M.2.2.1 + 11) + 40 * d' ≤ _; omega, ws_warm C hF, by rw [← h4]; exact List.mem_cons_self⟩, cw _ f2, cw _ f1, f3, fun sig hs => by rw [hs] at f4; exact (Option.some.inj f4).symm, va_Nw.use rfl (ce.2.1 _ h1)⟩, h3, cw _ h2⟩
    ⟨PcK_blind ω _ _, pk_warm C hJ hs⟩ rfl (by simp) (by rw [hL.1]; exact hlv) (by rw [hstk]; simp [cV_ref]) (lv_room (by rw [cat_map]; exact hst)) hd ⟨hc, hk⟩) hJ hL kk T hT X
theorem k_vret {nc ns : Nat} {post : AH → Prop} (C : Cx μ ω own cc nL d) (hr : (mH μ).sig.returnType = none) (hd : decode cc pc = .ok (.return_, 1)) (hn : n = nc) (hk : k = ns) (hp : post h) : G μ ω (RK μ ω nc ns post) pc lv [] h n k := by
  subst hn; subst hk
  exact fun H locs ls hJ hL => W.vret (Qc := Qc ω (pV post)) (free := oA ω) C.x C.b hr (Qc_end (post := pV post) hJ ⟨rfl, hp⟩) hJ.2.2.2 hd C.2.2.2.2.2.2.2.2.2
end KR
