/-! ===== rows of the heap ===== -/
def FL (own : String) (idx ci j : Nat) : Prop := ∃ (C : String) (T : u_T) (N : Nat), vwCl[ci]? = some (C, T, N) ∧ (∀ w ∈ u_ws C T N, w ∈ TW) ∧ j < N ∧ Cond.fieldLink own idx (T j).1 (T j).2.1 (T j).2.2.1 ∈ TW
def FLp (own : String) (idx ci j : Nat) (ty : FieldType) : Prop := ∃ (C : String) (T : u_T) (N : Nat) (ty0 : Nat → FieldType), vwCl[ci]? = some (C, T, N) ∧ (∀ w ∈ u_ws C T N, w ∈ TW) ∧ (∀ k, k < N → parseFieldDescriptor (T k).2.2.1 = some (ty0 k)) ∧ (∀ a, a < N → ∀ b, b < N → a ≠ b → (T a).2.1 ≠ (T b).2.1) ∧ j < N ∧ Cond.fieldLink own idx (T j).1 (T j).2.1 (T j).2.2.1 ∈ TW ∧ (T j).2.2.2 = false ∧ parseFieldDescriptor (T j).2.2.1 = some ty
section GH
variable {μ : Mx} {ω : Om} {Q : State → Prop} {own : String} {cc : ByteArray} {nL d pc n k : Nat} {lv : List (Option Value)} {st : List Value} {h : AH} {idx ci j a : Nat}
theorem g_get (C : Cx μ ω own cc nL d) (hF : FL own idx ci j) {fs : List Value} {v : Value} (hk : h[a]? = some (.inr (.inr (ci, fs)))) (hv : fs[j]? = some v) (hd : decode cc pc = .ok (.getfield idx, 3)) (kk : G μ ω Q (pc + 3) lv (v :: st) h n k) : G μ ω Q pc lv (.ref a :: st) h n k := by
  intro H locs ls hJ hL
  obtain ⟨K, T, N, h1, h2, h3, h4⟩ := hF
  exact va_get (C := K) (T := T) (N := N) C.x C.b C.w h2 C.o C.e.1 hJ.1.1 a (cW_get ω h a hk) h1 j h3 (C.w _ h4) (fun x hx => hx) (v := cV ω v) (by rw [List.getElem?_map, hv]; rfl) hd (kk H locs ls hJ hL)
theorem g_put (C : Cx μ ω own cc nL d) {ty : FieldType} (hF : FLp own idx ci j ty) {fs : List Value} {v : Value} (hk : h[a]? = some (.inr (.inr (ci, fs)))) (hl : j < fs.length) (hn : narrow ty (cV ω v) = cV ω v) (hf : fits ty (cV ω v) = true) (hd : decode cc pc = .ok (.putfield idx, 3)) (kk : G μ ω Q (pc + 3) lv st (h.set a (.inr (.inr (ci, fs.set j v)))) n k) : G μ ω Q pc lv (v :: .ref a :: st) h n k := by
  intro H locs ls hJ hL
  obtain ⟨K, T, N, ty0, h1, h2, h3, h4, h5, h6, h7, h8⟩ := hF
  refine va_put (C := K) (T := T) (N := N) (A := oA ω) (H0 := (mS μ).heap) C.x C.b C.w h2 ty0 h3 h4 C.o C.e.1 hJ.1.1 hJ.1.2 hJ.2 a (cW_get ω h a hk) h1 j h5 (C.w _ h6) (fun x hx => hx) h7 (v := cV ω v) h8 hn hf (by rw [List.length_map]; exact hl) hd (fun H1 locs1 hP hD hS => kk H1 locs1 ls ⟨⟨?_, ?_⟩, hS⟩ hL)
  · rw [cW_set]; show va_P _ _ ((cW ω h).set a (oR ω a, .inr (ci, (fs.set j v).map (cV ω)))) H1; rw [List.map_set]; exact hP
  · rw [cW_set]; show va_D _ ((cW ω h).set a (oR ω a, .inr (ci, (fs.set j v).map (cV ω)))); rw [List.map_set]; exact hD
theorem g_iald (C : Cx μ ω own cc nL d) {m : Nat} {f : Nat → Int32} {i : Int32} (hk : h[a]? = some (.inl (m, f))) (hi : vp_in i m) (hd : decode cc pc = .ok (.iaload, 1)) (kk : G μ ω Q (pc + 1) lv (.int (f i.toNatClampNeg) :: st) h n k) : G μ ω Q pc lv (.int i :: .ref a :: st) h n k :=
  fun H locs ls hJ hL => va_iald C.x C.b C.e.1 hJ.1.1 a 0 (cW_get ω h a hk) rfl hi hd (kk H locs ls hJ hL)
theorem g_iast (C : Cx μ ω own cc nL d) {m : Nat} {f : Nat → Int32} {i x : Int32} (hk : h[a]? = some (.inl (m, f))) (hi : vp_in i m) (hd : decode cc pc = .ok (.iastore, 1)) (kk : G μ ω Q (pc + 1) lv st (h.set a (.inl (m, upd f i.toNatClampNeg x))) n k) : G μ ω Q pc lv (.int x :: .int i :: .ref a :: st) h n k := by
  intro H locs ls hJ hL
  refine va_iast C.x C.b C.e.1 hJ.1.1 hJ.1.2 hJ.2 a 0 (cW_get ω h a hk) rfl hi hd (fun H1 locs1 hP hD hS => kk H1 locs1 ls ⟨⟨?_, ?_⟩, hS⟩ hL)
  · rw [cW_set]; exact hP
  · rw [cW_set]; exact hD
theorem g_alen (C : Cx μ ω own cc nL d) {m : Nat} {f : Nat → Int32} (hk : h[a]? = some (.inl (m, f))) (hd : decode cc pc = .ok (.arraylength, 1)) (kk : G μ ω Q (pc + 1) lv (.int (nI m) :: st) h n k) : G μ ω Q pc lv (.ref a :: st) h n k :=
  fun H locs ls hJ hL => va_alen C.x C.b C.e.1 hJ.1.1 a 0 (cW_get ω h a hk) rfl rfl hd (kk H locs ls hJ hL)
theorem g_alenR (C : Cx μ ω own cc nL d) {t m : Nat} {g : Nat → Option Nat} (hk : h[a]? = some (.inr (.inl (t, m, g)))) (ht : t < 3) (hd : decode cc pc = .ok (.arraylength, 1)) (kk : G μ ω Q (pc + 1) lv (.int (nI m) :: st) h n k) : G μ ω Q pc lv (.ref a :: st) h n k := by
  intro H locs ls hJ hL
  have e : ∃ ty, (tysL ω)[t]? = some (oT ω t, ty) := by
    rcases (show t = 0 ∨ t = 1 ∨ t = 2 by omega) with rfl | rfl | rfl
    · exact ⟨_, rfl⟩
    · exact ⟨_, rfl⟩
    · exact ⟨_, rfl⟩
  obtain ⟨ty, e⟩ := e
  exact va_alen C.x C.b C.e.1 hJ.1.1 a t (cW_get ω h a hk) e rfl hd (kk H locs ls hJ hL)
/-- a row of an array of arrays, or a text of an array of texts -/
theorem g_aald (C : Cx μ ω own cc nL d) {t m r : Nat} {g : Nat → Option Nat} {i : Int32} (hk : h[a]? = some (.inr (.inl (t, m, g)))) (ht : t = 1 ∨ t = 2) (hi : vp_in i m) (hg : g i.toNatClampNeg = some r) (hd : decode cc pc = .ok (.aaload, 1)) (kk : G μ ω Q (pc + 1) lv (.ref r :: st) h n k) : G μ ω Q pc lv (.int i :: .ref a :: st) h n k := by
  intro H locs ls hJ hL
  have hlt : i.toNatClampNeg < m := Nat.not_le.mp fun q => hi (Or.inr q)
  have hcell : H[oR ω a]? = some (arrV (oT ω t) m (fun j => va_rf ((g j).map (oR ω)))) := hJ.1.1 a _ (cW_get ω h a hk)
  have hv : (arrV (oT ω t) m (fun j => va_rf ((g j).map (oR ω)))).slots[i.toNatClampNeg]? = some (.ref (oR ω r)) := by rw [arrV_read _ _ hlt, hg]; rfl
  have hin : ¬ (i < 0 ∨ (arrV (oT ω t) m (fun j => va_rf ((g j).map (oR ω)))).slots.size ≤ i.toNatClampNeg) := by rw [arrV_size]; exact hi
  rcases ht with rfl | rfl
  · exact W.aald (ty := .array .int) C.x C.b hcell ((C.e.1.2 1 (oT ω 1, .array .int) rfl).1 m _) rfl (fun q => by cases q) hin hv rfl rfl hd (kk H locs ls hJ hL)
  · exact W.aald (ty := .object "java/lang/String") C.x C.b hcell ((C.e.1.2 2 (oT ω 2, .object "java/lang/String") rfl).1 m _) rfl (fun q => by cases q) hin hv rfl rfl hd (kk H locs ls hJ hL)
/-! what lies outside -/
theorem g_getsA (C : Cx μ ω own cc nL d) {q : String × String × List Int32} (hq : axL[j]? = some q) (hw : Cond.fieldLink own idx q.1 q.2.1 "[I" ∈ TW) (hd : decode cc pc = .ok (.getstatic idx, 3)) (kk : G μ ω Q (pc + 3) lv (.ref (100000 + j) :: st) h n k) : G μ ω Q pc lv st h n k :=
  fun H locs ls hJ hL => va_gets C.x C.b (C.e.2.2.2.1.1 j q hq).1 hJ.2 C.o (C.w _ hw) (fun x hx => hx) hd (kk H locs ls hJ hL)
theorem g_getsZ (C : Cx μ ω own cc nL d) (hw : Cond.fieldLink own idx "java/lang/String" "COMPACT_STRINGS" "Z" ∈ TW) (hd : decode cc pc = .ok (.getstatic idx, 3)) (kk : G μ ω Q (pc + 3) lv (.int 1 :: st) h n k) : G μ ω Q pc lv st h n k :=
  fun H locs ls hJ hL => va_gets C.x C.b C.e.2.2.2.1.2.2.1 hJ.2 C.o (C.w _ hw) (fun x hx => hx) hd (kk H locs ls hJ hL)
theorem g_getsF (C : Cx μ ω own cc nL d) (hw : Cond.fieldLink own idx "jdk/internal/util/Preconditions" "SIOOBE_FORMATTER" "Ljava/util/function/BiFunction;" ∈ TW) (hd : decode cc pc = .ok (.getstatic idx, 3)) (kk : G μ ω Q (pc + 3) lv (oF ω :: st) h n k) : G μ ω Q pc lv st h n k :=
  fun H locs ls hJ hL => va_gets C.x C.b C.e.2.2.2.1.2.2.2.1 hJ.2 C.o (C.w _ hw) (fun x hx => hx) hd (kk H locs ls hJ hL)
theorem g_ialdA (C : Cx μ ω own cc nL d) {q : String × String × List Int32} (hq : axL[j]? = some q) {i : Int32} (hi : vp_in i q.2.2.length) (hd : decode cc pc = .ok (.iaload, 1)) (kk : G μ ω Q (pc + 1) lv (.int (q.2.2.getD i.toNatClampNeg 0) :: st) h n k) : G μ ω Q pc lv (.int i :: .ref (100000 + j) :: st) h n k :=
  fun H locs ls hJ hL => va_ti C.x C.b (C.e.2.2.2.1.1 j q hq).2 hJ.2 hi rfl hd (kk H locs ls hJ hL)
theorem g_baldX (C : Cx μ ω own cc nL d) {q : String × Nat × String × List Int32} (hq : sxL[j]? = some q) {i : Int32} (hi : vp_in i q.2.2.2.length) (hd : decode cc pc = .ok (.baload, 1)) (kk : G μ ω Q (pc + 1) lv (.int (q.2.2.2.getD i.toNatClampNeg 0) :: st) h n k) : G μ ω Q pc lv (.int i :: .ref (100200 + j) :: st) h n k :=
  fun H locs ls hJ hL => va_tb C.x C.b (C.e.2.2.2.1.2.1 j q hq).2.2.2.2 hJ.2 hi rfl hd (kk H locs ls hJ hL)
theorem g_alenX (C : Cx μ ω own cc nL d) {q : String × Nat × String × List Int32} (hq : sxL[j]? = some q) (hd : decode cc pc = .ok (.arraylength, 1)) (kk : G μ ω Q (pc + 1) lv (.int (nI q.2.2.2.length) :: st) h n k) : G μ ω Q pc lv (.ref (100200 + j) :: st) h n k :=
  fun H locs ls hJ hL => va_tlen C.x C.b (C.e.2.2.2.1.2.1 j q hq).2.2.2.2 hJ.2 rfl hd (kk H locs ls hJ hL)
theorem g_getXc (C : Cx μ ω own cc nL d) {q : String × Nat × String × List Int32} (hq : sxL[j]? = some q) (hw : Cond.fieldLink own idx "java/lang/String" "coder" "B" ∈ TW) (hd : decode cc pc = .ok (.getfield idx, 3)) (kk : G μ ω Q (pc + 3) lv (.int 0 :: st) h n k) : G μ ω Q pc lv (.ref (100100 + j) :: st) h n k :=
  fun H locs ls hJ hL => vk_getf C.x C.b (C.e.2.2.2.1.2.1 j q hq).2.2.1 hJ.2 C.o (C.w _ hw) (fun x hx => hx) hd (kk H locs ls hJ hL)
theorem g_getXv (C : Cx μ ω own cc nL d) {q : String × Nat × String × List Int32} (hq : sxL[j]? = some q) (hw : Cond.fieldLink own idx "java/lang/String" "value" "[B" ∈ TW) (hd : decode cc pc = .ok (.getfield idx, 3)) (kk : G μ ω Q (pc + 3) lv (.ref (100200 + j) :: st) h n k) : G μ ω Q pc lv (.ref (100100 + j) :: st) h n k :=
  fun H locs ls hJ hL => vk_getf C.x C.b (C.e.2.2.2.1.2.1 j q hq).2.2.2.1 hJ.2 C.o (C.w _ hw) (fun x hx => hx) hd (kk H locs ls hJ hL)
theorem g_scr (C : Cx μ ω own cc nL d) {i : Int32} (hi : vp_in i (oL ω)) (hd : decode cc pc = .ok (.iaload, 1)) (kk : G μ ω Q (pc + 1) lv (.int (oX ω i.toNatClampNeg) :: st) h n k) : G μ ω Q pc lv (.int i :: .ref 100300 :: st) h n k :=
  fun H locs ls hJ hL => va_ti C.x C.b C.e.2.2.2.1.2.2.2.2 hJ.2 hi rfl hd (kk H locs ls hJ hL)
theorem g_scrLen (C : Cx μ ω own cc nL d) (hd : decode cc pc = .ok (.arraylength, 1)) (kk : G μ ω Q (pc + 1) lv (.int (nI (oL ω)) :: st) h n k) : G μ ω Q pc lv (.ref 100300 :: st) h n k :=
  fun H locs ls hJ hL => va_tlen C.x C.b C.e.2.2.2.1.2.2.2.2 hJ.2 rfl hd (kk H locs ls hJ hL)
/-- System.arraycopy of int arrays of ours (also within one) -/
theorem g_copy (C : Cx μ ω own cc nL d) {a0 a1 n0 n1 : Nat} {f g : Nat → Int32} {sp dp m : Int32} (hk0 : h[a0]? = some (.inl (n0, f))) (hk1 : h[a1]? = some (.inl (n1, g))) (h1 : ¬ sp < 0) (h2 : ¬ dp < 0) (h3 : ¬ m < 0) (h4 : sp.toNatClampNeg + m.toNatClampNeg ≤ n0) (h5 : dp.toNatClampNeg + m.toNatClampNeg ≤ n1)
    (hw1 : Cond.methodLink own idx arraycopyName ∈ TW) (hw2 : Cond.native arraycopyName ∈ TW) (hw3 : Cond.static arraycopyName ∈ TW) (hw4 : Cond.initialized "java/lang/System" ∈ TW) (hdd : 1 ≤ d) (hst : (st.map fun v => v.category).sum ≤ 8) (hlv : lv.length = nL) (hd : decode cc pc = .ok (.invokestatic idx, 3))
    (kk : G μ ω Q (pc + 3) lv st (h.set a1 (.inl (n1, va_cpy f g sp.toNatClampNeg dp.toNatClampNeg m.toNatClampNeg))) n k) : G μ ω Q pc lv (.int m :: .int dp :: .ref a1 :: .int sp :: .ref a0 :: st) h n k := by
  intro H locs ls hJ hL
  obtain ⟨cx, cb, cm, co, cw, ce, cf, cl, cA, -⟩ := id C
  have e : nativeFrameWords "java/lang/System" "arraycopy" 5 + 11 ≤ 32 := by decide +kernel
  refine va_copyi (ty := .int) C.x C.b (by rw [cm, hL.1, hlv]) co (cw _ hw1) (cw _ hw2) (cw _ hw3) (cw _ hw4) ce.1 hJ.1.1 hJ.1.2 hJ.2 a0 a1 0 0 (cW_get ω h a0 hk0) (cW_get ω h a1 hk1) rfl rfl rfl h1 h2 h3 h4 h5 (fun i _ => rfl) (Nat.le_trans hdd cf) (by rw [cat_map]; omega) hd (fun H1 locs1 hP hD hS => kk H1 locs1 ls ⟨⟨?_, ?_⟩, hS⟩ hL)
  · rw [cW_set]; exact hP
  · rw [cW_set]; exact hD
end GH
