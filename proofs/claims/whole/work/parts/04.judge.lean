/-! ===== the judgement: the machine in a method, at pc, with these locals, this stack and this heap, comes to Q ===== -/
abbrev Mx : Type := Program × Launch × Env × Room × State × MethodId × Array Value × List Frame × Method × Code
abbrev mP (μ : Mx) : Program := μ.1
abbrev mL (μ : Mx) : Launch := μ.2.1
abbrev mE (μ : Mx) : Env := μ.2.2.1
abbrev mR (μ : Mx) : Room := μ.2.2.2.1
abbrev mS (μ : Mx) : State := μ.2.2.2.2.1
abbrev mM (μ : Mx) : MethodId := μ.2.2.2.2.2.1
abbrev mA (μ : Mx) : Array Value := μ.2.2.2.2.2.2.1
abbrev mB (μ : Mx) : List Frame := μ.2.2.2.2.2.2.2.1
abbrev mH (μ : Mx) : Method := μ.2.2.2.2.2.2.2.2.1
abbrev mC (μ : Mx) : Code := μ.2.2.2.2.2.2.2.2.2
abbrev Wm (μ : Mx) (H : Heap) (locs : List Loc) (n k : Nat) (Q : State → Prop) (g : JFrame) : Prop := W (mP μ) (mL μ) (mE μ) (mR μ) (mS μ) (mM μ) (mA μ) (mB μ) (mH μ) (mC μ) H locs n k Q g
def G (μ : Mx) (ω : Om) (Q : State → Prop) (pc : Nat) (lv : List (Option Value)) (st : List Value) (h : AH) (n k : Nat) : Prop :=
  ∀ (H : Heap) (locs : List Loc) (ls : Array Slot), J ω (mS μ) h H locs → Hs ω ls lv → Wm μ H locs n k Q (F0 (mM μ) pc ls (st.map (cV ω)))
/-- the method's own facts: its code, its class, the words, what lies outside, its room -/
def Cx (μ : Mx) (ω : Om) (own : String) (cc : ByteArray) (nL d : Nat) : Prop :=
  (mP μ).tables.exec = Jvm.exec ∧ (mC μ).code = cc ∧ (mC μ).maxLocals = nL ∧ (mS μ).vm.findClass own = some (mM μ).cls ∧ (∀ w ∈ TW, w.before (mA μ) (mS μ) = true) ∧ EnvK ω (mS μ) ∧ d ≤ (mR μ).frames ∧ 40 * d ≤ (mR μ).locals ∧ (∀ q, (mS μ).heap.size ≤ q → oA ω q) ∧ (mH μ).locks = false
section GR
variable {μ : Mx} {ω : Om} {Q : State → Prop} {own : String} {cc : ByteArray} {nL d pc n k : Nat} {lv : List (Option Value)} {st : List Value} {h : AH}
theorem Cx.x (C : Cx μ ω own cc nL d) : (mP μ).tables.exec = Jvm.exec := C.1
theorem Cx.b (C : Cx μ ω own cc nL d) : (mC μ).code = cc := C.2.1
theorem Cx.o (C : Cx μ ω own cc nL d) : (mS μ).vm.findClass own = some (mM μ).cls := C.2.2.2.1
theorem Cx.w (C : Cx μ ω own cc nL d) : ∀ w ∈ TW, w.before (mA μ) (mS μ) = true := C.2.2.2.2.1
theorem Cx.e (C : Cx μ ω own cc nL d) : EnvK ω (mS μ) := C.2.2.2.2.2.1
theorem g_iconst (C : Cx μ ω own cc nL d) {i : Int} {v : Int32} (hd : decode cc pc = .ok (.iconst i, 1)) (hv : Int32.ofInt i = v) (kk : G μ ω Q (pc + 1) lv (.int v :: st) h n k) : G μ ω Q pc lv st h n k :=
  fun H locs ls hJ hL => lv_iconst C.x C.b hd hv (kk H locs ls hJ hL)
theorem g_bipush (C : Cx μ ω own cc nL d) {i : Int} {v : Int32} (hd : decode cc pc = .ok (.bipush i, 2)) (hv : (Int8.ofInt i).toInt32 = v) (kk : G μ ω Q (pc + 2) lv (.int v :: st) h n k) : G μ ω Q pc lv st h n k :=
  fun H locs ls hJ hL => lv_bipush C.x C.b hd hv (kk H locs ls hJ hL)
theorem g_sipush (C : Cx μ ω own cc nL d) {i : Int} {v : Int32} (hd : decode cc pc = .ok (.sipush i, 3)) (hv : (Int16.ofInt i).toInt32 = v) (kk : G μ ω Q (pc + 3) lv (.int v :: st) h n k) : G μ ω Q pc lv st h n k :=
  fun H locs ls hJ hL => lv_sipush C.x C.b hd hv (kk H locs ls hJ hL)
theorem g_ldc (C : Cx μ ω own cc nL d) {i : Nat} {v : Int32} (hd : decode cc pc = .ok (.ldc i, 2)) (hw : Cond.constant own i v ∈ TW) (kk : G μ ω Q (pc + 2) lv (.int v :: st) h n k) : G μ ω Q pc lv st h n k :=
  fun H locs ls hJ hL => lv_ldc C.x C.b C.o (C.w _ hw) hd (kk H locs ls hJ hL)
theorem g_ldcw (C : Cx μ ω own cc nL d) {i : Nat} {v : Int32} (hd : decode cc pc = .ok (.ldc_w i, 3)) (hw : Cond.constant own i v ∈ TW) (kk : G μ ω Q (pc + 3) lv (.int v :: st) h n k) : G μ ω Q pc lv st h n k :=
  fun H locs ls hJ hL => lv_ldcw C.x C.b C.o (C.w _ hw) hd (kk H locs ls hJ hL)
theorem g_ldcS (C : Cx μ ω own cc nL d) {i j : Nat} {q : String × Nat × String × List Int32} (hd : decode cc pc = .ok (.ldc i, 2)) (hj : sxL[j]? = some q) (h1 : q.1 = own) (h2 : q.2.1 = i) (kk : G μ ω Q (pc + 2) lv (.ref (100100 + j) :: st) h n k) : G μ ω Q pc lv st h n k := by
  intro H locs ls hJ hL
  have e := (C.e.2.2.2.1.2.1 j q hj).1
  rw [h1, h2] at e
  exact va_ldcS C.x C.b C.o e hd (kk H locs ls hJ hL)
theorem g_iload_n (C : Cx μ ω own cc nL d) {i : Fin 4} {x : Int32} (hd : decode cc pc = .ok (.iload_n i, 1)) (hl : lv[(i : Nat)]? = some (some (.int x))) (kk : G μ ω Q (pc + 1) lv (.int x :: st) h n k) : G μ ω Q pc lv st h n k :=
  fun H locs ls hJ hL => lv_iload_n C.x C.b hd rfl (hL.2.2 _ _ hl).1 (kk H locs ls hJ hL)
theorem g_iload (C : Cx μ ω own cc nL d) {i : Nat} {x : Int32} (hd : decode cc pc = .ok (.iload i, 2)) (hl : lv[i]? = some (some (.int x))) (kk : G μ ω Q (pc + 2) lv (.int x :: st) h n k) : G μ ω Q pc lv st h n k :=
  fun H locs ls hJ hL => lv_iload C.x C.b hd (hL.2.2 _ _ hl).1 (kk H locs ls hJ hL)
theorem g_aload_n (C : Cx μ ω own cc nL d) {i : Fin 4} {x : Nat} (hd : decode cc pc = .ok (.aload_n i, 1)) (hl : lv[(i : Nat)]? = some (some (.ref x))) (kk : G μ ω Q (pc + 1) lv (.ref x :: st) h n k) : G μ ω Q pc lv st h n k :=
  fun H locs ls hJ hL => lv_aload_n C.x C.b hd rfl (hL.2.2 _ _ hl).1 (kk H locs ls hJ hL)
theorem g_aload (C : Cx μ ω own cc nL d) {i x : Nat} (hd : decode cc pc = .ok (.aload i, 2)) (hl : lv[i]? = some (some (.ref x))) (kk : G μ ω Q (pc + 2) lv (.ref x :: st) h n k) : G μ ω Q pc lv st h n k :=
  fun H locs ls hJ hL => lv_aload C.x C.b hd (hL.2.2 _ _ hl).1 (kk H locs ls hJ hL)
theorem g_istore_n (C : Cx μ ω own cc nL d) {i : Fin 4} {x : Int32} (hd : decode cc pc = .ok (.istore_n i, 1)) (hi : (i : Nat) < lv.length) (kk : G μ ω Q (pc + 1) (lv.set i (some (.int x))) st h n k) : G μ ω Q pc lv (.int x :: st) h n k :=
  fun H locs ls hJ hL => lv_istore_n C.x C.b hd rfl hL.has hi rfl (fun ls' hl' => kk H locs ls' hJ (hL.stored (x := .int x) rfl hi hl'))
theorem g_istore (C : Cx μ ω own cc nL d) {i : Nat} {x : Int32} (hd : decode cc pc = .ok (.istore i, 2)) (hi : i < lv.length) (kk : G μ ω Q (pc + 2) (lv.set i (some (.int x))) st h n k) : G μ ω Q pc lv (.int x :: st) h n k :=
  fun H locs ls hJ hL => lv_istore C.x C.b hd hL.has hi rfl (fun ls' hl' => kk H locs ls' hJ (hL.stored (x := .int x) rfl hi hl'))
theorem g_astore_n (C : Cx μ ω own cc nL d) {i : Fin 4} {x : Nat} (hd : decode cc pc = .ok (.astore_n i, 1)) (hi : (i : Nat) < lv.length) (kk : G μ ω Q (pc + 1) (lv.set i (some (.ref x))) st h n k) : G μ ω Q pc lv (.ref x :: st) h n k :=
  fun H locs ls hJ hL => lv_astore_n C.x C.b hd rfl hL.has hi rfl (fun ls' hl' => kk H locs ls' hJ (hL.stored (x := .ref x) rfl hi hl'))
theorem lvP_at {ω : Om} {lv : List (Option Value)} {i : Nat} {v : Value} (hl : lv[i]? = some (some v)) : ∃ k : Nat, (lvP ω lv)[k]? = some (i, cV ω v) := List.getElem?_of_mem (lvP_mem.mpr ⟨v, hl, rfl⟩)
theorem g_iinc (C : Cx μ ω own cc nL d) {i : Nat} {j : Int} {x v : Int32} (hd : decode cc pc = .ok (.iinc i j, 3)) (hl : lv[i]? = some (some (.int x))) (hv : x + Int32.ofInt j = v) (kk : G μ ω Q (pc + 3) (lv.set i (some (.int v))) st h n k) : G μ ω Q pc lv st h n k := by
  intro H locs ls hJ hL
  have hi : i < lv.length := (List.getElem?_eq_some_iff.mp hl).1
  obtain ⟨q, hq⟩ := lvP_at (ω := ω) hl
  exact lv_iinc C.x C.b hd hL.has hq hv hi rfl (fun ls' hl' => kk H locs ls' hJ (hL.stored (x := .int v) rfl hi hl'))
theorem g_iincW (C : Cx μ ω own cc nL d) {i : Nat} {j : Int} {x v : Int32} (hd : decode cc pc = .ok (.iinc i j, 6)) (hl : lv[i]? = some (some (.int x))) (hv : x + Int32.ofInt j = v) (kk : G μ ω Q (pc + 6) (lv.set i (some (.int v))) st h n k) : G μ ω Q pc lv st h n k := by
  intro H locs ls hJ hL
  have hi : i < lv.length := (List.getElem?_eq_some_iff.mp hl).1
  obtain ⟨q, hq⟩ := lvP_at (ω := ω) hl
  exact lv_iincW C.x C.b hd hL.has hq hv hi rfl (fun ls' hl' => kk H locs ls' hJ (hL.stored (x := .int v) rfl hi hl'))
theorem g_iadd (C : Cx μ ω own cc nL d) {x y : Int32} (hd : decode cc pc = .ok (.iadd, 1)) (kk : G μ ω Q (pc + 1) lv (.int (x + y) :: st) h n k) : G μ ω Q pc lv (.int y :: .int x :: st) h n k :=
  fun H locs ls hJ hL => lv_iadd C.x C.b hd (kk H locs ls hJ hL)
theorem g_isub (C : Cx μ ω own cc nL d) {x y : Int32} (hd : decode cc pc = .ok (.isub, 1)) (kk : G μ ω Q (pc + 1) lv (.int (x - y) :: st) h n k) : G μ ω Q pc lv (.int y :: .int x :: st) h n k :=
  fun H locs ls hJ hL => lv_isub C.x C.b hd (kk H locs ls hJ hL)
theorem g_imul (C : Cx μ ω own cc nL d) {x y : Int32} (hd : decode cc pc = .ok (.imul, 1)) (kk : G μ ω Q (pc + 1) lv (.int (x * y) :: st) h n k) : G μ ω Q pc lv (.int y :: .int x :: st) h n k :=
  fun H locs ls hJ hL => lv_imul C.x C.b hd (kk H locs ls hJ hL)
theorem g_idiv (C : Cx μ ω own cc nL d) {x y : Int32} (hd : decode cc pc = .ok (.idiv, 1)) (hy : ¬ y = 0) (kk : G μ ω Q (pc + 1) lv (.int (x / y) :: st) h n k) : G μ ω Q pc lv (.int y :: .int x :: st) h n k :=
  fun H locs ls hJ hL => lv_idiv C.x C.b hd hy (kk H locs ls hJ hL)
/-- Java's remainder -/
def jrem (x y : Int32) : Int32 := x - x / y * y
theorem g_irem (C : Cx μ ω own cc nL d) {x y : Int32} (hd : decode cc pc = .ok (.irem, 1)) (hy : ¬ y = 0) (kk : G μ ω Q (pc + 1) lv (.int (jrem x y) :: st) h n k) : G μ ω Q pc lv (.int y :: .int x :: st) h n k :=
  fun H locs ls hJ hL => lv_irem C.x C.b hd hy (kk H locs ls hJ hL)
theorem g_iand (C : Cx μ ω own cc nL d) {x y : Int32} (hd : decode cc pc = .ok (.iand, 1)) (kk : G μ ω Q (pc + 1) lv (.int (x &&& y) :: st) h n k) : G μ ω Q pc lv (.int y :: .int x :: st) h n k :=
  fun H locs ls hJ hL => lv_iand C.x C.b hd (kk H locs ls hJ hL)
theorem g_ior (C : Cx μ ω own cc nL d) {x y : Int32} (hd : decode cc pc = .ok (.ior, 1)) (kk : G μ ω Q (pc + 1) lv (.int (x ||| y) :: st) h n k) : G μ ω Q pc lv (.int y :: .int x :: st) h n k :=
  fun H locs ls hJ hL => lv_ior C.x C.b hd (kk H locs ls hJ hL)
theorem g_ixor (C : Cx μ ω own cc nL d) {x y : Int32} (hd : decode cc pc = .ok (.ixor, 1)) (kk : G μ ω Q (pc + 1) lv (.int (x ^^^ y) :: st) h n k) : G μ ω Q pc lv (.int y :: .int x :: st) h n k :=
  fun H locs ls hJ hL => lv_ixor C.x C.b hd (kk H locs ls hJ hL)
theorem g_ishl (C : Cx μ ω own cc nL d) {x y : Int32} (hd : decode cc pc = .ok (.ishl, 1)) (kk : G μ ω Q (pc + 1) lv (.int (x <<< (y &&& 31)) :: st) h n k) : G μ ω Q pc lv (.int y :: .int x :: st) h n k :=
  fun H locs ls hJ hL => lv_ishl C.x C.b hd (kk H locs ls hJ hL)
theorem g_ishr (C : Cx μ ω own cc nL d) {x y : Int32} (hd : decode cc pc = .ok (.ishr, 1)) (kk : G μ ω Q (pc + 1) lv (.int (x >>> (y &&& 31)) :: st) h n k) : G μ ω Q pc lv (.int y :: .int x :: st) h n k :=
  fun H locs ls hJ hL => lv_ishr C.x C.b hd (kk H locs ls hJ hL)
theorem g_iushr (C : Cx μ ω own cc nL d) {x y v : Int32} (hd : decode cc pc = .ok (.iushr, 1)) (hv : (x.toUInt32 >>> (y.toUInt32 &&& Int32.toUInt32 31)).toInt32 = v) (kk : G μ ω Q (pc + 1) lv (.int v :: st) h n k) : G μ ω Q pc lv (.int y :: .int x :: st) h n k :=
  fun H locs ls hJ hL => lv_iushr C.x C.b hd hv (kk H locs ls hJ hL)
theorem g_i2l (C : Cx μ ω own cc nL d) {x : Int32} (hd : decode cc pc = .ok (.i2l, 1)) (kk : G μ ω Q (pc + 1) lv (.long x.toInt64 :: st) h n k) : G μ ω Q pc lv (.int x :: st) h n k :=
  fun H locs ls hJ hL => lv_i2l C.x C.b hd rfl (kk H locs ls hJ hL)
theorem g_ladd (C : Cx μ ω own cc nL d) {x y : Int64} (hd : decode cc pc = .ok (.ladd, 1)) (kk : G μ ω Q (pc + 1) lv (.long (x + y) :: st) h n k) : G μ ω Q pc lv (.long y :: .long x :: st) h n k :=
  fun H locs ls hJ hL => lv_ladd C.x C.b hd (kk H locs ls hJ hL)
theorem g_lcmp (C : Cx μ ω own cc nL d) {x y : Int64} (hd : decode cc pc = .ok (.lcmp, 1)) (kk : G μ ω Q (pc + 1) lv (.int (lg_cmp x y) :: st) h n k) : G μ ω Q pc lv (.long y :: .long x :: st) h n k :=
  fun H locs ls hJ hL => W.lcmp C.x C.b hd (kk H locs ls hJ hL)
theorem g_i2b (C : Cx μ ω own cc nL d) {x : Int32} (hd : decode cc pc = .ok (.i2b, 1)) (kk : G μ ω Q (pc + 1) lv (.int x.toInt8.toInt32 :: st) h n k) : G μ ω Q pc lv (.int x :: st) h n k :=
  fun H locs ls hJ hL => lv_i2b C.x C.b hd rfl (kk H locs ls hJ hL)
theorem g_i2s (C : Cx μ ω own cc nL d) {x : Int32} (hd : decode cc pc = .ok (.i2s, 1)) (kk : G μ ω Q (pc + 1) lv (.int x.toInt16.toInt32 :: st) h n k) : G μ ω Q pc lv (.int x :: st) h n k :=
  fun H locs ls hJ hL => lv_i2s C.x C.b hd rfl (kk H locs ls hJ hL)
theorem g_i2c (C : Cx μ ω own cc nL d) {x : Int32} (hd : decode cc pc = .ok (.i2c, 1)) (kk : G μ ω Q (pc + 1) lv (.int (x.toUInt32 % 65536).toInt32 :: st) h n k) : G μ ω Q pc lv (.int x :: st) h n k :=
  fun H locs ls hJ hL => lv_i2c C.x C.b hd rfl (kk H locs ls hJ hL)
theorem g_dup (C : Cx μ ω own cc nL d) {v : Value} (hd : decode cc pc = .ok (.dup, 1)) (hv : v.category = 1) (kk : G μ ω Q (pc + 1) lv (v :: v :: st) h n k) : G μ ω Q pc lv (v :: st) h n k :=
  fun H locs ls hJ hL => lv_dup C.x C.b hd (by rw [cV_cat]; exact hv) (kk H locs ls hJ hL)
theorem g_dup2 (C : Cx μ ω own cc nL d) {v w : Value} (hd : decode cc pc = .ok (.dup2, 1)) (hv : v.category = 1) (hw : w.category = 1) (kk : G μ ω Q (pc + 1) lv (v :: w :: v :: w :: st) h n k) : G μ ω Q pc lv (v :: w :: st) h n k :=
  fun H locs ls hJ hL => lv_dup2_11 C.x C.b hd (by rw [cV_cat]; exact hv) (by rw [cV_cat]; exact hw) (kk H locs ls hJ hL)
theorem g_pop (C : Cx μ ω own cc nL d) {v : Value} (hd : decode cc pc = .ok (.pop, 1)) (hv : v.category = 1) (kk : G μ ω Q (pc + 1) lv st h n k) : G μ ω Q pc lv (v :: st) h n k :=
  fun H locs ls hJ hL => lv_pop C.x C.b hd (by rw [cV_cat]; exact hv) (kk H locs ls hJ hL)
theorem g_goto (C : Cx μ ω own cc nL d) {off : Int} {tgt : Nat} (hd : decode cc pc = .ok (.goto off, 3)) (ht : (pc : Int) + off = (tgt : Int)) (kk : G μ ω Q tgt lv st h n k) : G μ ω Q pc lv st h n k :=
  fun H locs ls hJ hL => lv_goto C.x C.b hd ht (kk H locs ls hJ hL)
theorem g_if_eq (C : Cx μ ω own cc nL d) {x : Int32} {off : Int} {tgt : Nat} (hd : decode cc pc = .ok (.ifCond .eq off, 3)) (ht : (pc : Int) + off = (tgt : Int)) (kt : x = 0 → G μ ω Q tgt lv st h n k) (kf : ¬ x = 0 → G μ ω Q (pc + 3) lv st h n k) : G μ ω Q pc lv (.int x :: st) h n k :=
  fun H locs ls hJ hL => lv_if_eq C.x C.b hd ht (fun c => kt c H locs ls hJ hL) (fun c => kf c H locs ls hJ hL)
theorem g_if_ne (C : Cx μ ω own cc nL d) {x : Int32} {off : Int} {tgt : Nat} (hd : decode cc pc = .ok (.ifCond .ne off, 3)) (ht : (pc : Int) + off = (tgt : Int)) (kt : ¬ x = 0 → G μ ω Q tgt lv st h n k) (kf : x = 0 → G μ ω Q (pc + 3) lv st h n k) : G μ ω Q pc lv (.int x :: st) h n k :=
  fun H locs ls hJ hL => lv_if_ne C.x C.b hd ht (fun c => kt c H locs ls hJ hL) (fun c => kf c H locs ls hJ hL)
theorem g_if_lt (C : Cx μ ω own cc nL d) {x : Int32} {off : Int} {tgt : Nat} (hd : decode cc pc = .ok (.ifCond .lt off, 3)) (ht : (pc : Int) + off = (tgt : Int)) (kt : x < 0 → G μ ω Q tgt lv st h n k) (kf : ¬ x < 0 → G μ ω Q (pc + 3) lv st h n k) : G μ ω Q pc lv (.int x :: st) h n k :=
  fun H locs ls hJ hL => lv_if_lt C.x C.b hd ht (fun c => kt c H locs ls hJ hL) (fun c => kf c H locs ls hJ hL)
theorem g_if_ge (C : Cx μ ω own cc nL d) {x : Int32} {off : Int} {tgt : Nat} (hd : decode cc pc = .ok (.ifCond .ge off, 3)) (ht : (pc : Int) + off = (tgt : Int)) (kt : 0 ≤ x → G μ ω Q tgt lv st h n k) (kf : ¬ 0 ≤ x → G μ ω Q (pc + 3) lv st h n k) : G μ ω Q pc lv (.int x :: st) h n k :=
  fun H locs ls hJ hL => lv_if_ge C.x C.b hd ht (fun c => kt c H locs ls hJ hL) (fun c => kf c H locs ls hJ hL)
theorem g_if_gt (C : Cx μ ω own cc nL d) {x : Int32} {off : Int} {tgt : Nat} (hd : decode cc pc = .ok (.ifCond .gt off, 3)) (ht : (pc : Int) + off = (tgt : Int)) (kt : 0 < x → G μ ω Q tgt lv st h n k) (kf : ¬ 0 < x → G μ ω Q (pc + 3) lv st h n k) : G μ ω Q pc lv (.int x :: st) h n k :=
  fun H locs ls hJ hL => lv_if_gt C.x C.b hd ht (fun c => kt c H locs ls hJ hL) (fun c => kf c H locs ls hJ hL)
theorem g_if_le (C : Cx μ ω own cc nL d) {x : Int32} {off : Int} {tgt : Nat} (hd : decode cc pc = .ok (.ifCond .le off, 3)) (ht : (pc : Int) + off = (tgt : Int)) (kt : x ≤ 0 → G μ ω Q tgt lv st h n k) (kf : ¬ x ≤ 0 → G μ ω Q (pc + 3) lv st h n k) : G μ ω Q pc lv (.int x :: st) h n k :=
  fun H locs ls hJ hL => lv_if_le C.x C.b hd ht (fun c => kt c H locs ls hJ hL) (fun c => kf c H locs ls hJ hL)
theorem g_icmp_eq (C : Cx μ ω own cc nL d) {x y : Int32} {off : Int} {tgt : Nat} (hd : decode cc pc = .ok (.if_icmp .eq off, 3)) (ht : (pc : Int) + off = (tgt : Int)) (kt : x = y → G μ ω Q tgt lv st h n k) (kf : ¬ x = y → G μ ω Q (pc + 3) lv st h n k) : G μ ω Q pc lv (.int y :: .int x :: st) h n k :=
  fun H locs ls hJ hL => lv_icmp_eq C.x C.b hd ht (fun c => kt c H locs ls hJ hL) (fun c => kf c H locs ls hJ hL)
theorem g_icmp_ne (C : Cx μ ω own cc nL d) {x y : Int32} {off : Int} {tgt : Nat} (hd : decode cc pc = .ok (.if_icmp .ne off, 3)) (ht : (pc : Int) + off = (tgt : Int)) (kt : ¬ x = y → G μ ω Q tgt lv st h n k) (kf : x = y → G μ ω Q (pc + 3) lv st h n k) : G μ ω Q pc lv (.int y :: .int x :: st) h n k :=
  fun H locs ls hJ hL => lv_icmp_ne C.x C.b hd ht (fun c => kt c H locs ls hJ hL) (fun c => kf c H locs ls hJ hL)
theorem g_icmp_lt (C : Cx μ ω own cc nL d) {x y : Int32} {off : Int} {tgt : Nat} (hd : decode cc pc = .ok (.if_icmp .lt off, 3)) (ht : (pc : Int) + off = (tgt : Int)) (kt : x < y → G μ ω Q tgt lv st h n k) (kf : ¬ x < y → G μ ω Q (pc + 3) lv st h n k) : G μ ω Q pc lv (.int y :: .int x :: st) h n k :=
  fun H locs ls hJ hL => lv_icmp_lt C.x C.b hd ht (fun c => kt c H locs ls hJ hL) (fun c => kf c H locs ls hJ hL)
theorem g_icmp_ge (C : Cx μ ω own cc nL d) {x y : Int32} {off : Int} {tgt : Nat} (hd : decode cc pc = .ok (.if_icmp .ge off, 3)) (ht : (pc : Int) + off = (tgt : Int)) (kt : y ≤ x → G μ ω Q tgt lv st h n k) (kf : ¬ y ≤ x → G μ ω Q (pc + 3) lv st h n k) : G μ ω Q pc lv (.int y :: .int x :: st) h n k :=
  fun H locs ls hJ hL => lv_icmp_ge C.x C.b hd ht (fun c => kt c H locs ls hJ hL) (fun c => kf c H locs ls hJ hL)
theorem g_icmp_gt (C : Cx μ ω own cc nL d) {x y : Int32} {off : Int} {tgt : Nat} (hd : decode cc pc = .ok (.if_icmp .gt off, 3)) (ht : (pc : Int) + off = (tgt : Int)) (kt : y < x → G μ ω Q tgt lv st h n k) (kf : ¬ y < x → G μ ω Q (pc + 3) lv st h n k) : G μ ω Q pc lv (.int y :: .int x :: st) h n k :=
  fun H locs ls hJ hL => lv_icmp_gt C.x C.b hd ht (fun c => kt c H locs ls hJ hL) (fun c => kf c H locs ls hJ hL)
theorem g_icmp_le (C : Cx μ ω own cc nL d) {x y : Int32} {off : Int} {tgt : Nat} (hd : decode cc pc = .ok (.if_icmp .le off, 3)) (ht : (pc : Int) + off = (tgt : Int)) (kt : x ≤ y → G μ ω Q tgt lv st h n k) (kf : ¬ x ≤ y → G μ ω Q (pc + 3) lv st h n k) : G μ ω Q pc lv (.int y :: .int x :: st) h n k :=
  fun H locs ls hJ hL => lv_icmp_le C.x C.b hd ht (fun c => kt c H locs ls hJ hL) (fun c => kf c H locs ls hJ hL)
theorem g_tabOut (C : Cx μ ω own cc nL d) {df lo hi : Int} {offs : Array Int} {len tgt : Nat} {x : Int32} (hd : decode cc pc = .ok (.tableswitch df lo hi offs, len)) (hx : x.toInt < lo ∨ hi < x.toInt) (ht : (pc : Int) + df = (tgt : Int)) (kk : G μ ω Q tgt lv st h n k) : G μ ω Q pc lv (.int x :: st) h n k :=
  fun H locs ls hJ hL => lv_tableOut C.x C.b hd hx ht (kk H locs ls hJ hL)
theorem g_tabIn (C : Cx μ ω own cc nL d) {df lo hi off : Int} {offs : Array Int} {len tgt : Nat} {x : Int32} (hd : decode cc pc = .ok (.tableswitch df lo hi offs, len)) (h1 : ¬ x.toInt < lo) (h2 : ¬ hi < x.toInt) (ho : offs[(x.toInt - lo).toNat]? = some off) (ht : (pc : Int) + off = (tgt : Int)) (kk : G μ ω Q tgt lv st h n k) : G μ ω Q pc lv (.int x :: st) h n k :=
  fun H locs ls hJ hL => lv_tableIn C.x C.b hd h1 h2 ho ht (kk H locs ls hJ hL)
theorem g_lookup (C : Cx μ ω own cc nL d) {df off : Int} {ps : Array (Int × Int)} {len tgt : Nat} {x : Int32} (hd : decode cc pc = .ok (.lookupswitch df ps, len)) (hp : (ps.toList.zip (ps.toList.drop 1)).all (fun (a, next) => a.1 < next.1) = true) (ho : Op.lookupswitch.offset ps.toList df x.toInt = off) (ht : (pc : Int) + off = (tgt : Int)) (kk : G μ ω Q tgt lv st h n k) : G μ ω Q pc lv (.int x :: st) h n k :=
  fun H locs ls hJ hL => lv_lookup C.x C.b hd hp ho ht (kk H locs ls hJ hL)
end GR
