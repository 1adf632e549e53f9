/-! ===== the static shape of the heap behind the two constructors; the state is sigma: what ints each cell holds ===== -/
abbrev SE : Type := Nat ⊕ ((Nat × List Nat) ⊕ (Nat × List (Option Nat)))
def wsh (b : Nat) : List SE := [.inr (.inr (9, [some 1, some (b + 1), some (b + 6), some (b + 11), some (b + 14), some (b + 16), some (b + 22), some (b + 35), some (b + 36), none, none, none, none])),
  .inr (.inr (1, [some (b + 2), some (b + 3), some (b + 4), some (b + 5), none, none])),
  .inl 10,
  .inl 10,
  .inl 10,
  .inl 10,
  .inr (.inr (3, [some (b + 7), some (b + 8), some (b + 9), some (b + 10), none, none])),
  .inl 14,
  .inl 14,
  .inl 14,
  .inl 14,
  .inr (.inr (8, [some (b + 12), some (b + 13), none])),
  .inl 6,
  .inl 6,
  .inr (.inr (4, [some (b + 15), none])),
  .inl 3,
  .inr (.inr (2, [some (b + 17), some (b + 18), some (b + 19), some (b + 20), some (b + 21), none])),
  .inl 6,
  .inl 4,
  .inl 6,
  .inl 6,
  .inl 6,
  .inr (.inr (0, [some (b + 23), some (b + 24), some (b + 25), some (b + 26), some (b + 27), some (b + 28), some (b + 29), some (b + 30), some (b + 31), some (b + 32), some (b + 33), some (b + 34), none])),
  .inl 20,
  .inl 20,
  .inl 20,
  .inl 20,
  .inl 20,
  .inl 20,
  .inl 20,
  .inl 20,
  .inl 20,
  .inl 20,
  .inl 20,
  .inl 20,
  .inl 4,
  .inl 2]
def SHa : List SE := [.inr (.inr (10, [some 1, some 12, some 49, some 86, some 123, some 131, some 134, none])),
  .inr (.inr (7, [some 2, some 9, some 10, some 11])),
  .inr (.inl (1, [3, 4, 5, 6, 7, 8])),
  .inl 100,
  .inl 100,
  .inl 100,
  .inl 100,
  .inl 100,
  .inl 100,
  .inl 6,
  .inl 4,
  .inl 100]
def SHb : List SE := [.inr (.inr (5, [some 124, some 125, some 126])),
  .inl 4,
  .inl 4,
  .inr (.inl (1, [127, 128, 129, 130])),
  .inl 24,
  .inl 24,
  .inl 24,
  .inl 24,
  .inr (.inr (6, [some 132, some 133, none, none, none, none, none, none])),
  .inl 100,
  .inl 100,
  .inl 7]
def SHm : List SE := [.inr (.inr (11, [some 136, some 137, some 138, none, some 139, some 140, none, none, none, none, none, some 141, none, none, none, none, none, some 142, none, some 143, some 144, some 145, some 146, some 147])),
  .inl 970,
  .inl 970,
  .inl 970,
  .inl 7,
  .inl 100,
  .inr (.inl (2, [100105, 100106, 100107, 100108])),
  .inl 200,
  .inl 200,
  .inl 4,
  .inl 4,
  .inl 96,
  .inl 24]
def SH : List SE := SHa ++ (wsh 12 ++ (wsh 49 ++ (wsh 86 ++ (SHb ++ SHm))))
abbrev Sg : Type := Nat → Nat → Int32
def mkF (f : Nat → Int32) (j : Nat) (r : Option Nat) : Value := match r with
  | some a => .ref a
  | none => .int (f j)
def mkE (e : SE) (f : Nat → Int32) : AE := match e with
  | .inl m => .inl (m, f)
  | .inr (.inl q) => .inr (.inl (q.1, q.2.length, fun j => q.2[j]?))
  | .inr (.inr q) => .inr (.inr (q.1, q.2.mapIdx (mkF f)))
def mk (σ : Sg) : AH := SH.mapIdx (fun k e => mkE e (σ k))
def sup (σ : Sg) (k : Nat) (f : Nat → Int32) : Sg := fun q => if q = k then f else σ q
def up (σ : Sg) (k j : Nat) (x : Int32) : Sg := sup σ k (upd (σ k) j x)
theorem mk_at (σ : Sg) {k : Nat} {e : SE} (h : SH[k]? = some e) : (mk σ)[k]? = some (mkE e (σ k)) := by
  unfold mk
  rw [List.getElem?_mapIdx, h]
  rfl
theorem mk_set (σ : Sg) {k : Nat} {e : SE} {f : Nat → Int32} (h : SH[k]? = some e) : (mk σ).set k (mkE e f) = mk (sup σ k f) := by
  apply List.ext_getElem?
  intro i
  unfold mk
  rw [List.getElem?_set, List.getElem?_mapIdx, List.getElem?_mapIdx, List.length_mapIdx]
  by_cases hi : k = i
  · subst hi
    rw [if_pos rfl, if_pos (List.getElem?_eq_some_iff.mp h).1, h]
    simp [sup]
  · rw [if_neg hi]
    have e2 : sup σ k f i = σ i := if_neg (fun q => hi q.symm)
    rw [e2]
theorem mkF_set (fs : List (Option Nat)) (f : Nat → Int32) {j : Nat} (x : Int32) (hj : fs[j]? = some none) : (fs.mapIdx (mkF f)).set j (.int x) = fs.mapIdx (mkF (upd f j x)) := by
  apply List.ext_getElem?
  intro i
  rw [List.getElem?_set, List.getElem?_mapIdx, List.getElem?_mapIdx, List.length_mapIdx]
  by_cases hi : j = i
  · subst hi
    rw [if_pos rfl, if_pos (List.getElem?_eq_some_iff.mp hj).1, hj]
    simp [mkF, upd]
  · rw [if_neg hi]
    congr 1
    funext r
    cases r with
    | some a => rfl
    | none => simp [mkF, upd, show ¬ i = j from fun q => hi q.symm]
theorem mk_set_a (σ : Sg) {k m j : Nat} {x : Int32} (h : SH[k]? = some (.inl m)) : (mk σ).set k (.inl (m, upd (σ k) j x)) = mk (up σ k j x) := by
  unfold up
  exact mk_set (e := .inl m) (f := upd (σ k) j x) σ h
theorem mk_set_c (σ : Sg) {k m : Nat} {f : Nat → Int32} (h : SH[k]? = some (.inl m)) : (mk σ).set k (.inl (m, f)) = mk (sup σ k f) := mk_set (e := .inl m) (f := f) σ h
theorem mk_set_o (σ : Sg) {k ci j : Nat} {fs : List (Option Nat)} {x : Int32} (h : SH[k]? = some (.inr (.inr (ci, fs)))) (hj : fs[j]? = some none) : (mk σ).set k (.inr (.inr (ci, (fs.mapIdx (mkF (σ k))).set j (.int x)))) = mk (up σ k j x) := by
  rw [mkF_set fs (σ k) x hj]
  unfold up
  exact mk_set (e := .inr (.inr (ci, fs))) (f := upd (σ k) j x) σ h
section GS
variable {μ : Mx} {ω : Om} {Q : State → Prop} {own : String} {cc : ByteArray} {nL d pc n k : Nat} {lv : List (Option Value)} {st : List Value} {σ : Sg} {idx ci j a : Nat} {fs : List (Option Nat)}
theorem s_getI (C : Cx μ ω own cc nL d) (hF : FL own idx ci j) (hS : SH[a]? = some (.inr (.inr (ci, fs)))) (hj : fs[j]? = some none) (hd : decode cc pc = .ok (.getfield idx, 3)) (kk : G μ ω Q (pc + 3) lv (.int (σ a j) :: st) (mk σ) n k) : G μ ω Q pc lv (.ref a :: st) (mk σ) n k :=
  g_get C hF (mk_at σ hS) (by rw [List.getElem?_mapIdx, hj]; rfl) hd kk
theorem s_getR (C : Cx μ ω own cc nL d) {r : Nat} (hF : FL own idx ci j) (hS : SH[a]? = some (.inr (.inr (ci, fs)))) (hj : fs[j]? = some (some r)) (hd : decode cc pc = .ok (.getfield idx, 3)) (kk : G μ ω Q (pc + 3) lv (.ref r :: st) (mk σ) n k) : G μ ω Q pc lv (.ref a :: st) (mk σ) n k :=
  g_get C hF (mk_at σ hS) (by rw [List.getElem?_mapIdx, hj]; rfl) hd kk
theorem s_putI (C : Cx μ ω own cc nL d) {x : Int32} (hF : FLp own idx ci j .int) (hS : SH[a]? = some (.inr (.inr (ci, fs)))) (hj : fs[j]? = some none) (hd : decode cc pc = .ok (.putfield idx, 3)) (kk : G μ ω Q (pc + 3) lv st (mk (up σ a j x)) n k) : G μ ω Q pc lv (.int x :: .ref a :: st) (mk σ) n k := by
  refine g_put C hF (mk_at σ hS) (by rw [List.length_mapIdx]; exact (List.getElem?_eq_some_iff.mp hj).1) rfl rfl hd ?_
  rw [mk_set_o σ hS hj]
  exact kk
theorem s_putZ (C : Cx μ ω own cc nL d) {x : Int32} (hx : x = 0 ∨ x = 1) (hF : FLp own idx ci j .boolean) (hS : SH[a]? = some (.inr (.inr (ci, fs)))) (hj : fs[j]? = some none) (hd : decode cc pc = .ok (.putfield idx, 3)) (kk : G μ ω Q (pc + 3) lv st (mk (up σ a j x)) n k) : G μ ω Q pc lv (.int x :: .ref a :: st) (mk σ) n k := by
  refine g_put C hF (mk_at σ hS) (by rw [List.length_mapIdx]; exact (List.getElem?_eq_some_iff.mp hj).1) (by rcases hx with rfl | rfl <;> rfl) (by rcases hx with rfl | rfl <;> rfl) hd ?_
  rw [mk_set_o σ hS hj]
  exact kk
theorem s_iald (C : Cx μ ω own cc nL d) {m q : Nat} {i : Int32} (hS : SH[a]? = some (.inl m)) (hi : i = nI q) (hq : q < m) (hm : m < 2 ^ 31) (hd : decode cc pc = .ok (.iaload, 1)) (kk : G μ ω Q (pc + 1) lv (.int (σ a q) :: st) (mk σ) n k) : G μ ω Q pc lv (.int i :: .ref a :: st) (mk σ) n k := by
  subst hi
  refine g_iald C (mk_at σ hS) (vp_in_nI hq hm) hd ?_
  rw [nI_clamp (Nat.lt_trans hq hm)]
  exact kk
theorem s_iast (C : Cx μ ω own cc nL d) {m q : Nat} {i x : Int32} (hS : SH[a]? = some (.inl m)) (hi : i = nI q) (hq : q < m) (hm : m < 2 ^ 31) (hd : decode cc pc = .ok (.iastore, 1)) (kk : G μ ω Q (pc + 1) lv st (mk (up σ a q x)) n k) : G μ ω Q pc lv (.int x :: .int i :: .ref a :: st) (mk σ) n k := by
  subst hi
  refine g_iast C (mk_at σ hS) (vp_in_nI hq hm) hd ?_
  rw [nI_clamp (Nat.lt_trans hq hm)]
  rw [mk_set_a σ hS]
  exact kk
theorem s_aald (C : Cx μ ω own cc nL d) {t q r : Nat} {rs : List Nat} {i : Int32} (hS : SH[a]? = some (.inr (.inl (t, rs)))) (ht : t = 1 ∨ t = 2) (hi : i = nI q) (hr : rs[q]? = some r) (hm : rs.length < 2 ^ 31) (hd : decode cc pc = .ok (.aaload, 1)) (kk : G μ ω Q (pc + 1) lv (.ref r :: st) (mk σ) n k) : G μ ω Q pc lv (.int i :: .ref a :: st) (mk σ) n k := by
  subst hi
  have hq : q < rs.length := (List.getElem?_eq_some_iff.mp hr).1
  refine g_aald C (mk_at σ hS) ht (vp_in_nI hq hm) ?_ hd kk
  rw [nI_clamp (Nat.lt_trans hq hm)]
  exact hr
theorem s_alen (C : Cx μ ω own cc nL d) {m : Nat} (hS : SH[a]? = some (.inl m)) (hd : decode cc pc = .ok (.arraylength, 1)) (kk : G μ ω Q (pc + 1) lv (.int (nI m) :: st) (mk σ) n k) : G μ ω Q pc lv (.ref a :: st) (mk σ) n k :=
  g_alen C (mk_at σ hS) hd kk
theorem s_alenR (C : Cx μ ω own cc nL d) {t : Nat} {rs : List Nat} (hS : SH[a]? = some (.inr (.inl (t, rs)))) (ht : t < 3) (hd : decode cc pc = .ok (.arraylength, 1)) (kk : G μ ω Q (pc + 1) lv (.int (nI rs.length) :: st) (mk σ) n k) : G μ ω Q pc lv (.ref a :: st) (mk σ) n k :=
  g_alenR C (mk_at σ hS) ht hd kk
theorem w_nat : Cond.native arraycopyName ∈ TW := TW_of (List.mem_of_getElem? (i := 970) (by decide +kernel)) (by decide +kernel)
theorem w_sta : Cond.static arraycopyName ∈ TW := TW_of (List.mem_of_getElem? (i := 969) (by decide +kernel)) rfl
theorem w_sys : Cond.initialized "java/lang/System" ∈ TW := TW_of (List.mem_of_getElem? (i := 97) (by decide +kernel)) rfl
theorem s_copy (C : Cx μ ω own cc nL d) {a0 a1 n0 n1 p0 p1 c : Nat} {sp dp m : Int32} (hS0 : SH[a0]? = some (.inl n0)) (hS1 : SH[a1]? = some (.inl n1)) (h1 : sp = nI p0) (h2 : dp = nI p1) (h3 : m = nI c) (h4 : p0 + c ≤ n0) (h5 : p1 + c ≤ n1) (hn0 : n0 < 2 ^ 31) (hn1 : n1 < 2 ^ 31)
    (hw1 : Cond.methodLink own idx arraycopyName ∈ TW) (hdd : 1 ≤ d) (hst : (st.map fun v => v.category).sum ≤ 8) (hlv : lv.length = nL) (hd : decode cc pc = .ok (.invokestatic idx, 3))
    (kk : G μ ω Q (pc + 3) lv st (mk (sup σ a1 (va_cpy (σ a0) (σ a1) p0 p1 c))) n k) : G μ ω Q pc lv (.int m :: .int dp :: .ref a1 :: .int sp :: .ref a0 :: st) (mk σ) n k := by
  subst h1; subst h2; subst h3
  have e0 : (nI p0).toNatClampNeg = p0 := nI_clamp (by omega)
  have e1 : (nI p1).toNatClampNeg = p1 := nI_clamp (by omega)
  have e2 : (nI c).toNatClampNeg = c := nI_clamp (by omega)
  refine g_copy C (mk_at σ hS0) (mk_at σ hS1) (nI_pos (by omega)) (nI_pos (by omega)) (nI_pos (by omega)) (by rw [e0, e2]; exact h4) (by rw [e1, e2]; exact h5) hw1 w_nat w_sta w_sys hdd hst hlv hd ?_
  rw [e0, e1, e2]
  rw [mk_set_c σ hS1]
  exact kk
end GS
def isW (b : Nat) : Prop := b = 12 ∨ b = 49 ∨ b = 86
theorem shW {b : Nat} (hb : isW b) {j : Nat} (hj : j < 37) : SH[b + j]? = (wsh b)[j]? := by
  unfold SH
  rcases hb with rfl | rfl | rfl
  · rw [List.getElem?_append_right (by show 12 ≤ _; omega), List.getElem?_append_left (by show _ - 12 < 37; omega)]
    show (wsh 12)[12 + j - 12]? = _
    rw [Nat.add_sub_cancel_left]
  · rw [List.getElem?_append_right (by show 12 ≤ _; omega), List.getElem?_append_right (by show 37 ≤ 49 + j - 12; omega), List.getElem?_append_left (by show 49 + j - 12 - 37 < 37; omega)]
    show (wsh 49)[49 + j - 12 - 37]? = _
    rw [show 49 + j - 12 - 37 = j by omega]
  · rw [List.getElem?_append_right (by show 12 ≤ _; omega), List.getElem?_append_right (by show 37 ≤ 86 + j - 12; omega), List.getElem?_append_right (by show 37 ≤ 86 + j - 12 - 37; omega), List.getElem?_append_left (by show 86 + j - 12 - 37 - 37 < 37; omega)]
    show (wsh 86)[86 + j - 12 - 37 - 37]? = _
    rw [show 86 + j - 12 - 37 - 37 = j by omega]
theorem w0 {b : Nat} (hb : isW b) : SH[b]? = some (.inr (.inr (9, [some 1, some (b + 1), some (b + 6), some (b + 11), some (b + 14), some (b + 16), some (b + 22), some (b + 35), some (b + 36), none, none, none, none]))) := (shW hb (j := 0) (by decide)).trans rfl
theorem w1 {b : Nat} (hb : isW b) : SH[b + 1]? = some (.inr (.inr (1, [some (b + 2), some (b + 3), some (b + 4), some (b + 5), none, none]))) := (shW hb (j := 1) (by decide)).trans rfl
theorem w2 {b : Nat} (hb : isW b) : SH[b + 2]? = some (.inl 10) := (shW hb (j := 2) (by decide)).trans rfl
theorem w3 {b : Nat} (hb : isW b) : SH[b + 3]? = some (.inl 10) := (shW hb (j := 3) (by decide)).trans rfl
theorem w4 {b : Nat} (hb : isW b) : SH[b + 4]? = some (.inl 10) := (shW hb (j := 4) (by decide)).trans rfl
theorem w5 {b : Nat} (hb : isW b) : SH[b + 5]? = some (.inl 10) := (shW hb (j := 5) (by decide)).trans rfl
theorem w6 {b : Nat} (hb : isW b) : SH[b + 6]? = some (.inr (.inr (3, [some (b + 7), some (b + 8), some (b + 9), some (b + 10), none, none]))) := (shW hb (j := 6) (by decide)).trans rfl
theorem w7 {b : Nat} (hb : isW b) : SH[b + 7]? = some (.inl 14) := (shW hb (j := 7) (by decide)).trans rfl
theorem w8 {b : Nat} (hb : isW b) : SH[b + 8]? = some (.inl 14) := (shW hb (j := 8) (by decide)).trans rfl
theorem w9 {b : Nat} (hb : isW b) : SH[b + 9]? = some (.inl 14) := (shW hb (j := 9) (by decide)).trans rfl
theorem w10 {b : Nat} (hb : isW b) : SH[b + 10]? = some (.inl 14) := (shW hb (j := 10) (by decide)).trans rfl
theorem w11 {b : Nat} (hb : isW b) : SH[b + 11]? = some (.inr (.inr (8, [some (b + 12), some (b + 13), none]))) := (shW hb (j := 11) (by decide)).trans rfl
theorem w12 {b : Nat} (hb : isW b) : SH[b + 12]? = some (.inl 6) := (shW hb (j := 12) (by decide)).trans rfl
theorem w13 {b : Nat} (hb : isW b) : SH[b + 13]? = some (.inl 6) := (shW hb (j := 13) (by decide)).trans rfl
theorem w14 {b : Nat} (hb : isW b) : SH[b + 14]? = some (.inr (.inr (4, [some (b + 15), none]))) := (shW hb (j := 14) (by decide)).trans rfl
theorem w15 {b : Nat} (hb : isW b) : SH[b + 15]? = some (.inl 3) := (shW hb (j := 15) (by decide)).trans rfl
theorem w16 {b : Nat} (hb : isW b) : SH[b + 16]? = some (.inr (.inr (2, [some (b + 17), some (b + 18), some (b + 19), some (b + 20), some (b + 21), none]))) := (shW hb (j := 16) (by decide)).trans rfl
theorem w17 {b : Nat} (hb : isW b) : SH[b + 17]? = some (.inl 6) := (shW hb (j := 17) (by decide)).trans rfl
theorem w18 {b : Nat} (hb : isW b) : SH[b + 18]? = some (.inl 4) := (shW hb (j := 18) (by decide)).trans rfl
theorem w19 {b : Nat} (hb : isW b) : SH[b + 19]? = some (.inl 6) := (shW hb (j := 19) (by decide)).trans rfl
theorem w20 {b : Nat} (hb : isW b) : SH[b + 20]? = some (.inl 6) := (shW hb (j := 20) (by decide)).trans rfl
theorem w21 {b : Nat} (hb : isW b) : SH[b + 21]? = some (.inl 6) := (shW hb (j := 21) (by decide)).trans rfl
theorem w22 {b : Nat} (hb : isW b) : SH[b + 22]? = some (.inr (.inr (0, [some (b + 23), some (b + 24), some (b + 25), some (b + 26), some (b + 27), some (b + 28), some (b + 29), some (b + 30), some (b + 31), some (b + 32), some (b + 33), some (b + 34), none]))) := (shW hb (j := 22) (by decide)).trans rfl
theorem w23 {b : Nat} (hb : isW b) : SH[b + 23]? = some (.inl 20) := (shW hb (j := 23) (by decide)).trans rfl
theorem w24 {b : Nat} (hb : isW b) : SH[b + 24]? = some (.inl 20) := (shW hb (j := 24) (by decide)).trans rfl
theorem w25 {b : Nat} (hb : isW b) : SH[b + 25]? = some (.inl 20) := (shW hb (j := 25) (by decide)).trans rfl
theorem w26 {b : Nat} (hb : isW b) : SH[b + 26]? = some (.inl 20) := (shW hb (j := 26) (by decide)).trans rfl
theorem w27 {b : Nat} (hb : isW b) : SH[b + 27]? = some (.inl 20) := (shW hb (j := 27) (by decide)).trans rfl
theorem w28 {b : Nat} (hb : isW b) : SH[b + 28]? = some (.inl 20) := (shW hb (j := 28) (by decide)).trans rfl
theorem w29 {b : Nat} (hb : isW b) : SH[b + 29]? = some (.inl 20) := (shW hb (j := 29) (by decide)).trans rfl
theorem w30 {b : Nat} (hb : isW b) : SH[b + 30]? = some (.inl 20) := (shW hb (j := 30) (by decide)).trans rfl
theorem w31 {b : Nat} (hb : isW b) : SH[b + 31]? = some (.inl 20) := (shW hb (j := 31) (by decide)).trans rfl
theorem w32 {b : Nat} (hb : isW b) : SH[b + 32]? = some (.inl 20) := (shW hb (j := 32) (by decide)).trans rfl
theorem w33 {b : Nat} (hb : isW b) : SH[b + 33]? = some (.inl 20) := (shW hb (j := 33) (by decide)).trans rfl
theorem w34 {b : Nat} (hb : isW b) : SH[b + 34]? = some (.inl 20) := (shW hb (j := 34) (by decide)).trans rfl
theorem w35 {b : Nat} (hb : isW b) : SH[b + 35]? = some (.inl 4) := (shW hb (j := 35) (by decide)).trans rfl
theorem w36 {b : Nat} (hb : isW b) : SH[b + 36]? = some (.inl 2) := (shW hb (j := 36) (by decide)).trans rfl
theorem h0 : SH[0]? = some (.inr (.inr (10, [some 1, some 12, some 49, some 86, some 123, some 131, some 134, none]))) := by decide +kernel
theorem h1 : SH[1]? = some (.inr (.inr (7, [some 2, some 9, some 10, some 11]))) := by decide +kernel
theorem h2 : SH[2]? = some (.inr (.inl (1, [3, 4, 5, 6, 7, 8]))) := by decide +kernel
theorem h3 : SH[3]? = some (.inl 100) := by decide +kernel
theorem h4 : SH[4]? = some (.inl 100) := by decide +kernel
theorem h5 : SH[5]? = some (.inl 100) := by decide +kernel
theorem h6 : SH[6]? = some (.inl 100) := by decide +kernel
theorem h7 : SH[7]? = some (.inl 100) := by decide +kernel
theorem h8 : SH[8]? = some (.inl 100) := by decide +kernel
theorem h9 : SH[9]? = some (.inl 6) := by decide +kernel
theorem h10 : SH[10]? = some (.inl 4) := by decide +kernel
theorem h11 : SH[11]? = some (.inl 100) := by decide +kernel
theorem h123 : SH[123]? = some (.inr (.inr (5, [some 124, some 125, some 126]))) := by decide +kernel
theorem h124 : SH[124]? = some (.inl 4) := by decide +kernel
theorem h125 : SH[125]? = some (.inl 4) := by decide +kernel
theorem h126 : SH[126]? = some (.inr (.inl (1, [127, 128, 129, 130]))) := by decide +kernel
theorem h127 : SH[127]? = some (.inl 24) := by decide +kernel
theorem h128 : SH[128]? = some (.inl 24) := by decide +kernel
theorem h129 : SH[129]? = some (.inl 24) := by decide +kernel
theorem h130 : SH[130]? = some (.inl 24) := by decide +kernel
theorem h131 : SH[131]? = some (.inr (.inr (6, [some 132, some 133, none, none, none, none, none, none]))) := by decide +kernel
theorem h132 : SH[132]? = some (.inl 100) := by decide +kernel
theorem h133 : SH[133]? = some (.inl 100) := by decide +kernel
theorem h134 : SH[134]? = some (.inl 7) := by decide +kernel
theorem h135 : SH[135]? = some (.inr (.inr (11, [some 136, some 137, some 138, none, some 139, some 140, none, none, none, none, none, some 141, none, none, none, none, none, some 142, none, some 143, some 144, some 145, some 146, some 147]))) := by decide +kernel
theorem h136 : SH[136]? = some (.inl 970) := by decide +kernel
theorem h137 : SH[137]? = some (.inl 970) := by decide +kernel
theorem h138 : SH[138]? = some (.inl 970) := by decide +kernel
theorem h139 : SH[139]? = some (.inl 7) := by decide +kernel
theorem h140 : SH[140]? = some (.inl 100) := by decide +kernel
theorem h141 : SH[141]? = some (.inr (.inl (2, [100105, 100106, 100107, 100108]))) := by decide +kernel
theorem h142 : SH[142]? = some (.inl 200) := by decide +kernel
theorem h143 : SH[143]? = some (.inl 200) := by decide +kernel
theorem h144 : SH[144]? = some (.inl 4) := by decide +kernel
theorem h145 : SH[145]? = some (.inl 4) := by decide +kernel
theorem h146 : SH[146]? = some (.inl 96) := by decide +kernel
theorem h147 : SH[147]? = some (.inl 24) := by decide +kernel
theorem lX11_296 : Cond.methodLink "TowField" 296 arraycopyName ∈ TW := TW_of (List.mem_of_getElem? (i := 1156) (by decide +kernel)) rfl
theorem lX0_73 : Cond.methodLink "TowField$Asks" 73 arraycopyName ∈ TW := TW_of (List.mem_of_getElem? (i := 1091) (by decide +kernel)) rfl
theorem lX1_39 : Cond.methodLink "TowField$Gliders" 39 arraycopyName ∈ TW := TW_of (List.mem_of_getElem? (i := 1066) (by decide +kernel)) rfl
theorem lX3_39 : Cond.methodLink "TowField$Lanes" 39 arraycopyName ∈ TW := TW_of (List.mem_of_getElem? (i := 1086) (by decide +kernel)) rfl
theorem lX4_45 : Cond.methodLink "TowField$People" 45 arraycopyName ∈ TW := TW_of (List.mem_of_getElem? (i := 1071) (by decide +kernel)) rfl
theorem lX5_27 : Cond.methodLink "TowField$Planes" 27 arraycopyName ∈ TW := TW_of (List.mem_of_getElem? (i := 1081) (by decide +kernel)) rfl
theorem lX8_26 : Cond.methodLink "TowField$Texts" 26 arraycopyName ∈ TW := TW_of (List.mem_of_getElem? (i := 968) (by decide +kernel)) rfl
theorem lX9_41 : Cond.methodLink "TowField$Winches" 41 arraycopyName ∈ TW := TW_of (List.mem_of_getElem? (i := 1076) (by decide +kernel)) rfl
theorem lX10_80 : Cond.methodLink "TowField$World" 80 arraycopyName ∈ TW := TW_of (List.mem_of_getElem? (i := 1061) (by decide +kernel)) rfl
