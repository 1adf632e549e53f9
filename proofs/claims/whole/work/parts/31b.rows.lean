/-! ===== rows that say what is read and what the state becomes ===== -/
section GV
variable {μ : Mx} {ω : Om} {Q : State → Prop} {own : String} {cc : ByteArray} {nL d pc n k : Nat} {lv : List (Option Value)} {st : List Value} {σ σ' : Sg} {idx ci j a : Nat} {fs : List (Option Nat)}
theorem s_getIv (C : Cx μ ω own cc nL d) {v : Int32} (hF : FL own idx ci j) (hS : SH[a]? = some (.inr (.inr (ci, fs)))) (hj : fs[j]? = some none) (hv : σ a j = v) (hd : decode cc pc = .ok (.getfield idx, 3)) (kk : G μ ω Q (pc + 3) lv (.int v :: st) (mk σ) n k) : G μ ω Q pc lv (.ref a :: st) (mk σ) n k := by
  subst hv
  exact s_getI C hF hS hj hd kk
theorem s_putIv (C : Cx μ ω own cc nL d) {x : Int32} (hF : FLp own idx ci j .int) (hS : SH[a]? = some (.inr (.inr (ci, fs)))) (hj : fs[j]? = some none) (hs : up σ a j x = σ') (hd : decode cc pc = .ok (.putfield idx, 3)) (kk : G μ ω Q (pc + 3) lv st (mk σ') n k) : G μ ω Q pc lv (.int x :: .ref a :: st) (mk σ) n k := by
  subst hs
  exact s_putI C hF hS hj hd kk
theorem s_putZv (C : Cx μ ω own cc nL d) {x : Int32} (hx : x = 0 ∨ x = 1) (hF : FLp own idx ci j .boolean) (hS : SH[a]? = some (.inr (.inr (ci, fs)))) (hj : fs[j]? = some none) (hs : up σ a j x = σ') (hd : decode cc pc = .ok (.putfield idx, 3)) (kk : G μ ω Q (pc + 3) lv st (mk σ') n k) : G μ ω Q pc lv (.int x :: .ref a :: st) (mk σ) n k := by
  subst hs
  exact s_putZ C hx hF hS hj hd kk
theorem s_ialdv (C : Cx μ ω own cc nL d) {m q : Nat} {i v : Int32} (hS : SH[a]? = some (.inl m)) (hi : i = nI q) (hq : q < m) (hm : m < 2 ^ 31) (hv : σ a q = v) (hd : decode cc pc = .ok (.iaload, 1)) (kk : G μ ω Q (pc + 1) lv (.int v :: st) (mk σ) n k) : G μ ω Q pc lv (.int i :: .ref a :: st) (mk σ) n k := by
  subst hv
  exact s_iald C hS hi hq hm hd kk
theorem s_iastv (C : Cx μ ω own cc nL d) {m q : Nat} {i x : Int32} (hS : SH[a]? = some (.inl m)) (hi : i = nI q) (hq : q < m) (hm : m < 2 ^ 31) (hs : up σ a q x = σ') (hd : decode cc pc = .ok (.iastore, 1)) (kk : G μ ω Q (pc + 1) lv st (mk σ') n k) : G μ ω Q pc lv (.int x :: .int i :: .ref a :: st) (mk σ) n k := by
  subst hs
  exact s_iast C hS hi hq hm hd kk
theorem r_Z (C : Cx μ ω own cc nL d) {ty : FieldType} {w v : Int32} (hr : (mH μ).sig.returnType = some ty) (hd : decode cc pc = .ok (.ireturn, 1)) (hn : narrow ty (.int w) = .int w) (hv : w = v) (hs : σ = σ') : G μ ω (RQ μ ω (pI v σ')) pc lv [.int w] (mk σ) 0 0 :=
  g_zret C hr hn hd ⟨by rw [hv], by rw [hs]⟩
end GV
