/-! ===== rows that name the new state ===== -/
theorem up_at (σ : Sg) (k j : Nat) (x : Int32) : up σ k j x k = upd (σ k) j x := if_pos rfl
theorem up_ne (σ : Sg) {k q : Nat} (j : Nat) (x : Int32) (h : q ≠ k) : up σ k j x q = σ q := if_neg h
theorem upd_at (f : Nat → Int32) (k : Nat) (x : Int32) : upd f k x k = x := if_pos rfl
theorem upd_ne (f : Nat → Int32) {k j : Nat} (x : Int32) (h : j ≠ k) : upd f k x j = f j := if_neg h
section GW
variable {μ : Mx} {ω : Om} {Q : State → Prop} {own : String} {cc : ByteArray} {nL d pc : Nat} {lv : List (Option Value)} {st stk : List Value} {σ σ' : Sg} {M : MI} {d' idx a : Nat} {as : List Value} {n k : Nat}
theorem s_iastN (C : Cx μ ω own cc nL d) {m q : Nat} {i x : Int32} (hS : SH[a]? = some (.inl m)) (hi : i = nI q) (hq : q < m) (hm : m < 2 ^ 31) (hd : decode cc pc = .ok (.iastore, 1)) (kk : ∀ τ, τ = up σ a q x → G μ ω Q (pc + 1) lv st (mk τ) n k) : G μ ω Q pc lv (.int x :: .int i :: .ref a :: st) (mk σ) n k :=
  s_iast C hS hi hq hm hd (kk _ rfl)
theorem s_putIN (C : Cx μ ω own cc nL d) {ci j : Nat} {fs : List (Option Nat)} {x : Int32} (hF : FLp own idx ci j .int) (hS : SH[a]? = some (.inr (.inr (ci, fs)))) (hj : fs[j]? = some none) (hd : decode cc pc = .ok (.putfield idx, 3)) (kk : ∀ τ, τ = up σ a j x → G μ ω Q (pc + 3) lv st (mk τ) n k) : G μ ω Q pc lv (.int x :: .ref a :: st) (mk σ) n k :=
  s_putI C hF hS hj hd (kk _ rfl)
theorem s_VUN (C : Cx μ ω own cc nL d) {b ci : Nat} {fs : List (Option Nat)} {T : u_T} {N : Nat} (hS : SH[b]? = some (.inr (.inr (ci, fs)))) (hci : vwCl[ci]? = some (M.1.cls, T, N)) (hM : CU d' M (.ref b :: as) σ σ') (hdd : d' + 1 ≤ d) (hml : MLv own idx M as.length) (hd : decode cc pc = .ok (.invokevirtual idx, 3)) (hstk : stk = as.reverse ++ .ref b :: st) (hst : (st.map fun v => v.category).sum ≤ 8) (hlv : lv.length = nL) (kk : ∀ τ, τ = σ' → G μ ω Q (pc + 3) lv st (mk τ) 0 0) : G μ ω Q pc lv stk (mk σ) 0 0 :=
  s_VU C hS hci hM hdd hml hd hstk hst hlv (kk _ rfl)
end GW
