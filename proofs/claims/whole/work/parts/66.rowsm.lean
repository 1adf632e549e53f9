/-! ===== the constructors: rows that make arrays of references ===== -/
def rowsOf (N r : Nat) : Nat → Option Nat := fun i => if i < r then some (N + 1 + i) else none
/-- an outer array at N, its rows behind it -/
def fm (f : Nat → AE) (N r m : Nat) : Nat → AE := fun k => if k = N then .inr (.inl (1, r, rowsOf N r)) else if N < k ∧ k ≤ N + r then .inl (m, fun _ => 0) else f k
section KM
variable {μ : Mx} {ω : Om} {Q : State → Prop} {own : String} {cc : ByteArray} {nL d pc n k L : Nat} {lv : List (Option Value)} {st : List Value} {idx a N : Nat} {f : Nat → AE}
theorem k_multi (C : Cx μ ω own cc nL d) (hz : Sz μ ω L) (hl : N = L + n) {x y : Int32} {r m : Nat} (h148 : N + r < 148) (hx : x = nI r) (hy : y = nI m) (hm : m ≤ 1000) (hw : Cond.classLink own idx "[[I" ∈ TW) (hc : n + (1 + r) ≤ (mR μ).cells) (hk : k + (r + r * m) ≤ (mR μ).slots) (hd : decode cc pc = .ok (.multianewarray idx 2, 4))
    (kk : G μ ω Q (pc + 4) lv (.ref N :: st) (hp (N + 1 + r) (fm f N r m)) (n + (1 + r)) (k + (r + r * m))) : G μ ω Q pc lv (.int y :: .int x :: st) (hp N f) n k := by
  intro H locs ls hJ hL T hT X
  have hs := hz.size (by rw [hp_len]; exact hl) (by rw [hp_len]; omega) hJ hT X
  rw [hp_len] at hs
  have hR : oR ω N = H.size := (hz.2 _ (by omega)).trans hs.symm
  have ex : x.toNatClampNeg = r := by rw [hx, nI_clamp (by omega)]
  have ey : y.toNatClampNeg = m := by rw [hy, nI_clamp (by omega)]
  obtain ⟨vm₁, cA, comp, L1, hfA, hfC, hL1, X1, stp⟩ := multi_step X C.x (own := own) (index := idx) C.o (C.w _ hw) (C.e.2.2.1.2) (C.w _ wInt) (g := F0 (mM μ) pc ls (.int y :: .int x :: st.map (cV ω))) rfl (by rw [C.b]; exact hd) rfl (by rw [hx]; exact nI_pos (by omega)) (by rw [hy]; exact nI_pos (by omega)) ex ey (by omega) hm hc hk
  have hcA : cA = oT ω 1 := Option.some.inj (hfA.symm.trans (C.e.1.2 1 _ rfl).2)
  have hcp : comp = oT ω 0 := Option.some.inj (hfC.symm.trans (C.e.1.2 0 _ rfl).2)
  subst hcA; subst hcp
  obtain ⟨g1, g2, g3, g4, fo, fi⟩ := mf_facts (T.setVm vm₁) (oT ω 1) (oT ω 0) r m r
  have hTs : T.heap.size = oZ ω + N := by rw [hT]; exact hs
  have hTv : (T.setVm vm₁).heap = T.heap := rfl
  rw [hTv] at g1 g2 fo fi
  have hJ1 : J ω (mS μ) (hp (N + 1 + r) (fm f N r m)) (mf (T.setVm vm₁) (oT ω 1) (oT ω 0) r m r).heap (locs ++ L1) := by
    refine ⟨Jh_of hz.2 (by rw [hp_len]; omega) (fun q e he => ?_), ⟨Nat.le_trans hJ.2.1 (by rw [g1, hT]; omega), fun q h1 h2 => ?_, fun q hq => ?_⟩⟩
    · have hq : q < N + 1 + r := by
        rcases Nat.lt_or_ge q (N + 1 + r) with z | z
        · exact z
        · rw [hp_none _ z] at he; cases he
      rw [hp_get _ hq] at he
      cases he
      unfold fm
      by_cases e1 : q = N
      · subst e1
        rw [if_pos rfl, hR, ← hT]
        show _ = some (vp_cell _ _)
        rw [g2, vp_cell_q]
        unfold oArr
        congr 2
        funext j
        show (if j < r then Value.ref (T.heap.size + 1 + j) else Value.null) = va_rf (Option.map (oR ω) (if j < r then some (q + 1 + j) else none))
        by_cases hj : j < r
        · rw [if_pos hj, if_pos hj]
          show Value.ref (T.heap.size + 1 + j) = Value.ref (oR ω (q + 1 + j))
          rw [hz.2 (q + 1 + j) (by omega), hTs]
          exact congrArg Value.ref (show (oZ ω + q + 1 + j : Nat) = oZ ω + (q + 1 + j) by omega)
        · rw [if_neg hj, if_neg hj]; rfl
      · rw [if_neg e1]
        by_cases e2 : N < q ∧ q ≤ N + r
        · rw [if_pos e2]
          have h3 := fi (q - N - 1) (by omega)
          rw [show T.heap.size + 1 + (q - N - 1) = oR ω q from by rw [hz.2 q (by omega), hTs]; omega] at h3
          exact h3
        · rw [if_neg e2]
          have h3 := hJ.1.1 q _ (cW_get ω _ q (hp_get f (show q < N by omega)))
          exact h3.kept (by have := h3.lt; rw [fo _ (by rw [hT]; exact this), hT])
    · rw [fo q (by rw [hT]; exact Nat.lt_of_lt_of_le h1 hJ.2.1), hT]
      exact hJ.2.2.1 q h1 h2
    · rcases List.mem_append.mp hq with z | z
      · exact hJ.2.2.2 q z
      · show oZ ω ≤ q.base
        rw [hL1 q z, hTs]; omega
  obtain ⟨t, a1, b1⟩ := kk _ (locs ++ L1) ls hJ1 hL _ rfl (by rw [← Nat.add_assoc, ← Nat.add_assoc]; exact X1)
  refine ⟨t, stp t ?_, b1⟩
  rw [hT, ← hR]
  exact a1
theorem k_anew (C : Cx μ ω own cc nL d) (hz : Sz μ ω L) (hl : N = L + n) (h148 : N < 148) {x : Int32} {m : Nat} (hx : x = nI m) (hm : m ≤ 1000) (hw : Cond.classLink own idx "java/lang/String" ∈ TW) (hc : n + 1 ≤ (mR μ).cells) (hk : k + m ≤ (mR μ).slots) (hd : decode cc pc = .ok (.anewarray idx, 3))
    (kk : G μ ω Q (pc + 3) lv (.ref N :: st) (hp (N + 1) (fu f N (.inr (.inl (2, m, fun _ => none))))) (n + 1) (k + m)) : G μ ω Q pc lv (.int x :: st) (hp N f) n k := by
  intro H locs ls hJ hL T hT X
  have hs := hz.size (by rw [hp_len]; exact hl) (by rw [hp_len]; omega) hJ hT X
  rw [hp_len] at hs
  have hR : oR ω N = H.size := (hz.2 _ h148).trans hs.symm
  have ex : x.toNatClampNeg = m := by rw [hx, nI_clamp (by omega)]
  have w : Wm μ H locs n k Q (F0 (mM μ) pc ls (.int x :: st.map (cV ω))) := by
    refine W.anew C.x C.b C.o (C.w _ hw) (va_AO.use C.e.2.2.1.1) rfl hd rfl (by rw [hx]; exact nI_pos (by omega)) (by rw [ex]; omega) hc (by rw [ex]; exact hk) (fun cA kA comp q1 q2 q3 q4 => ?_)
    rw [ex]
    obtain ⟨kB, cB, b1, b2, b3, b4⟩ := (C.e.1.2 2 _ rfl).2
    have hcA : cA = oT ω 2 := Option.some.inj (q1.symm.trans b4)
    subst hcA
    have hJ1 := J_grow (e := .inr (.inl (2, m, fun _ => none))) hz.2 (by rw [hp_len]; exact h148) hJ (by rw [hp_len]; exact hR) (H1 := H.push { cls := oT ω 2, slots := Array.replicate m .null, vm := .none }) (by rw [Array.size_push]) (fun q hq => by rw [Array.getElem?_push, if_neg (Nat.ne_of_lt hq)]) (by
      show _ = some (vp_cell _ _)
      rw [vp_cell_q, Array.getElem?_push_size, arrV_new]; rfl)
    rw [hp_app] at hJ1
    refine W.eq (g2 := F0 (mM μ) (pc + 3) ls ((Value.ref N :: st).map (cV ω))) (by rw [← hR]; rfl) ?_
    exact kk _ locs ls hJ1 hL
  exact w T hT X
theorem k_aast (C : Cx μ ω own cc nL d) {m q j : Nat} {g : Nat → Option Nat} {i : Int32} {z : String × Nat × String × List Int32} (ha : a < N) (he : f a = .inr (.inl (2, m, g))) (hj : sxL[j]? = some z) (hi : i = nI q) (hq : q < m) (hm : m ≤ 1000) (hd : decode cc pc = .ok (.aastore, 1))
    (kk : G μ ω Q (pc + 1) lv st (hp N (fu f a (.inr (.inl (2, m, va_up g q (some (100100 + j))))))) n k) : G μ ω Q pc lv (.ref (100100 + j) :: .int i :: .ref a :: st) (hp N f) n k := by
  intro H locs ls hJ hL
  rw [← hp_set f ha] at kk
  have hk : (hp N f)[a]? = some (.inr (.inl (2, m, g))) := by rw [hp_get f ha, he]
  obtain ⟨cell, o1, o2, o3, o4⟩ := (C.e.2.2.2.1.2.1 j z hj).2.1
  have hlt : oR ω (100100 + j) < (mS μ).heap.size := (Array.getElem?_eq_some_iff.mp o1).1
  have ei : i.toNatClampNeg = q := by rw [hi, nI_clamp (by omega)]
  refine vb_astq (A := oA ω) (H0 := (mS μ).heap) (E := "java/lang/String") (C := "java/lang/String") C.x C.b C.e.1 hJ.1.1 hJ.1.2 hJ.2 a 2 (cW_get ω _ a hk) rfl ⟨cell, by rw [hJ.2.2.1 _ hlt o4]; exact o1, o2, o3⟩ (fun comp c0 e1 e2 => ?_) (by rintro (w | w); exact absurd w (by rw [hi]; exact nI_pos (by omega)); exact absurd (show m ≤ i.toNatClampNeg from w) (by rw [ei]; omega)) hd (fun H1 locs1 hP hD hS => kk H1 locs1 ls ⟨⟨?_, ?_⟩, hS⟩ hL)
  · rw [Option.some.inj (e1.symm.trans e2)]
    unfold Vm.assignable Vm.assignableAux
    simp
  · rw [cW_set]
    rw [ei] at hP
    have e : (fun y => (va_up g q (some (100100 + j)) y).map (oR ω)) = va_up (fun y => (g y).map (oR ω)) q (some (oR ω (100100 + j))) := by
      funext y
      unfold va_up
      by_cases h : y = q
      · rw [if_pos h, if_pos h]; rfl
      · rw [if_neg h, if_neg h]
    show va_P _ _ ((cW ω _).set a (oR ω a, .inl (oT ω 2, m, .inr (.inr (.inr (.inr (fun y => (va_up g q (some (100100 + j)) y).map (oR ω)))))))) H1
    rw [e]; exact hP
  · rw [cW_set]
    rw [ei] at hD
    have e : (fun y => (va_up g q (some (100100 + j)) y).map (oR ω)) = va_up (fun y => (g y).map (oR ω)) q (some (oR ω (100100 + j))) := by
      funext y
      unfold va_up
      by_cases h : y = q
      · rw [if_pos h, if_pos h]; rfl
      · rw [if_neg h, if_neg h]
    show va_D _ ((cW ω _).set a (oR ω a, .inl (oT ω 2, m, .inr (.inr (.inr (.inr (fun y => (va_up g q (some (100100 + j)) y).map (oR ω))))))))
    rw [e]; exact hD
end KM
