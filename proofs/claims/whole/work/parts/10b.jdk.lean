theorem con_ofF {d : Nat} {M : MI} {as : List Value} {h : AH} {post : Option Value → AH → Prop} (hy : plainFor M.1 = true) (hc : ∀ v ∈ as, v.category = 1) (hn : as.length ≤ M.2.2.1)
    (body : ∀ (μ : Mx) (ω : Om), Cx μ ω M.1.cls M.2.1 M.2.2.1 d → (mH μ).sig.returnType = M.2.2.2 → G μ ω (RQ μ ω post) 0 (lvIn as M.2.2.1) [] h 0 0) : Con d M as h post := by
  intro l ω
  refine va_MetF (cc := M.2.1) (maxL := M.2.2.1) (ret := M.2.2.2) hy rfl ?_
  intro p e s m args below meth c s₁ B hml hv
  obtain ⟨rfl, hE, hJ, hA⟩ := hv
  have hts := atoms_spec (ws := wsM M) B.pre
  have C : Cx (p, l, e, (headSpec (wsM M) (rmD d)).room, s, m, (as.map (cV ω)).toArray, below, meth, c) ω M.1.cls M.2.1 M.2.2.1 d :=
    ⟨B.exec, B.bytes, hml, findClass_of_methodNamed B.named, fun w hw => hts w (List.mem_cons_of_mem _ hw), hE, Nat.le_refl _, Nat.le_refl _, hA, B.notSynchronized⟩
  have k := body (p, l, e, (headSpec (wsM M) (rmD d)).room, s, m, (as.map (cV ω)).toArray, below, meth, c) ω C B.returns
  rw [lg_entry_eq]
  exact k s.heap [] _ ⟨hJ, va_S.rf⟩ (Hs_entry ω as M.2.2.1 hc hn)
theorem pf0 : plainFor yJ9_max_7cf53 = true := by decide +kernel
theorem pf1 : plainFor yJ9_min_7cf53 = true := by decide +kernel
theorem pf2 : plainFor yJ6_bitCount_0f7a4 = true := by decide +kernel
theorem pf3 : plainFor yJ0_length_8abf5 = true := by decide +kernel
theorem pf4 : plainFor yJ0_charAt_5068e = true := by decide +kernel
theorem pf5 : plainFor yJ0_indexOf_0f7a4 = true := by decide +kernel
theorem pf6 : plainFor yJ0_indexOf_7cf53 = true := by decide +kernel
theorem pf7 : plainFor yJ0_coder_7d493 = true := by decide +kernel
theorem pf8 : plainFor yJ0_isLatin1_aae02 = true := by decide +kernel
theorem pf9 : plainFor yJ0_checkIndex_df160 = true := by decide +kernel
theorem pf10 : plainFor yJ1_charAt_3b067 = true := by decide +kernel
theorem pf11 : plainFor yJ1_canEncode_9a6ad = true := by decide +kernel
theorem pf12 : plainFor yJ1_indexOf_4cfef = true := by decide +kernel
theorem pf13 : plainFor yJ1_indexOfChar_4cfef = true := by decide +kernel
theorem pf14 : plainFor yJ3_checkIndex_8e157 = true := by decide +kernel
