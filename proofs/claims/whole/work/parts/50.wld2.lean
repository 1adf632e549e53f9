/-! ===== the class: a landing, a launch, a minute ===== -/
theorem Con.imp {d : Nat} {M : MI} {as : List Value} {h : AH} {post post' : Option Value → AH → Prop} (hC : Con d M as h post) (hi : ∀ r h', post r h' → post' r h') : Con d M as h post' := by
  intro l ω p e ha hc hk s m args below hf happ hP hK
  obtain ⟨k, o, h1, h2, h3, ⟨r, h', e1, e2, e3, e4⟩, hL⟩ := hC l ω p e ha hc hk s m args below hf happ hP hK
  exact ⟨k, o, h1, h2, h3, ⟨r, h', e1, hi r h' e2, e3, e4⟩, hL⟩
theorem CU.q {d : Nat} {M : MI} {as : List Value} {σ σ' : Sg} {post : Sg → Prop} (h : CU d M as σ σ') (hp : post σ') : CQ d M as σ post := Con.imp h (fun r h' q => ⟨σ', q.1, q.2, hp⟩)
theorem CQ.q {d : Nat} {M : MI} {as : List Value} {σ : Sg} {post post' : Sg → Prop} (h : CQ d M as σ post) (hi : ∀ τ, post τ → post' τ) : CQ d M as σ post' := Con.imp h (fun r h' q => by obtain ⟨τ, a, b, c⟩ := q; exact ⟨τ, a, b, hi τ c⟩)
theorem CP.p {d : Nat} {M : MI} {as : List Value} {σ : Sg} {post post' : Int32 → Sg → Prop} (h : CP d M as σ post) (hi : ∀ v τ, post v τ → post' v τ) : CP d M as σ post' := Con.imp h (fun r h' q => by obtain ⟨v, τ, a, b, c⟩ := q; exact ⟨v, τ, a, b, hi v τ c⟩)
theorem CI.p {d : Nat} {M : MI} {as : List Value} {σ σ' : Sg} {v : Int32} {post : Int32 → Sg → Prop} (h : CI d M as σ v σ') (hp : post v σ') : CP d M as σ post := Con.imp h (fun r h' q => ⟨v, σ', q.1, q.2, hp⟩)
theorem lan_use (ν : Nu) (a : Nat) : ν (16 + (useA ν a).toNatClampNeg) = laneA ν a := by
  unfold laneA useA
  split <;> rfl
theorem c_mv {d : Nat} (hd : 1 ≤ d) (σ : Sg) {z : Nat} (hz : isW z) {ν : Nu} (hI : INV ν) (hl : RWl σ z ν) {u l : Nat} {x y : Int32} (hx : x = nI u) (hu : u < 4) (hlu : ν (16 + u) = nI l) (hl6 : l < 6) (hy : ∃ k, 1 ≤ k ∧ k ≤ 60 ∧ y = nI k) (hcl : clearL ν l = true) :
    CQ d mX3_move [.ref (z + 16), .int x, .int (ν 0), .int y] σ (fun τ => RWl τ z (upd ν (20 + l) (ν 0 + y)) ∧ Eqx [z + 16, z + 19, z + 20, z + 21] σ τ) := by
  obtain ⟨m, hm2, hm⟩ := hI.1
  obtain ⟨hc, n, hM⟩ := hl
  obtain ⟨k, hk, hk2, rfl⟩ := hy
  subst hx
  have hn6 := MV_le hM
  have e : σ (z + 18) u = nI l := (hc.2 u hu).trans hlu
  have h := c_move hd σ hz hM.1 (by have := MV_le (MV_move hm hm2 hM hl6 hk hk2 (clear_own hI hl6 hcl)); omega) hu (ν 0) (nI k)
  rw [e] at h
  refine h.q ⟨⟨⟨fun q hq => ?_, fun q hq => ?_⟩, n + 1, MV_move hm hm2 hM hl6 hk hk2 (clear_own hI hl6 hcl)⟩, fun q hq => ?_⟩
  · rw [upd_ne _ _ (by omega)]; simp (disch := omega) only [up_ne]; exact hc.1 q hq
  · rw [upd_ne _ _ (by omega)]; simp (disch := omega) only [up_ne]; exact hc.2 q hq
  · simp only [List.mem_cons, List.not_mem_nil, or_false, not_or] at hq
    rw [up_ne _ _ _ hq.1, up_ne _ _ _ hq.2.2.2, up_ne _ _ _ hq.2.2.1, up_ne _ _ _ hq.2.1]
theorem GW.mv {τ X : Sg} {z : Nat} {ν ν' : Nu} (h : GW τ z ν ν') (h12 : X (z + 12) = τ (z + 12)) (h13 : X (z + 13) = τ (z + 13)) (h15 : X (z + 15) = τ (z + 15)) : GW X z ν ν' := by
  unfold GW
  rw [h12, h13, h15]
  exact h
theorem RW.gw {σ : Sg} {z : Nat} {ν : Nu} (h : RW σ z ν) : GW σ z ν ν := ⟨h.w.2, h.n.2⟩
theorem c_crewE {d : Nat} (hd : 1 ≤ d) (σ : Sg) {z : Nat} (hz : isW z) {ν : Nu} {a : Nat} (ha : a < 20) (h0 : σ (z + 23) a = aA ν a 0) (h1 : σ (z + 24) a = aA ν a 1) : CI d mX0_crew [.ref (z + 22), .int (nI a)] σ (crewA ν a) σ := by
  refine con_of (by decide) (catL rfl) (Nat.le_of_ble_eq_true rfl) ?_
  intro μ ω C hr
  have C : Cx μ ω "TowField$Asks" cX0_crew 3 d := C
  have hr : (mH μ).sig.returnType = some .int := hr
  show G μ ω (RQ μ ω (pI (crewA ν a) σ)) 0 [some (.ref (z + 22)), some (.int (nI a)), none] [] (mk σ) 0 0
  refine g_iconst (pc := 0) (v := 1) C dX0_crew_0 (by decide) ?_
  refine g_al0n (pc := 1) C dX0_crew_1 ?_
  refine s_getR (pc := 2) C fX0_9 (w22 hz) rfl dX0_crew_2 ?_
  refine g_il1n (pc := 5) C dX0_crew_5 ?_
  refine s_ialdv (pc := 6) (q := a) (v := aA ν a 0) C (w23 hz) rfl (by omega) (Nat.le_of_ble_eq_true rfl) h0 dX0_crew_6 ?_
  refine g_ishl (pc := 7) C dX0_crew_7 ?_
  refine g_is2n (pc := 8) C dX0_crew_8 ?_
  refine g_al0n (pc := 9) C dX0_crew_9 ?_
  refine s_getR (pc := 10) C fX0_13 (w22 hz) rfl dX0_crew_10 ?_
  refine g_il1n (pc := 13) C dX0_crew_13 ?_
  refine s_ialdv (pc := 14) (q := a) (v := aA ν a 1) C (w24 hz) rfl (by omega) (Nat.le_of_ble_eq_true rfl) h1 dX0_crew_14 ?_
  refine g_if_geL (pc := 15) (tgt := 22) C dX0_crew_15 (by decide) (fun c_15 => ?_) (fun c_15 => ?_)
  · refine g_il2n (pc := 22) C dX0_crew_22 ?_
    refine g_iconst (pc := 23) (v := 1) C dX0_crew_23 (by decide) ?_
    refine g_al0n (pc := 24) C dX0_crew_24 ?_
    refine s_getR (pc := 25) C fX0_13 (w22 hz) rfl dX0_crew_25 ?_
    refine g_il1n (pc := 28) C dX0_crew_28 ?_
    refine s_ialdv (pc := 29) (q := a) (v := aA ν a 1) C (w24 hz) rfl (by omega) (Nat.le_of_ble_eq_true rfl) h1 dX0_crew_29 ?_
    refine g_ishl (pc := 30) C dX0_crew_30 ?_
    refine g_ior (pc := 31) C dX0_crew_31 ?_
    exact r_I C hr dX0_crew_32 (by simp only [crewA, c_15, if_true, if_false]) rfl
  · refine g_il2n (pc := 18) C dX0_crew_18 ?_
    refine g_goto (pc := 19) (tgt := 32) C dX0_crew_19 (by decide) ?_
    exact r_I C hr dX0_crew_32 (by simp only [crewA, c_15, if_true, if_false]) rfl

theorem c_ugearE1 {d : Nat} (hd : 3 ≤ d) (σ : Sg) {z : Nat} (hz : isW z) {ν : Nu} (h5 : σ (z + 11) 2 = nI (cnt ν 5)) (l5 : cnt ν 5 ≤ 3) (h6 : σ (z + 14) 1 = nI (cnt ν 6)) (l6 : cnt ν 6 ≤ 3) (hg : GW σ z ν ν) (hm : σ z 9 = ν 0) (y : Int32) : CU d mX10_useGear [.ref z, .int 1, .int y] σ (gearS σ z ν 1 y) := by
  refine con_of (by decide) (catL rfl) (Nat.le_of_ble_eq_true rfl) ?_
  intro μ ω C hr
  have C : Cx μ ω "TowField$World" cX10_useGear 3 d := C
  have hr : (mH μ).sig.returnType = none := hr
  show G μ ω (RQ μ ω (pU (gearS σ z ν 1 y))) 0 [some (.ref z), some (.int 1), some (.int y)] [] (mk σ) 0 0
  refine g_il1n (pc := 0) C dX10_useGear_0 ?_
  refine g_tabIn (pc := 1) (tgt := 32) (off := 31) C dX10_useGear_1 (by decide) (by decide) (by decide) (by decide) ?_
  refine g_al0n (pc := 32) C dX10_useGear_32 ?_
  refine s_getR (pc := 33) C fX10_26 (w0 hz) rfl dX10_useGear_33 ?_
  refine s_VU (pc := 36) (st := []) C (w11 hz) rfl (c_useOneW (d := d - 1) (by omega) σ hz h5 l5 (fun p hp => (hg.1 p hp).1)) (by omega) lX10_215 dX10_useGear_36 rfl (Nat.le_of_ble_eq_true rfl) rfl ?_
  refine g_goto (pc := 39) (tgt := 70) C dX10_useGear_39 (by decide) ?_
  exact r_U C hr dX10_useGear_70 rfl

theorem c_ugearE2 {d : Nat} (hd : 3 ≤ d) (σ : Sg) {z : Nat} (hz : isW z) {ν : Nu} (h5 : σ (z + 11) 2 = nI (cnt ν 5)) (l5 : cnt ν 5 ≤ 3) (h6 : σ (z + 14) 1 = nI (cnt ν 6)) (l6 : cnt ν 6 ≤ 3) (hg : GW σ z ν ν) (hm : σ z 9 = ν 0) (y : Int32) : CU d mX10_useGear [.ref z, .int 2, .int y] σ (gearS σ z ν 2 y) := by
  refine con_of (by decide) (catL rfl) (Nat.le_of_ble_eq_true rfl) ?_
  intro μ ω C hr
  have C : Cx μ ω "TowField$World" cX10_useGear 3 d := C
  have hr : (mH μ).sig.returnType = none := hr
  show G μ ω (RQ μ ω (pU (gearS σ z ν 2 y))) 0 [some (.ref z), some (.int 2), some (.int y)] [] (mk σ) 0 0
  refine g_il1n (pc := 0) C dX10_useGear_0 ?_
  refine g_tabIn (pc := 1) (tgt := 55) (off := 54) C dX10_useGear_1 (by decide) (by decide) (by decide) (by decide) ?_
  refine g_al0n (pc := 55) C dX10_useGear_55 ?_
  refine s_getR (pc := 56) C fX10_33 (w0 hz) rfl dX10_useGear_56 ?_
  refine g_al0n (pc := 59) C dX10_useGear_59 ?_
  refine s_getIv (pc := 60) (v := ν 0) C fX10_60 (w0 hz) rfl hm dX10_useGear_60 ?_
  refine g_iconst (pc := 63) (v := 2) C dX10_useGear_63 (by decide) ?_
  refine g_il2n (pc := 64) C dX10_useGear_64 ?_
  refine g_imul (pc := 65) C dX10_useGear_65 ?_
  refine g_iadd (pc := 66) C dX10_useGear_66 ?_
  refine s_VU (pc := 67) (st := []) C (w14 hz) rfl (c_useOneP (d := d - 1) (by omega) σ hz h6 l6 hg.2 ((ν 0) + (2 * y))) (by omega) lX10_221 dX10_useGear_67 rfl (Nat.le_of_ble_eq_true rfl) rfl ?_
  exact r_U C hr dX10_useGear_70 rfl

theorem c_ugearE3 {d : Nat} (hd : 3 ≤ d) (σ : Sg) {z : Nat} (hz : isW z) {ν : Nu} (h5 : σ (z + 11) 2 = nI (cnt ν 5)) (l5 : cnt ν 5 ≤ 3) (h6 : σ (z + 14) 1 = nI (cnt ν 6)) (l6 : cnt ν 6 ≤ 3) (hg : GW σ z ν ν) (hm : σ z 9 = ν 0) (y : Int32) : CU d mX10_useGear [.ref z, .int 3, .int y] σ (gearS σ z ν 3 y) := by
  refine con_of (by decide) (catL rfl) (Nat.le_of_ble_eq_true rfl) ?_
  intro μ ω C hr
  have C : Cx μ ω "TowField$World" cX10_useGear 3 d := C
  have hr : (mH μ).sig.returnType = none := hr
  show G μ ω (RQ μ ω (pU (gearS σ z ν 3 y))) 0 [some (.ref z), some (.int 3), some (.int y)] [] (mk σ) 0 0
  refine g_il1n (pc := 0) C dX10_useGear_0 ?_
  refine g_tabIn (pc := 1) (tgt := 42) (off := 41) C dX10_useGear_1 (by decide) (by decide) (by decide) (by decide) ?_
  refine g_al0n (pc := 42) C dX10_useGear_42 ?_
  refine s_getR (pc := 43) C fX10_26 (w0 hz) rfl dX10_useGear_43 ?_
  refine s_VU (pc := 46) (st := []) C (w11 hz) rfl (c_useBothW (d := d - 1) (by omega) σ hz h5 l5 (fun p hp => (hg.1 p hp).1)) (by omega) lX10_218 dX10_useGear_46 rfl (Nat.le_of_ble_eq_true rfl) rfl ?_
  refine g_goto (pc := 49) (tgt := 70) C dX10_useGear_49 (by decide) ?_
  exact r_U C hr dX10_useGear_70 rfl

theorem c_ugearE4 {d : Nat} (hd : 3 ≤ d) (σ : Sg) {z : Nat} (hz : isW z) {ν : Nu} (h5 : σ (z + 11) 2 = nI (cnt ν 5)) (l5 : cnt ν 5 ≤ 3) (h6 : σ (z + 14) 1 = nI (cnt ν 6)) (l6 : cnt ν 6 ≤ 3) (hg : GW σ z ν ν) (hm : σ z 9 = ν 0) (y : Int32) : CU d mX10_useGear [.ref z, .int 4, .int y] σ (gearS σ z ν 4 y) := by
  refine con_of (by decide) (catL rfl) (Nat.le_of_ble_eq_true rfl) ?_
  intro μ ω C hr
  have C : Cx μ ω "TowField$World" cX10_useGear 3 d := C
  have hr : (mH μ).sig.returnType = none := hr
  show G μ ω (RQ μ ω (pU (gearS σ z ν 4 y))) 0 [some (.ref z), some (.int 4), some (.int y)] [] (mk σ) 0 0
  refine g_il1n (pc := 0) C dX10_useGear_0 ?_
  refine g_tabIn (pc := 1) (tgt := 52) (off := 51) C dX10_useGear_1 (by decide) (by decide) (by decide) (by decide) ?_
  refine g_goto (pc := 52) (tgt := 70) C dX10_useGear_52 (by decide) ?_
  exact r_U C hr dX10_useGear_70 rfl

theorem c_ugearE5 {d : Nat} (hd : 3 ≤ d) (σ : Sg) {z : Nat} (hz : isW z) {ν : Nu} (h5 : σ (z + 11) 2 = nI (cnt ν 5)) (l5 : cnt ν 5 ≤ 3) (h6 : σ (z + 14) 1 = nI (cnt ν 6)) (l6 : cnt ν 6 ≤ 3) (hg : GW σ z ν ν) (hm : σ z 9 = ν 0) (y : Int32) : CU d mX10_useGear [.ref z, .int 5, .int y] σ (gearS σ z ν 5 y) := by
  refine con_of (by decide) (catL rfl) (Nat.le_of_ble_eq_true rfl) ?_
  intro μ ω C hr
  have C : Cx μ ω "TowField$World" cX10_useGear 3 d := C
  have hr : (mH μ).sig.returnType = none := hr
  show G μ ω (RQ μ ω (pU (gearS σ z ν 5 y))) 0 [some (.ref z), some (.int 5), some (.int y)] [] (mk σ) 0 0
  refine g_il1n (pc := 0) C dX10_useGear_0 ?_
  refine g_tabOut (pc := 1) (tgt := 55) C dX10_useGear_1 (by decide) (by decide) ?_
  refine g_al0n (pc := 55) C dX10_useGear_55 ?_
  refine s_getR (pc := 56) C fX10_33 (w0 hz) rfl dX10_useGear_56 ?_
  refine g_al0n (pc := 59) C dX10_useGear_59 ?_
  refine s_getIv (pc := 60) (v := ν 0) C fX10_60 (w0 hz) rfl hm dX10_useGear_60 ?_
  refine g_iconst (pc := 63) (v := 2) C dX10_useGear_63 (by decide) ?_
  refine g_il2n (pc := 64) C dX10_useGear_64 ?_
  refine g_imul (pc := 65) C dX10_useGear_65 ?_
  refine g_iadd (pc := 66) C dX10_useGear_66 ?_
  refine s_VU (pc := 67) (st := []) C (w14 hz) rfl (c_useOneP (d := d - 1) (by omega) σ hz h6 l6 hg.2 ((ν 0) + (2 * y))) (by omega) lX10_221 dX10_useGear_67 rfl (Nat.le_of_ble_eq_true rfl) rfl ?_
  exact r_U C hr dX10_useGear_70 rfl

theorem c_useGearE {d : Nat} (hd : 3 ≤ d) (σ : Sg) {z : Nat} (hz : isW z) {ν : Nu} (h5 : σ (z + 11) 2 = nI (cnt ν 5)) (l5 : cnt ν 5 ≤ 3) (h6 : σ (z + 14) 1 = nI (cnt ν 6)) (l6 : cnt ν 6 ≤ 3) (hg : GW σ z ν ν) (hm : σ z 9 = ν 0) {x : Int32} (hx : x = 1 ∨ x = 2 ∨ x = 3 ∨ x = 4 ∨ x = 5) (y : Int32) : CU d mX10_useGear [.ref z, .int x, .int y] σ (gearS σ z ν x y) := by
  rcases hx with rfl | rfl | rfl | rfl | rfl
  · exact c_ugearE1 hd σ hz h5 l5 h6 l6 hg hm y
  · exact c_ugearE2 hd σ hz h5 l5 h6 l6 hg hm y
  · exact c_ugearE3 hd σ hz h5 l5 h6 l6 hg hm y
  · exact c_ugearE4 hd σ hz h5 l5 h6 l6 hg hm y
  · exact c_ugearE5 hd σ hz h5 l5 h6 l6 hg hm y
theorem c_comeDown {d : Nat} (hd : 5 ≤ d) (σ : Sg) {z : Nat} (hz : isW z) {ν : Nu} (hI : INV ν) (hR : RW σ z ν) {a : Nat} (ha : a < cnt ν 7) (hfl : aA ν a 6 = 1) (hcl : clearL ν (ν 18).toNatClampNeg = true) : CQ d mX10_comeDown [.ref z, .int (nI a)] σ (fun τ' => RW τ' z (downS ν a) ∧ Fz z σ τ') := by
  have h7 := hI.n7.2
  have h4 := hI.n4.2
  have hzz := isW_ge hz
  refine con_of (by decide) (catL rfl) (Nat.le_of_ble_eq_true rfl) ?_
  intro μ ω C hr
  have C : Cx μ ω "TowField$World" cX10_comeDown 5 d := C
  have hr : (mH μ).sig.returnType = none := hr
  show G μ ω (RQ μ ω (pQ (fun τ' => RW τ' z (downS ν a) ∧ Fz z σ τ'))) 0 [some (.ref z), some (.int (nI a)), none, none, none] [] (mk σ) 0 0
  refine g_al0n (pc := 0) C dX10_comeDown_0 ?_
  refine s_getR (pc := 1) C fX10_47 (w0 hz) rfl dX10_comeDown_1 ?_
  refine s_getR (pc := 4) C fX10_159 (w22 hz) rfl dX10_comeDown_4 ?_
  refine g_il1n (pc := 7) C dX10_comeDown_7 ?_
  refine s_ialdv (pc := 8) (q := a) (v := aA ν a 0) C (w23 hz) rfl (by omega) (Nat.le_of_ble_eq_true rfl) (hR.a0 (by omega)) dX10_comeDown_8 ?_
  refine g_is2n (pc := 9) C dX10_comeDown_9 ?_
  refine g_al0n (pc := 10) C dX10_comeDown_10 ?_
  refine s_getR (pc := 11) C fX10_47 (w0 hz) rfl dX10_comeDown_11 ?_
  refine s_getR (pc := 14) C fX10_142 (w22 hz) rfl dX10_comeDown_14 ?_
  refine g_il1n (pc := 17) C dX10_comeDown_17 ?_
  refine s_ialdv (pc := 18) (q := a) (v := aA ν a 1) C (w24 hz) rfl (by omega) (Nat.le_of_ble_eq_true rfl) (hR.a1 (by omega)) dX10_comeDown_18 ?_
  refine g_is3n (pc := 19) C dX10_comeDown_19 ?_
  refine g_al0n (pc := 20) C dX10_comeDown_20 ?_
  refine g_il1n (pc := 21) C dX10_comeDown_21 ?_
  refine s_VP (pc := 22) (st := []) C (w0 hz) rfl (c_costOf (d := d - 1) (by omega) σ hz hI hR ha) (by omega) lX10_265 dX10_comeDown_22 rfl (Nat.le_of_ble_eq_true rfl) rfl (fun v_22 τ1 hw_22 => ?_)
  obtain ⟨hv_22, hE1⟩ := hw_22
  subst hv_22
  have hR1 := hR.tx hI hz hE1
  refine g_is4 (pc := 25) C dX10_comeDown_25 ?_
  refine g_al0n (pc := 27) C dX10_comeDown_27 ?_
  refine s_getR (pc := 28) C fX10_40 (w0 hz) rfl dX10_comeDown_28 ?_
  refine g_iconst (pc := 31) (v := 2) C dX10_comeDown_31 (by decide) ?_
  refine g_al0n (pc := 32) C dX10_comeDown_32 ?_
  refine s_getIv (pc := 33) (v := ν 0) C fX10_60 (w0 hz) rfl hR1.min dX10_comeDown_33 ?_
  refine g_iconst (pc := 36) (v := 2) C dX10_comeDown_36 (by decide) ?_
  refine s_VQ (pc := 37) (st := []) C (w16 hz) rfl (c_mv (d := d - 1) (by omega) τ1 hz hI hR1.l (u := 2) rfl (by decide) (hI.lane (u := 2) (by decide)).1 (hI.lane (u := 2) (by decide)).2 ⟨2, by decide, by decide, rfl⟩ hcl) (by omega) lX10_258 dX10_comeDown_37 rfl (Nat.le_of_ble_eq_true rfl) rfl (fun τ2 hw_37 => ?_)
  obtain ⟨hL2, hE2⟩ := hw_37
  have hS : ∀ k, k ≤ 36 → ¬ (k = 16 ∨ k = 19 ∨ k = 20 ∨ k = 21) → τ2 (z + k) = σ (z + k) := fun k h1 h2 => (hE2 _ (by simp; omega)).trans (hE1 _ (by simp; omega))
  have hS0 : τ2 z = σ z := hS 0 (by omega) (by omega)
  have hSt : ∀ k, 3 ≤ k → k ≤ 9 → τ2 k = σ k := fun k h1 h2 => (hE2 _ (by simp; omega)).trans (hE1 _ (by simp; omega))
  have hF2 : Fz z σ τ2 := fun k h1 h2 h3 => (hE2 _ (by simp; omega)).trans (hE1 _ (by simp; omega))
  refine g_al0n (pc := 40) C dX10_comeDown_40 ?_
  refine s_getR (pc := 41) C fX10_47 (w0 hz) rfl dX10_comeDown_41 ?_
  refine s_getR (pc := 44) C fX10_108 (w22 hz) rfl dX10_comeDown_44 ?_
  refine g_il1n (pc := 47) C dX10_comeDown_47 ?_
  refine g_iconst (pc := 48) (v := 2) C dX10_comeDown_48 (by decide) ?_
  refine s_iast (pc := 49) (q := a) C (w31 hz) rfl (by omega) (Nat.le_of_ble_eq_true rfl) dX10_comeDown_49 ?_
  refine g_al0n (pc := 50) C dX10_comeDown_50 ?_
  refine s_getR (pc := 51) C fX10_47 (w0 hz) rfl dX10_comeDown_51 ?_
  refine s_getR (pc := 54) C fX10_268 (w22 hz) rfl dX10_comeDown_54 ?_
  refine g_il1n (pc := 57) C dX10_comeDown_57 ?_
  refine g_al0n (pc := 58) C dX10_comeDown_58 ?_
  refine s_getIv (pc := 59) (v := ν 0) C fX10_60 (w0 hz) rfl (by try simp (disch := omega) only [up_ne, up_at, upd_ne]; rw [hS0]; exact hR.min) dX10_comeDown_59 ?_
  refine s_iast (pc := 62) (q := a) C (w33 hz) rfl (by omega) (Nat.le_of_ble_eq_true rfl) dX10_comeDown_62 ?_
  refine g_al0n (pc := 63) C dX10_comeDown_63 ?_
  refine s_getR (pc := 64) C fX10_47 (w0 hz) rfl dX10_comeDown_64 ?_
  refine s_getR (pc := 67) C fX10_271 (w22 hz) rfl dX10_comeDown_67 ?_
  refine g_il1n (pc := 70) C dX10_comeDown_70 ?_
  refine g_il4 (pc := 71) C dX10_comeDown_71 ?_
  refine s_iast (pc := 73) (q := a) C (w34 hz) rfl (by omega) (Nat.le_of_ble_eq_true rfl) dX10_comeDown_73 ?_
  refine g_al0n (pc := 74) C dX10_comeDown_74 ?_
  refine s_getR (pc := 75) C fX10_19 (w0 hz) rfl dX10_comeDown_75 ?_
  refine s_getR (pc := 78) C fX10_274 (w6 hz) rfl dX10_comeDown_78 ?_
  refine g_il2n (pc := 81) C dX10_comeDown_81 ?_
  refine g_dup2 (pc := 82) C dX10_comeDown_82 rfl rfl ?_
  refine s_ialdv (pc := 83) (q := (aA ν a 0).toNatClampNeg) (v := aP ν (aA ν a 0).toNatClampNeg 3) C (w10 hz) (hI.who2 ha).1 (by have := (hI.who2 ha).2; have := hI.n4.2; omega) (Nat.le_of_ble_eq_true rfl) (by try simp (disch := omega) only [up_ne, up_at, upd_ne]; rw [hS 10 (by omega) (by omega)]; exact (hR.p3 (hI.who2 ha).2)) dX10_comeDown_83 ?_
  refine g_il4 (pc := 84) C dX10_comeDown_84 ?_
  refine g_iadd (pc := 86) C dX10_comeDown_86 ?_
  refine s_iast (pc := 87) (q := (aA ν a 0).toNatClampNeg) C (w10 hz) (hI.who2 ha).1 (by have := (hI.who2 ha).2; have := hI.n4.2; omega) (Nat.le_of_ble_eq_true rfl) dX10_comeDown_87 ?_
  refine g_al0n (pc := 88) C dX10_comeDown_88 ?_
  refine s_getR (pc := 89) C fX10_19 (w0 hz) rfl dX10_comeDown_89 ?_
  refine s_getR (pc := 92) C fX10_168 (w6 hz) rfl dX10_comeDown_92 ?_
  refine g_il2n (pc := 95) C dX10_comeDown_95 ?_
  refine g_al0n (pc := 96) C dX10_comeDown_96 ?_
  refine s_getIv (pc := 97) (v := ν 0) C fX10_60 (w0 hz) rfl (by try simp (disch := omega) only [up_ne, up_at, upd_ne]; rw [hS0]; exact hR.min) dX10_comeDown_97 ?_
  refine s_iast (pc := 100) (q := (aA ν a 0).toNatClampNeg) C (w9 hz) (hI.who2 ha).1 (by have := (hI.who2 ha).2; have := hI.n4.2; omega) (Nat.le_of_ble_eq_true rfl) dX10_comeDown_100 ?_
  refine g_il3n (pc := 101) C dX10_comeDown_101 ?_
  refine g_if_lt (pc := 102) (tgt := 118) C dX10_comeDown_102 (by decide) (fun c_102 => ?_) (fun c_102 => ?_)
  · refine g_al0n (pc := 118) C dX10_comeDown_118 ?_
    refine s_getR (pc := 119) C fX10_19 (w0 hz) rfl dX10_comeDown_119 ?_
    refine g_dup (pc := 122) C dX10_comeDown_122 rfl ?_
    refine s_getIv (pc := 123) (v := σ (z + 6) 5) C fX10_183 (w6 hz) rfl (by try simp (disch := omega) only [up_ne, up_at, upd_ne]; rw [hS 6 (by omega) (by omega)]) dX10_comeDown_123 ?_
    refine g_al0n (pc := 126) C dX10_comeDown_126 ?_
    refine s_getR (pc := 127) C fX10_47 (w0 hz) rfl dX10_comeDown_127 ?_
    refine g_il1n (pc := 130) C dX10_comeDown_130 ?_
    refine s_VI (pc := 131) (st := [(.int (σ (z + 6) 5)), (.ref (z + 6))]) C (w22 hz) rfl (c_crewE (d := d - 1) (by omega) ((up (up (up (up (up τ2 (z + 31) a 2) (z + 33) a (ν 0)) (z + 34) a (costA ν a)) (z + 10) ((aA ν a 0).toNatClampNeg) ((aP ν (aA ν a 0).toNatClampNeg 3) + (costA ν a))) (z + 9) ((aA ν a 0).toNatClampNeg) (ν 0))) hz (ν := ν) (a := a) (by omega) (by try simp (disch := omega) only [up_ne, up_at, upd_ne]; rw [hS 23 (by omega) (by omega)]; exact hR.a0 ha) (by try simp (disch := omega) only [up_ne, up_at, upd_ne]; rw [hS 24 (by omega) (by omega)]; exact hR.a1 ha)) (by omega) lX10_186 dX10_comeDown_131 rfl (Nat.le_of_ble_eq_true rfl) rfl ?_
    refine g_iconst (pc := 134) (v := (-1)) C dX10_comeDown_134 (by decide) ?_
    refine g_ixor (pc := 135) C dX10_comeDown_135 ?_
    refine g_iand (pc := 136) C dX10_comeDown_136 ?_
    refine s_putI (pc := 137) C pX10_183 (w6 hz) rfl dX10_comeDown_137 ?_
    refine g_al0n (pc := 140) C dX10_comeDown_140 ?_
    refine s_getR (pc := 141) C fX10_10 (w0 hz) rfl dX10_comeDown_141 ?_
    refine g_al0n (pc := 144) C dX10_comeDown_144 ?_
    refine s_getR (pc := 145) C fX10_10 (w0 hz) rfl dX10_comeDown_145 ?_
    refine s_getIv (pc := 148) (v := σ (z + 1) 5) C fX10_145 (w1 hz) rfl (by try simp (disch := omega) only [up_ne, up_at, upd_ne]; rw [hS 1 (by omega) (by omega)]) dX10_comeDown_148 ?_
    refine g_al0n (pc := 151) C dX10_comeDown_151 ?_
    refine s_getR (pc := 152) C fX10_47 (w0 hz) rfl dX10_comeDown_152 ?_
    refine s_getR (pc := 155) C fX10_139 (w22 hz) rfl dX10_comeDown_155 ?_
    refine g_il1n (pc := 158) C dX10_comeDown_158 ?_
    refine s_ialdv (pc := 159) (q := a) (v := aA ν a 2) C (w25 hz) rfl (by omega) (Nat.le_of_ble_eq_true rfl) (by try simp (disch := omega) only [up_ne, up_at, upd_ne]; rw [hS 25 (by omega) (by omega)]; exact (hR.a2 (by omega))) dX10_comeDown_159 ?_
    refine g_iconst (pc := 160) (v := 0) C dX10_comeDown_160 (by decide) ?_
    refine s_NI (pc := 161) (st := [(.ref (z + 1))]) C (c_withBit (d := d - 1) (by omega) ((up (up (up (up (up (up τ2 (z + 31) a 2) (z + 33) a (ν 0)) (z + 34) a (costA ν a)) (z + 10) ((aA ν a 0).toNatClampNeg) ((aP ν (aA ν a 0).toNatClampNeg 3) + (costA ν a))) (z + 9) ((aA ν a 0).toNatClampNeg) (ν 0)) (z + 6) 5 ((σ (z + 6) 5) &&& ((crewA ν a) ^^^ ((-1)))))) (σ (z + 1) 5) (aA ν a 2) 0) (by omega) lX10_277 dX10_comeDown_161 rfl (Nat.le_of_ble_eq_true rfl) rfl ?_
    refine s_putI (pc := 164) C pX10_145 (w1 hz) rfl dX10_comeDown_164 ?_
    refine r_Q C hr dX10_comeDown_167 ⟨down_RW hI hR ha hfl (by simp (disch := omega) only [up_ne, up_at]; rw [hS 31 (by omega) (by omega)]) (by simp (disch := omega) only [up_ne, up_at]; rw [hS 33 (by omega) (by omega)]) (by simp (disch := omega) only [up_ne, up_at]; rw [hS 34 (by omega) (by omega)]) (by simp (disch := omega) only [up_ne, up_at]; rw [hS 10 (by omega) (by omega)]) (by rw [if_pos c_102]; simp (disch := omega) only [up_ne, up_at]; rw [hS 9 (by omega) (by omega)]) ?_ ?_ ?_ ?_ ?_ ?_ ?_, ?_⟩
    · simp (disch := omega) only [up_ne, up_at, upd_at]
    · simp (disch := omega) only [up_ne, up_at, upd_ne]; rw [hS 6 (by omega) (by omega)]
    · simp (disch := omega) only [up_ne, up_at, upd_at]
    · simp (disch := omega) only [up_ne, up_at, upd_ne]; rw [hS 1 (by omega) (by omega)]
    · exact hL2.mv (by simp (disch := omega) only [up_ne]) (fun k h1 h2 => by simp (disch := omega) only [up_ne]) rfl (fun _ _ _ => rfl)
    · intro k h1 h2 h3 h4 h5 h6 h8 h9 h10 h11 h12 h13
      simp (disch := omega) only [up_ne]
      exact hS k (by omega) (by omega)
    · intro k h1 h2
      simp (disch := omega) only [up_ne]
      exact hSt k h1 h2
    · repeat first | exact hF2 | refine Fz.up (by omega) ?_
  · refine g_al0n (pc := 105) C dX10_comeDown_105 ?_
    refine s_getR (pc := 106) C fX10_19 (w0 hz) rfl dX10_comeDown_106 ?_
    refine s_getR (pc := 109) C fX10_168 (w6 hz) rfl dX10_comeDown_109 ?_
    refine g_il3n (pc := 112) C dX10_comeDown_112 ?_
    refine g_al0n (pc := 113) C dX10_comeDown_113 ?_
    refine s_getIv (pc := 114) (v := ν 0) C fX10_60 (w0 hz) rfl (by try simp (disch := omega) only [up_ne, up_at, upd_ne]; rw [hS0]; exact hR.min) dX10_comeDown_114 ?_
    refine s_iast (pc := 117) (q := (aA ν a 1).toNatClampNeg) C (w9 hz) (hI.wth2 ha c_102).1 (by have := (hI.wth2 ha c_102).2; have := hI.n4.2; omega) (Nat.le_of_ble_eq_true rfl) dX10_comeDown_117 ?_
    refine g_al0n (pc := 118) C dX10_comeDown_118 ?_
    refine s_getR (pc := 119) C fX10_19 (w0 hz) rfl dX10_comeDown_119 ?_
    refine g_dup (pc := 122) C dX10_comeDown_122 rfl ?_
    refine s_getIv (pc := 123) (v := σ (z + 6) 5) C fX10_183 (w6 hz) rfl (by try simp (disch := omega) only [up_ne, up_at, upd_ne]; rw [hS 6 (by omega) (by omega)]) dX10_comeDown_123 ?_
    refine g_al0n (pc := 126) C dX10_comeDown_126 ?_
    refine s_getR (pc := 127) C fX10_47 (w0 hz) rfl dX10_comeDown_127 ?_
    refine g_il1n (pc := 130) C dX10_comeDown_130 ?_
    refine s_VI (pc := 131) (st := [(.int (σ (z + 6) 5)), (.ref (z + 6))]) C (w22 hz) rfl (c_crewE (d := d - 1) (by omega) ((up (up (up (up (up (up τ2 (z + 31) a 2) (z + 33) a (ν 0)) (z + 34) a (costA ν a)) (z + 10) ((aA ν a 0).toNatClampNeg) ((aP ν (aA ν a 0).toNatClampNeg 3) + (costA ν a))) (z + 9) ((aA ν a 0).toNatClampNeg) (ν 0)) (z + 9) ((aA ν a 1).toNatClampNeg) (ν 0))) hz (ν := ν) (a := a) (by omega) (by try simp (disch := omega) only [up_ne, up_at, upd_ne]; rw [hS 23 (by omega) (by omega)]; exact hR.a0 ha) (by try simp (disch := omega) only [up_ne, up_at, upd_ne]; rw [hS 24 (by omega) (by omega)]; exact hR.a1 ha)) (by omega) lX10_186 dX10_comeDown_131 rfl (Nat.le_of_ble_eq_true rfl) rfl ?_
    refine g_iconst (pc := 134) (v := (-1)) C dX10_comeDown_134 (by decide) ?_
    refine g_ixor (pc := 135) C dX10_comeDown_135 ?_
    refine g_iand (pc := 136) C dX10_comeDown_136 ?_
    refine s_putI (pc := 137) C pX10_183 (w6 hz) rfl dX10_comeDown_137 ?_
    refine g_al0n (pc := 140) C dX10_comeDown_140 ?_
    refine s_getR (pc := 141) C fX10_10 (w0 hz) rfl dX10_comeDown_141 ?_
    refine g_al0n (pc := 144) C dX10_comeDown_144 ?_
    refine s_getR (pc := 145) C fX10_10 (w0 hz) rfl dX10_comeDown_145 ?_
    refine s_getIv (pc := 148) (v := σ (z + 1) 5) C fX10_145 (w1 hz) rfl (by try simp (disch := omega) only [up_ne, up_at, upd_ne]; rw [hS 1 (by omega) (by omega)]) dX10_comeDown_148 ?_
    refine g_al0n (pc := 151) C dX10_comeDown_151 ?_
    refine s_getR (pc := 152) C fX10_47 (w0 hz) rfl dX10_comeDown_152 ?_
    refine s_getR (pc := 155) C fX10_139 (w22 hz) rfl dX10_comeDown_155 ?_
    refine g_il1n (pc := 158) C dX10_comeDown_158 ?_
    refine s_ialdv (pc := 159) (q := a) (v := aA ν a 2) C (w25 hz) rfl (by omega) (Nat.le_of_ble_eq_true rfl) (by try simp (disch := omega) only [up_ne, up_at, upd_ne]; rw [hS 25 (by omega) (by omega)]; exact (hR.a2 (by omega))) dX10_comeDown_159 ?_
    refine g_iconst (pc := 160) (v := 0) C dX10_comeDown_160 (by decide) ?_
    refine s_NI (pc := 161) (st := [(.ref (z + 1))]) C (c_withBit (d := d - 1) (by omega) ((up (up (up (up (up (up (up τ2 (z + 31) a 2) (z + 33) a (ν 0)) (z + 34) a (costA ν a)) (z + 10) ((aA ν a 0).toNatClampNeg) ((aP ν (aA ν a 0).toNatClampNeg 3) + (costA ν a))) (z + 9) ((aA ν a 0).toNatClampNeg) (ν 0)) (z + 9) ((aA ν a 1).toNatClampNeg) (ν 0)) (z + 6) 5 ((σ (z + 6) 5) &&& ((crewA ν a) ^^^ ((-1)))))) (σ (z + 1) 5) (aA ν a 2) 0) (by omega) lX10_277 dX10_comeDown_161 rfl (Nat.le_of_ble_eq_true rfl) rfl ?_
    refine s_putI (pc := 164) C pX10_145 (w1 hz) rfl dX10_comeDown_164 ?_
    refine r_Q C hr dX10_comeDown_167 ⟨down_RW hI hR ha hfl (by simp (disch := omega) only [up_ne, up_at]; rw [hS 31 (by omega) (by omega)]) (by simp (disch := omega) only [up_ne, up_at]; rw [hS 33 (by omega) (by omega)]) (by simp (disch := omega) only [up_ne, up_at]; rw [hS 34 (by omega) (by omega)]) (by simp (disch := omega) only [up_ne, up_at]; rw [hS 10 (by omega) (by omega)]) (by rw [if_neg c_102]; simp (disch := omega) only [up_ne, up_at]; rw [hS 9 (by omega) (by omega)]) ?_ ?_ ?_ ?_ ?_ ?_ ?_, ?_⟩
    · simp (disch := omega) only [up_ne, up_at, upd_at]
    · simp (disch := omega) only [up_ne, up_at, upd_ne]; rw [hS 6 (by omega) (by omega)]
    · simp (disch := omega) only [up_ne, up_at, upd_at]
    · simp (disch := omega) only [up_ne, up_at, upd_ne]; rw [hS 1 (by omega) (by omega)]
    · exact hL2.mv (by simp (disch := omega) only [up_ne]) (fun k h1 h2 => by simp (disch := omega) only [up_ne]) rfl (fun _ _ _ => rfl)
    · intro k h1 h2 h3 h4 h5 h6 h8 h9 h10 h11 h12 h13
      simp (disch := omega) only [up_ne]
      exact hS k (by omega) (by omega)
    · intro k h1 h2
      simp (disch := omega) only [up_ne]
      exact hSt k h1 h2
    · repeat first | exact hF2 | refine Fz.up (by omega) ?_

theorem c_takeOff {d : Nat} (hd : 4 ≤ d) (σ : Sg) {z : Nat} (hz : isW z) {ν : Nu} (hI : INV ν) (hR : RW σ z ν) {a : Nat} (ha : a < cnt ν 7) (hw0 : aA ν a 6 = 0) (hcl : clearL ν (laneA ν a).toNatClampNeg = true) : CQ d mX10_takeOff [.ref z, .int (nI a)] σ (fun τ' => RW τ' z (upS ν a) ∧ Fz z σ τ') := by
  have h7 := hI.n7.2
  have h4 := hI.n4.2
  have hzz := isW_ge hz
  refine con_of (by decide) (catL rfl) (Nat.le_of_ble_eq_true rfl) ?_
  intro μ ω C hr
  have C : Cx μ ω "TowField$World" cX10_takeOff 2 d := C
  have hr : (mH μ).sig.returnType = none := hr
  show G μ ω (RQ μ ω (pQ (fun τ' => RW τ' z (upS ν a) ∧ Fz z σ τ'))) 0 [some (.ref z), some (.int (nI a))] [] (mk σ) 0 0
  refine g_al0n (pc := 0) C dX10_takeOff_0 ?_
  refine s_getR (pc := 1) C fX10_40 (w0 hz) rfl dX10_takeOff_1 ?_
  refine g_al0n (pc := 4) C dX10_takeOff_4 ?_
  refine s_getR (pc := 5) C fX10_47 (w0 hz) rfl dX10_takeOff_5 ?_
  refine s_getR (pc := 8) C fX10_195 (w22 hz) rfl dX10_takeOff_8 ?_
  refine g_il1n (pc := 11) C dX10_takeOff_11 ?_
  refine s_ialdv (pc := 12) (q := a) (v := useA ν a) C (w29 hz) rfl (by omega) (Nat.le_of_ble_eq_true rfl) (hR.a6 (by omega)) dX10_takeOff_12 ?_
  refine g_al0n (pc := 13) C dX10_takeOff_13 ?_
  refine s_getIv (pc := 14) (v := ν 0) C fX10_60 (w0 hz) rfl hR.min dX10_takeOff_14 ?_
  refine g_al0n (pc := 17) C dX10_takeOff_17 ?_
  refine s_getR (pc := 18) C fX10_47 (w0 hz) rfl dX10_takeOff_18 ?_
  refine s_getR (pc := 21) C fX10_198 (w22 hz) rfl dX10_takeOff_21 ?_
  refine g_il1n (pc := 24) C dX10_takeOff_24 ?_
  refine s_ialdv (pc := 25) (q := a) (v := spanA ν a) C (w30 hz) rfl (by omega) (Nat.le_of_ble_eq_true rfl) (hR.a7 (by omega)) dX10_takeOff_25 ?_
  refine s_VQ (pc := 26) (st := []) C (w16 hz) rfl (c_mv (d := d - 1) (by omega) σ hz hI hR.l (u := (useA ν a).toNatClampNeg) (use_ok ν a).1 (by have := (use_ok ν a).2; omega) ((lan_use ν a).trans (laneA_ok hI a).1) (laneA_ok hI a).2 (spanA_ok6 hI ha) hcl) (by omega) lX10_258 dX10_takeOff_26 rfl (Nat.le_of_ble_eq_true rfl) rfl (fun τ1 hw_26 => ?_)
  obtain ⟨hL2, hE2⟩ := hw_26
  have hS1 : ∀ k, k ≤ 36 → ¬ (k = 16 ∨ k = 19 ∨ k = 20 ∨ k = 21) → τ1 (z + k) = σ (z + k) := fun k h1 h2 => hE2 _ (by simp; omega)
  have hS10 : τ1 z = σ z := hS1 0 (by omega) (by omega)
  have hg1 : GW τ1 z ν ν := hR.gw.mv (hS1 12 (by omega) (by omega)) (hS1 13 (by omega) (by omega)) (hS1 15 (by omega) (by omega))
  refine g_al0n (pc := 29) C dX10_takeOff_29 ?_
  refine g_al0n (pc := 30) C dX10_takeOff_30 ?_
  refine s_getR (pc := 31) C fX10_47 (w0 hz) rfl dX10_takeOff_31 ?_
  refine s_getR (pc := 34) C fX10_121 (w22 hz) rfl dX10_takeOff_34 ?_
  refine g_il1n (pc := 37) C dX10_takeOff_37 ?_
  refine s_ialdv (pc := 38) (q := a) (v := aA ν a 3) C (w26 hz) rfl (by omega) (Nat.le_of_ble_eq_true rfl) (by rw [hS1 26 (by omega) (by omega)]; exact (hR.a3 (by omega))) dX10_takeOff_38 ?_
  refine g_al0n (pc := 39) C dX10_takeOff_39 ?_
  refine s_getR (pc := 40) C fX10_47 (w0 hz) rfl dX10_takeOff_40 ?_
  refine s_getR (pc := 43) C fX10_198 (w22 hz) rfl dX10_takeOff_43 ?_
  refine g_il1n (pc := 46) C dX10_takeOff_46 ?_
  refine s_ialdv (pc := 47) (q := a) (v := spanA ν a) C (w30 hz) rfl (by omega) (Nat.le_of_ble_eq_true rfl) (by rw [hS1 30 (by omega) (by omega)]; exact (hR.a7 (by omega))) dX10_takeOff_47 ?_
  refine s_VQ (pc := 48) (st := []) C (w0 hz) rfl (CU.q (post := fun τ => τ = gearS τ1 z ν (aA ν a 3) (spanA ν a)) (c_useGearE (d := d - 1) (by omega) τ1 hz (by rw [hS1 11 (by omega) (by omega)]; exact hR.n5 hI) hI.n5.2 (by rw [hS1 14 (by omega) (by omega)]; exact hR.n6 hI) hI.n6.2 hg1 (by rw [hS10]; exact hR.min) (kind5 hI ha) (spanA ν a)) rfl) (by omega) lX10_281 dX10_takeOff_48 rfl (Nat.le_of_ble_eq_true rfl) rfl (fun τ2 hG => ?_)
  have hS : ∀ k, k ≤ 36 → ¬ (k = 12 ∨ k = 13 ∨ k = 15 ∨ k = 16 ∨ k = 19 ∨ k = 20 ∨ k = 21) → τ2 (z + k) = σ (z + k) := fun k h1 h2 => by rw [hG, gearS_ne (by omega) (by omega) (by omega)]; exact hS1 k h1 (by omega)
  have hS0 : τ2 z = σ z := hS 0 (by omega) (by omega)
  have hL3 : RWl τ2 z (upd ν (20 + (laneA ν a).toNatClampNeg) (ν 0 + spanA ν a)) := hL2.mv (by rw [hG, gearS_ne (by omega) (by omega) (by omega)]) (fun k h1 h2 => by rw [hG, gearS_ne (by omega) (by omega) (by omega)]) rfl (fun _ _ _ => rfl)
  have hG2 : GW τ2 z ν (upS ν a) := by rw [hG]; exact gear_GW hI ha hg1
  have hSt : ∀ k, 3 ≤ k → k ≤ 9 → τ2 k = σ k := fun k h1 h2 => by rw [hG, gearS_ne (by omega) (by omega) (by omega)]; exact hE2 _ (by simp; omega)
  have hF2 : Fz z σ τ2 := fun k h1 h2 h3 => by rw [hG, gearS_ne (by omega) (by omega) (by omega)]; exact hE2 _ (by simp; omega)
  refine g_al0n (pc := 51) C dX10_takeOff_51 ?_
  refine s_getR (pc := 52) C fX10_47 (w0 hz) rfl dX10_takeOff_52 ?_
  refine s_getR (pc := 55) C fX10_108 (w22 hz) rfl dX10_takeOff_55 ?_
  refine g_il1n (pc := 58) C dX10_takeOff_58 ?_
  refine g_iconst (pc := 59) (v := 1) C dX10_takeOff_59 (by decide) ?_
  refine s_iast (pc := 60) (q := a) C (w31 hz) rfl (by omega) (Nat.le_of_ble_eq_true rfl) dX10_takeOff_60 ?_
  refine g_al0n (pc := 61) C dX10_takeOff_61 ?_
  refine s_getR (pc := 62) C fX10_47 (w0 hz) rfl dX10_takeOff_62 ?_
  refine s_getR (pc := 65) C fX10_284 (w22 hz) rfl dX10_takeOff_65 ?_
  refine g_il1n (pc := 68) C dX10_takeOff_68 ?_
  refine g_al0n (pc := 69) C dX10_takeOff_69 ?_
  refine s_getIv (pc := 70) (v := ν 0) C fX10_60 (w0 hz) rfl (by try simp (disch := omega) only [up_ne, up_at, upd_ne]; rw [hS0]; exact hR.min) dX10_takeOff_70 ?_
  refine s_iast (pc := 73) (q := a) C (w32 hz) rfl (by omega) (Nat.le_of_ble_eq_true rfl) dX10_takeOff_73 ?_
  refine g_al0n (pc := 74) C dX10_takeOff_74 ?_
  refine s_getR (pc := 75) C fX10_19 (w0 hz) rfl dX10_takeOff_75 ?_
  refine g_dup (pc := 78) C dX10_takeOff_78 rfl ?_
  refine s_getIv (pc := 79) (v := σ (z + 6) 5) C fX10_183 (w6 hz) rfl (by try simp (disch := omega) only [up_ne, up_at, upd_ne]; rw [hS 6 (by omega) (by omega)]) dX10_takeOff_79 ?_
  refine g_al0n (pc := 82) C dX10_takeOff_82 ?_
  refine s_getR (pc := 83) C fX10_47 (w0 hz) rfl dX10_takeOff_83 ?_
  refine g_il1n (pc := 86) C dX10_takeOff_86 ?_
  refine s_VI (pc := 87) (st := [(.int (σ (z + 6) 5)), (.ref (z + 6))]) C (w22 hz) rfl (c_crewE (d := d - 1) (by omega) ((up (up τ2 (z + 31) a 1) (z + 32) a (ν 0))) hz (ν := ν) (a := a) (by omega) (by try simp (disch := omega) only [up_ne, up_at, upd_ne]; rw [hS 23 (by omega) (by omega)]; exact hR.a0 ha) (by try simp (disch := omega) only [up_ne, up_at, upd_ne]; rw [hS 24 (by omega) (by omega)]; exact hR.a1 ha)) (by omega) lX10_186 dX10_takeOff_87 rfl (Nat.le_of_ble_eq_true rfl) rfl ?_
  refine g_ior (pc := 90) C dX10_takeOff_90 ?_
  refine s_putI (pc := 91) C pX10_183 (w6 hz) rfl dX10_takeOff_91 ?_
  refine g_al0n (pc := 94) C dX10_takeOff_94 ?_
  refine s_getR (pc := 95) C fX10_10 (w0 hz) rfl dX10_takeOff_95 ?_
  refine g_al0n (pc := 98) C dX10_takeOff_98 ?_
  refine s_getR (pc := 99) C fX10_10 (w0 hz) rfl dX10_takeOff_99 ?_
  refine s_getIv (pc := 102) (v := σ (z + 1) 5) C fX10_145 (w1 hz) rfl (by try simp (disch := omega) only [up_ne, up_at, upd_ne]; rw [hS 1 (by omega) (by omega)]) dX10_takeOff_102 ?_
  refine g_al0n (pc := 105) C dX10_takeOff_105 ?_
  refine s_getR (pc := 106) C fX10_47 (w0 hz) rfl dX10_takeOff_106 ?_
  refine s_getR (pc := 109) C fX10_139 (w22 hz) rfl dX10_takeOff_109 ?_
  refine g_il1n (pc := 112) C dX10_takeOff_112 ?_
  refine s_ialdv (pc := 113) (q := a) (v := aA ν a 2) C (w25 hz) rfl (by omega) (Nat.le_of_ble_eq_true rfl) (by try simp (disch := omega) only [up_ne, up_at, upd_ne]; rw [hS 25 (by omega) (by omega)]; exact (hR.a2 (by omega))) dX10_takeOff_113 ?_
  refine g_iconst (pc := 114) (v := 1) C dX10_takeOff_114 (by decide) ?_
  refine s_NI (pc := 115) (st := [(.ref (z + 1))]) C (c_withBit (d := d - 1) (by omega) ((up (up (up τ2 (z + 31) a 1) (z + 32) a (ν 0)) (z + 6) 5 ((σ (z + 6) 5) ||| (crewA ν a)))) (σ (z + 1) 5) (aA ν a 2) 1) (by omega) lX10_277 dX10_takeOff_115 rfl (Nat.le_of_ble_eq_true rfl) rfl ?_
  refine s_putI (pc := 118) C pX10_145 (w1 hz) rfl dX10_takeOff_118 ?_
  refine r_Q C hr dX10_takeOff_121 ⟨up_RW hI hR ha hw0 (by simp (disch := omega) only [up_ne, up_at]; rw [hS 31 (by omega) (by omega)]) (by simp (disch := omega) only [up_ne, up_at]; rw [hS 32 (by omega) (by omega)]) ?_ ?_ ?_ ?_ ?_ ?_ ?_ ?_, ?_⟩
  · simp (disch := omega) only [up_ne, up_at, upd_at]
  · simp (disch := omega) only [up_ne, up_at, upd_ne]; rw [hS 6 (by omega) (by omega)]
  · simp (disch := omega) only [up_ne, up_at, upd_at]
  · simp (disch := omega) only [up_ne, up_at, upd_ne]; rw [hS 1 (by omega) (by omega)]
  · exact hL3.mv (by simp (disch := omega) only [up_ne]) (fun k h1 h2 => by simp (disch := omega) only [up_ne]) rfl (fun _ _ _ => rfl)
  · exact hG2.mv (by simp (disch := omega) only [up_ne]) (by simp (disch := omega) only [up_ne]) (by simp (disch := omega) only [up_ne])
  · intro k h1 h2
    simp (disch := omega) only [up_ne]
    exact hS k (by omega) (by omega)
  · intro k h1 h2
    simp (disch := omega) only [up_ne]
    exact hSt k h1 h2
  · repeat first | exact hF2 | refine Fz.up (by omega) ?_

theorem Fz.ex2 {z : Nat} {σ τ : Sg} {L : List Nat} (hL : ∀ q ∈ L, z ≤ q ∧ q ≤ z + 36) (hE : Eqx L σ τ) : Fz z σ τ := fun k h1 h2 h3 => hE k (fun q => by have := hL k q; omega)
theorem c_openNext {d : Nat} (hd : 3 ≤ d) (σ : Sg) {z : Nat} (hz : isW z) {ν : Nu} (hI : INV ν) (hR : RW σ z ν) : CQ d mX10_openNext [.ref z] σ (fun τ' => RW τ' z (openS ν) ∧ Fz z σ τ') := by
  have h5 := hI.n5.2
  have h6 := hI.n6.2
  have hzz := isW_ge hz
  obtain ⟨m, hm2, hm⟩ := hI.1
  obtain ⟨n, hM⟩ := hR.l.2
  refine con_of (by decide) (catL rfl) (Nat.le_of_ble_eq_true rfl) ?_
  intro μ ω C hr
  have C : Cx μ ω "TowField$World" cX10_openNext 1 d := C
  have hr : (mH μ).sig.returnType = none := hr
  show G μ ω (RQ μ ω (pQ (fun τ' => RW τ' z (openS ν) ∧ Fz z σ τ'))) 0 [some (.ref z)] [] (mk σ) 0 0
  refine g_al0n (pc := 0) C dX10_openNext_0 ?_
  refine g_dup (pc := 1) C dX10_openNext_1 rfl ?_
  refine s_getIv (pc := 2) (v := ν 0) C fX10_60 (w0 hz) rfl hR.min dX10_openNext_2 ?_
  refine g_iconst (pc := 5) (v := 1) C dX10_openNext_5 (by decide) ?_
  refine g_iadd (pc := 6) C dX10_openNext_6 ?_
  refine s_putI (pc := 7) C pX10_60 (w0 hz) rfl dX10_openNext_7 ?_
  refine g_al0n (pc := 10) C dX10_openNext_10 ?_
  refine s_getR (pc := 11) C fX10_26 (w0 hz) rfl dX10_openNext_11 ?_
  refine g_al0n (pc := 14) C dX10_openNext_14 ?_
  refine s_getIv (pc := 15) (v := ν 0 + 1) C fX10_60 (w0 hz) rfl (by rw [up_at, upd_at]) dX10_openNext_15 ?_
  refine s_VQ (pc := 18) (st := []) C (w11 hz) rfl (c_openW (d := d - 1) (by omega) ((up σ z 9 ((ν 0) + 1))) hz (n := cnt ν 5) (by rw [up_ne _ _ _ (by omega)]; exact hR.n5 hI) hI.n5.2 (ν 0 + 1)) (by omega) lX10_287 dX10_openNext_18 rfl (Nat.le_of_ble_eq_true rfl) rfl (fun τ1 hO1 => ?_)
  refine g_al0n (pc := 21) C dX10_openNext_21 ?_
  refine s_getR (pc := 22) C fX10_33 (w0 hz) rfl dX10_openNext_22 ?_
  refine g_al0n (pc := 25) C dX10_openNext_25 ?_
  refine s_getIv (pc := 26) (v := ν 0 + 1) C fX10_60 (w0 hz) rfl (by rw [hO1.1 _ (by simp), up_at, upd_at]) dX10_openNext_26 ?_
  refine s_VQ (pc := 29) (st := []) C (w14 hz) rfl (c_openP (d := d - 1) (by omega) τ1 hz (n := cnt ν 6) (by rw [hO1.1 _ (by simp), up_ne _ _ _ (by omega)]; exact hR.n6 hI) hI.n6.2 (ν 0 + 1)) (by omega) lX10_290 dX10_openNext_29 rfl (Nat.le_of_ble_eq_true rfl) rfl (fun τ2 hO2 => ?_)
  have hS : ∀ k, k ≤ 36 → ¬ (k = 0 ∨ k = 12 ∨ k = 13 ∨ k = 15) → τ2 (z + k) = σ (z + k) := fun k h1 h2 => by rw [hO2.1 _ (by simp; omega), hO1.1 _ (by simp; omega), up_ne _ _ _ (by omega)]
  have hM2 : MV τ2 z ν n := hM.mv (by rw [hS 16 (by omega) (by omega)]) (hS 19 (by omega) (by omega)) (hS 20 (by omega) (by omega)) (hS 21 (by omega) (by omega)) rfl (fun _ _ _ => rfl)
  have hz2 : τ2 z = (up σ z 9 (ν 0 + 1)) z := by rw [hO2.1 _ (by simp), hO1.1 _ (by simp)]
  refine g_al0n (pc := 32) C dX10_openNext_32 ?_
  refine s_getR (pc := 33) C fX10_40 (w0 hz) rfl dX10_openNext_33 ?_
  refine g_al0n (pc := 36) C dX10_openNext_36 ?_
  refine s_getIv (pc := 37) (v := ν 0 + 1) C fX10_60 (w0 hz) rfl (by rw [hz2, up_at, upd_at]) dX10_openNext_37 ?_
  refine s_VQ (pc := 40) (st := []) C (w16 hz) rfl (c_openL (d := d - 1) (by omega) τ2 hz (n := n) (ν 0 + 1) hM2.1 (MV_le hM2) hM2.2.2.1) (by omega) lX10_291 dX10_openNext_40 rfl (Nat.le_of_ble_eq_true rfl) rfl (fun τ3 hO3 => ?_)
  obtain ⟨q, t, hO, rfl⟩ := hO3
  have hT : ∀ k, k ≠ z + 16 → k ≠ z + 19 → k ≠ z + 20 → k ≠ z + 21 → up t (z + 16) 5 (nI q) k = τ2 k := fun k h1 h2 h3 h4 => by rw [up_ne _ _ _ h1]; exact hO.2.1 _ (by simp; omega)
  have hzX : up t (z + 16) 5 (nI q) z = (up σ z 9 (ν 0 + 1)) z := by rw [hT z (by omega) (by omega) (by omega) (by omega), hz2]
  refine r_Q C hr dX10_openNext_43 ⟨open_RW hI hR (fun k h1 h2 => ?_) (fun k h1 h2 => ?_) ?_ ?_ ?_ ?_ (fun p hp => ?_) (fun p hp => ?_) (MO_end hm hm2 hM2 hO (openS_0 hI) (fun j h1 h2 => openS_keep hI (by omega))), fun k h1 h2 h3 => ?_⟩
  · rw [hT _ (by omega) (by omega) (by omega) (by omega)]; exact hS k h1 (by omega)
  · rw [hT _ (by omega) (by omega) (by omega) (by omega), hO2.1 _ (by simp; omega), hO1.1 _ (by simp; omega), up_ne _ _ _ (by omega)]
  · rw [hzX, up_at, upd_at]
  · rw [hzX, up_at, upd_ne _ _ (by omega)]
  · rw [hzX, up_at, upd_ne _ _ (by omega)]
  · rw [hzX, up_at, upd_ne _ _ (by omega)]
  · rw [hT _ (by omega) (by omega) (by omega) (by omega), hT _ (by omega) (by omega) (by omega) (by omega), hO2.1 _ (by simp), hO2.1 _ (by simp)]
    have := hO1.2.1 p hp
    rw [up_ne _ _ _ (show z + 12 ≠ z by omega), up_ne _ _ _ (show z + 13 ≠ z by omega)] at this
    exact this
  · rw [hT _ (by omega) (by omega) (by omega) (by omega)]
    have := hO2.2.1 p hp
    rw [hO1.1 _ (by simp), up_ne _ _ _ (show z + 15 ≠ z by omega)] at this
    exact this
  · rw [hT _ (by omega) (by omega) (by omega) (by omega), hO2.1 _ (by simp; omega), hO1.1 _ (by simp; omega), up_ne _ _ _ (by omega)]

