/-! ===== the class: what a world tells ===== -/
def wyW (ν : Nu) (a : Nat) : Int32 := if inRow ν (aA ν a 2) = false then 1 else if ¬ aA ν a 1 < 0 ∧ aG ν (aA ν a 2).toNatClampNeg 0 = 1 then 2 else if aG ν (aA ν a 2).toNatClampNeg 1 < weigh ν a then 3 else 0
def wyB (ν : Nu) (a : Nat) : Int32 := if papers ν (aA ν a 0) (aA ν a 3) = false ∧ ¬ (papers ν (aA ν a 1) 6 = true ∧ papers ν (aA ν a 1) (aA ν a 3) = true) then 4 else if 0 < ν 27 ∧ (aP ν (aA ν a 0).toNatClampNeg 2 < 0 ∨ ν 27 < ν 0 - aP ν (aA ν a 0).toNatClampNeg 2) ∧ papers ν (aA ν a 1) 6 = false then 5 else 0
theorem whyA_eq (ν : Nu) (a : Nat) : whyA ν a = if wyW ν a = 0 then (if wyB ν a = 0 then why6 ν a else wyB ν a) else wyW ν a := by
  have hB : why4 ν a = if wyB ν a = 0 then why6 ν a else wyB ν a := by
    unfold wyB why4
    split
    · rw [if_neg (by decide)]
    · unfold why5
      split
      · rw [if_neg (by decide)]
      · rw [if_pos rfl]
  rw [← hB]
  unfold wyW whyA
  split
  · rw [if_neg (by decide)]
  · unfold why2
    split
    · rw [if_neg (by decide)]
    · unfold why3
      split
      · rw [if_neg (by decide)]
      · rw [if_pos rfl]
theorem spanN : ∀ k, k < 6 → ∀ h, h < 31 → 1 ≤ (spanK (nI k) (nI h)).toNatClampNeg ∧ (spanK (nI k) (nI h)).toNatClampNeg ≤ 20 ∧ spanK (nI k) (nI h) = nI (spanK (nI k) (nI h)).toNatClampNeg := by decide +kernel
theorem und2 : ∀ k, k < 6 → 1 ≤ k → undK (nI k) 2 = !undK (nI k) 1 := by decide +kernel
section WQ
variable {σ : Sg} {z : Nat} {ν : Nu} {a : Nat}
theorem spanA_ok (hI : INV ν) (ha : a < cnt ν 7) : ∃ k, 1 ≤ k ∧ k ≤ 20 ∧ spanA ν a = nI k := by
  obtain ⟨-, -, -, ⟨k, k1, k2, ek⟩, ⟨h, h1, h2, eh⟩, -⟩ := hI.2.2.2.2.2.1 a ha
  have := spanN k (by omega) h (by omega)
  refine ⟨_, this.1, this.2.1, ?_⟩
  unfold spanA
  rw [ek, eh]
  exact this.2.2
theorem spanA_ok6 (hI : INV ν) (ha : a < cnt ν 7) : ∃ k, 1 ≤ k ∧ k ≤ 60 ∧ spanA ν a = nI k := by
  obtain ⟨k, h1, h2, e⟩ := spanA_ok hI ha
  exact ⟨k, h1, by omega, e⟩
theorem RW.row (hR : RW σ z ν) (hI : INV ν) (ha : a < cnt ν 7) : hb (σ (z + 1) 5) (aA ν a 2) = !inRow ν (aA ν a 2) := by
  have h3 := hI.n3.2
  obtain ⟨e, l⟩ := hI.gld2 ha
  rw [e]
  exact hR.b.1 _ (by omega)
theorem use_ok (ν : Nu) (a : Nat) : useA ν a = nI (useA ν a).toNatClampNeg ∧ (useA ν a).toNatClampNeg < 2 := by
  unfold useA
  split
  · exact ⟨by decide, by decide⟩
  · exact ⟨by decide, by decide⟩
theorem RW.lan (hR : RW σ z ν) (a : Nat) : σ (z + 18) (useA ν a).toNatClampNeg = laneA ν a := by
  have := use_ok ν a
  rw [hR.lfo (by omega)]
  unfold laneA useA
  split <;> rfl
theorem laneA_isN (hI : INV ν) (a : Nat) : isN (laneA ν a) 6 := by
  have := laneA_ok hI a
  exact ⟨_, this.2, this.1⟩
theorem help_1 (ν : Nu) : helpK ν 1 = (fstL (outP ν) (2 * cnt ν 5)).isSome := by
  rw [out_fst (k := 1) (by decide)]
  unfold helpK
  rw [if_pos (by decide), decide_eq_false (by decide)]
  cases winchF ν 1 <;> rfl
theorem help_3 (ν : Nu) : helpK ν 3 = (fstL (winP ν 3) (cnt ν 5)).isSome := by
  unfold helpK
  rw [if_pos (by decide), decide_eq_false (by decide)]
  rfl
theorem help_4 (ν : Nu) : helpK ν 4 = true := by
  unfold helpK
  rw [decide_eq_true rfl]; rfl
theorem help_2 (ν : Nu) : helpK ν 2 = (fstL (plaP ν) (cnt ν 6)).isSome := by
  unfold helpK
  rw [if_neg (by decide), decide_eq_false (by decide)]
  rfl
theorem help_5 (ν : Nu) : helpK ν 5 = (fstL (plaP ν) (cnt ν 6)).isSome := by
  unfold helpK
  rw [if_neg (by decide), decide_eq_false (by decide)]
  rfl
theorem kind5 (hI : INV ν) (ha : a < cnt ν 7) : aA ν a 3 = 1 ∨ aA ν a 3 = 2 ∨ aA ν a 3 = 3 ∨ aA ν a 3 = 4 ∨ aA ν a 3 = 5 := by
  obtain ⟨-, -, -, ⟨k, k1, k2, ek⟩, -, -⟩ := hI.2.2.2.2.2.1 a ha
  rw [ek]
  rcases (show k = 1 ∨ k = 2 ∨ k = 3 ∨ k = 4 ∨ k = 5 by omega) with rfl | rfl | rfl | rfl | rfl
  · exact Or.inl rfl
  · exact Or.inr (Or.inl rfl)
  · exact Or.inr (Or.inr (Or.inl rfl))
  · exact Or.inr (Or.inr (Or.inr (Or.inl rfl)))
  · exact Or.inr (Or.inr (Or.inr (Or.inr rfl)))
end WQ
theorem c_clr {d : Nat} (hd : 2 ≤ d) (σ : Sg) {z : Nat} (hz : isW z) {ν : Nu} (hI : INV ν) (hR : RW σ z ν) {x y : Int32} (hx : isN x 6) (hy : ∃ k, 1 ≤ k ∧ k ≤ 60 ∧ y = nI k) : CB d mX3_isClear [.ref (z + 16), .int x, .int (ν 0), .int y] σ (clearL ν x.toNatClampNeg = true) σ := by
  obtain ⟨m, hm2, hm⟩ := hI.1
  obtain ⟨n, hM⟩ := hR.l.2
  obtain ⟨l, hl, rfl⟩ := hx
  obtain ⟨k, hk, hk2, rfl⟩ := hy
  rw [nI_clamp (by omega)]
  exact c_isClear hd σ hz hm hm2 hR.l.1 hM hl hk hk2
section RZ
variable {μ : Mx} {ω : Om} {own : String} {cc : ByteArray} {nL d pc : Nat} {lv : List (Option Value)} {σ : Sg} {v : Int32}
theorem r_Pz (C : Cx μ ω own cc nL d) (hr : (mH μ).sig.returnType = some .boolean) (hv : v = 0 ∨ v = 1) (hd : decode cc pc = .ok (.ireturn, 1)) {post : Int32 → Sg → Prop} (hp : post v σ) : G μ ω (RQ μ ω (pP post)) pc lv [.int v] (mk σ) 0 0 :=
  g_zret C hr (by rcases hv with rfl | rfl <;> rfl) hd ⟨v, σ, rfl, rfl, hp⟩
end RZ
theorem c_lands {d : Nat} (hd : 3 ≤ d) (σ : Sg) {z : Nat} (hz : isW z) {ν : Nu} (hI : INV ν) (hR : RW σ z ν) : CI d mX10_lands [.ref z] σ (o2i (landsS ν)) σ := by
  refine con_of (by decide) (catL rfl) (Nat.le_of_ble_eq_true rfl) ?_
  intro μ ω C hr
  have C : Cx μ ω "TowField$World" cX10_lands 2 d := C
  have hr : (mH μ).sig.returnType = some .int := hr
  show G μ ω (RQ μ ω (pI (o2i (landsS ν)) σ)) 0 [some (.ref z), none] [] (mk σ) 0 0
  refine g_al0n (pc := 0) C dX10_lands_0 ?_
  refine s_getR (pc := 1) C fX10_47 (w0 hz) rfl dX10_lands_1 ?_
  refine g_al0n (pc := 4) C dX10_lands_4 ?_
  refine s_getIv (pc := 5) (v := ν 0) C fX10_60 (w0 hz) rfl hR.min dX10_lands_5 ?_
  refine g_al0n (pc := 8) C dX10_lands_8 ?_
  refine s_getR (pc := 9) C fX10_51 (w0 hz) rfl dX10_lands_9 ?_
  refine g_iconst (pc := 12) (v := 3) C dX10_lands_12 (by decide) ?_
  refine s_ialdv (pc := 13) (q := 3) (v := ν 29) C (w35 hz) rfl (by omega) (Nat.le_of_ble_eq_true rfl) (hR.rul (i := 3) (by decide)) dX10_lands_13 ?_
  refine s_VI (pc := 14) (st := []) C (w22 hz) rfl (c_firstDue (d := d - 1) (by omega) σ hz hI hR) (by omega) lX10_224 dX10_lands_14 rfl (Nat.le_of_ble_eq_true rfl) rfl ?_
  refine g_is1n (pc := 17) C dX10_lands_17 ?_
  refine g_al0n (pc := 18) C dX10_lands_18 ?_
  refine s_getR (pc := 19) C fX10_40 (w0 hz) rfl dX10_lands_19 ?_
  refine g_al0n (pc := 22) C dX10_lands_22 ?_
  refine s_getR (pc := 23) C fX10_40 (w0 hz) rfl dX10_lands_23 ?_
  refine s_getR (pc := 26) C fX10_192 (w16 hz) rfl dX10_lands_26 ?_
  refine g_iconst (pc := 29) (v := 2) C dX10_lands_29 (by decide) ?_
  refine s_ialdv (pc := 30) (q := 2) (v := ν 18) C (w18 hz) rfl (by omega) (Nat.le_of_ble_eq_true rfl) (hR.lfo (u := 2) (by decide)) dX10_lands_30 ?_
  refine g_al0n (pc := 31) C dX10_lands_31 ?_
  refine s_getIv (pc := 32) (v := ν 0) C fX10_60 (w0 hz) rfl hR.min dX10_lands_32 ?_
  refine g_iconst (pc := 35) (v := 2) C dX10_lands_35 (by decide) ?_
  refine s_VB (pc := 36) (st := []) C (w16 hz) rfl (c_clr (d := d - 1) (by omega) σ hz hI hR (hI.2.2.1.1 2 (by decide)) ⟨2, by decide, by decide, rfl⟩) (by omega) lX10_201 dX10_lands_36 rfl (Nat.le_of_ble_eq_true rfl) rfl (fun b_36 => ?_) (fun b_36 => ?_)
  · refine g_if_eq (pc := 39) (tgt := 46) C dX10_lands_39 (by decide) (fun c => absurd c (by decide)) (fun _ => ?_)
    refine g_il1n (pc := 42) C dX10_lands_42 ?_
    refine g_goto (pc := 43) (tgt := 47) C dX10_lands_43 (by decide) ?_
    exact r_I C hr dX10_lands_47 (by unfold landsS; cases bestD ν (cnt ν 7) <;> simp [b_36, o2i]) rfl
  · refine g_if_eq (pc := 39) (tgt := 46) C dX10_lands_39 (by decide) (fun _ => ?_) (fun c => absurd c (by decide))
    refine g_iconst (pc := 46) (v := (-1)) C dX10_lands_46 (by decide) ?_
    exact r_I C hr dX10_lands_47 (by unfold landsS; cases bestD ν (cnt ν 7) <;> simp [b_36, o2i]) rfl

theorem c_isFetched {d : Nat} (hd : 3 ≤ d) (σ : Sg) {z : Nat} (hz : isW z) {ν : Nu} (hI : INV ν) (hR : RW σ z ν) : CI d mX10_isFetched [.ref z] σ (o2i (fetchS ν)) σ := by
  have hf : ∃ k, 1 ≤ k ∧ k ≤ 60 ∧ ν 26 = nI k := by
    obtain ⟨f, f1, f2, f3⟩ := hI.2.2.2.1
    exact ⟨f, f1, by omega, f3⟩
  refine con_of (by decide) (catL rfl) (Nat.le_of_ble_eq_true rfl) ?_
  intro μ ω C hr
  have C : Cx μ ω "TowField$World" cX10_isFetched 2 d := C
  have hr : (mH μ).sig.returnType = some .int := hr
  show G μ ω (RQ μ ω (pI (o2i (fetchS ν)) σ)) 0 [some (.ref z), none] [] (mk σ) 0 0
  refine g_al0n (pc := 0) C dX10_isFetched_0 ?_
  refine s_getR (pc := 1) C fX10_26 (w0 hz) rfl dX10_isFetched_1 ?_
  refine s_VI (pc := 4) (st := []) C (w11 hz) rfl (c_firstToFetch (d := d - 1) (by omega) σ hz (hR.n5 hI) hI.n5.2 (fun p hp => hR.w0 hp)) (by omega) lX10_230 dX10_isFetched_4 rfl (Nat.le_of_ble_eq_true rfl) rfl ?_
  refine g_is1n (pc := 7) C dX10_isFetched_7 ?_
  refine g_al0n (pc := 8) C dX10_isFetched_8 ?_
  refine s_getR (pc := 9) C fX10_40 (w0 hz) rfl dX10_isFetched_9 ?_
  refine g_al0n (pc := 12) C dX10_isFetched_12 ?_
  refine s_getR (pc := 13) C fX10_40 (w0 hz) rfl dX10_isFetched_13 ?_
  refine s_getR (pc := 16) C fX10_192 (w16 hz) rfl dX10_isFetched_16 ?_
  refine g_iconst (pc := 19) (v := 3) C dX10_isFetched_19 (by decide) ?_
  refine s_ialdv (pc := 20) (q := 3) (v := ν 19) C (w18 hz) rfl (by omega) (Nat.le_of_ble_eq_true rfl) (hR.lfo (u := 3) (by decide)) dX10_isFetched_20 ?_
  refine g_al0n (pc := 21) C dX10_isFetched_21 ?_
  refine s_getIv (pc := 22) (v := ν 0) C fX10_60 (w0 hz) rfl hR.min dX10_isFetched_22 ?_
  refine g_al0n (pc := 25) C dX10_isFetched_25 ?_
  refine s_getR (pc := 26) C fX10_51 (w0 hz) rfl dX10_isFetched_26 ?_
  refine g_iconst (pc := 29) (v := 0) C dX10_isFetched_29 (by decide) ?_
  refine s_ialdv (pc := 30) (q := 0) (v := ν 26) C (w35 hz) rfl (by omega) (Nat.le_of_ble_eq_true rfl) (hR.rul (i := 0) (by decide)) dX10_isFetched_30 ?_
  refine s_VB (pc := 31) (st := []) C (w16 hz) rfl (c_clr (d := d - 1) (by omega) σ hz hI hR (hI.2.2.1.1 3 (by decide)) hf) (by omega) lX10_201 dX10_isFetched_31 rfl (Nat.le_of_ble_eq_true rfl) rfl (fun b_31 => ?_) (fun b_31 => ?_)
  · refine g_if_eq (pc := 34) (tgt := 41) C dX10_isFetched_34 (by decide) (fun c => absurd c (by decide)) (fun _ => ?_)
    refine g_il1n (pc := 37) C dX10_isFetched_37 ?_
    refine g_goto (pc := 38) (tgt := 42) C dX10_isFetched_38 (by decide) ?_
    exact r_I C hr dX10_isFetched_42 (by rw [drm_fst]; unfold fetchS; cases drumW ν <;> simp [b_31, o2i]) rfl
  · refine g_if_eq (pc := 34) (tgt := 41) C dX10_isFetched_34 (by decide) (fun _ => ?_) (fun c => absurd c (by decide))
    refine g_iconst (pc := 41) (v := (-1)) C dX10_isFetched_41 (by decide) ?_
    exact r_I C hr dX10_isFetched_42 (by unfold fetchS; cases drumW ν <;> simp [b_31, o2i]) rfl

theorem c_gear1 {d : Nat} (hd : 2 ≤ d) (σ : Sg) {z : Nat} (hz : isW z) {ν : Nu} (hI : INV ν) (hR : RW σ z ν) : CB d mX10_hasGear [.ref z, .int 1] σ (helpK ν 1 = true) σ := by
  refine con_of (by decide) (catL rfl) (Nat.le_of_ble_eq_true rfl) ?_
  intro μ ω C hr
  have C : Cx μ ω "TowField$World" cX10_hasGear 2 d := C
  have hr : (mH μ).sig.returnType = some .boolean := hr
  show G μ ω (RQ μ ω (pB (helpK ν 1 = true) σ)) 0 [some (.ref z), some (.int 1)] [] (mk σ) 0 0
  refine g_il1n (pc := 0) C dX10_hasGear_0 ?_
  refine g_tabIn (pc := 1) (tgt := 32) (off := 31) C dX10_hasGear_1 (by decide) (by decide) (by decide) (by decide) ?_
  refine g_al0n (pc := 32) C dX10_hasGear_32 ?_
  refine s_getR (pc := 33) C fX10_26 (w0 hz) rfl dX10_hasGear_33 ?_
  refine s_VI (pc := 36) (st := []) C (w11 hz) rfl (c_firstOut (d := d - 1) (by omega) σ hz (hR.n5 hI) hI.n5.2 (fun p hp => hR.w0 hp)) (by omega) lX10_205 dX10_hasGear_36 rfl (Nat.le_of_ble_eq_true rfl) rfl ?_
  cases ho : fstL (outP ν) (2 * cnt ν 5) with
  | none =>
    show G μ ω _ 39 _ (.int (-1) :: _) _ 0 0
    refine g_if_lt (pc := 39) (tgt := 46) C dX10_hasGear_39 (by decide) (fun _ => ?_) (fun c => absurd c (by decide))
    refine g_iconst (pc := 46) (v := 0) C dX10_hasGear_46 (by decide) ?_
    exact r_B0 C hr dX10_hasGear_47 (by rw [help_1, ho]; decide) rfl
  | some p =>
    have hp := fstL_lt ho
    show G μ ω _ 39 _ (.int (nI p) :: _) _ 0 0
    refine g_if_lt (pc := 39) (tgt := 46) C dX10_hasGear_39 (by decide) (fun c_39 => absurd c_39 (nI_pos (by have := hI.n5.2; have := hI.n6.2; omega))) (fun c_39 => ?_)
    refine g_iconst (pc := 42) (v := 1) C dX10_hasGear_42 (by decide) ?_
    refine g_goto (pc := 43) (tgt := 47) C dX10_hasGear_43 (by decide) ?_
    exact r_B1 C hr dX10_hasGear_47 (by rw [help_1, ho]; rfl) rfl

theorem c_gear2 {d : Nat} (hd : 2 ≤ d) (σ : Sg) {z : Nat} (hz : isW z) {ν : Nu} (hI : INV ν) (hR : RW σ z ν) : CB d mX10_hasGear [.ref z, .int 2] σ (helpK ν 2 = true) σ := by
  refine con_of (by decide) (catL rfl) (Nat.le_of_ble_eq_true rfl) ?_
  intro μ ω C hr
  have C : Cx μ ω "TowField$World" cX10_hasGear 2 d := C
  have hr : (mH μ).sig.returnType = some .boolean := hr
  show G μ ω (RQ μ ω (pB (helpK ν 2 = true) σ)) 0 [some (.ref z), some (.int 2)] [] (mk σ) 0 0
  refine g_il1n (pc := 0) C dX10_hasGear_0 ?_
  refine g_tabIn (pc := 1) (tgt := 66) (off := 65) C dX10_hasGear_1 (by decide) (by decide) (by decide) (by decide) ?_
  refine g_al0n (pc := 66) C dX10_hasGear_66 ?_
  refine s_getR (pc := 67) C fX10_33 (w0 hz) rfl dX10_hasGear_67 ?_
  refine s_VI (pc := 70) (st := []) C (w14 hz) rfl (c_there (d := d - 1) (by omega) σ hz (hR.n6 hI) hI.n6.2 (fun p hp => hR.n0 hp)) (by omega) lX10_212 dX10_hasGear_70 rfl (Nat.le_of_ble_eq_true rfl) rfl ?_
  cases ho : fstL (plaP ν) (cnt ν 6) with
  | none =>
    show G μ ω _ 73 _ (.int (-1) :: _) _ 0 0
    refine g_if_lt (pc := 73) (tgt := 80) C dX10_hasGear_73 (by decide) (fun _ => ?_) (fun c => absurd c (by decide))
    refine g_iconst (pc := 80) (v := 0) C dX10_hasGear_80 (by decide) ?_
    exact r_B0 C hr dX10_hasGear_81 (by rw [help_2, ho]; decide) rfl
  | some p =>
    have hp := fstL_lt ho
    show G μ ω _ 73 _ (.int (nI p) :: _) _ 0 0
    refine g_if_lt (pc := 73) (tgt := 80) C dX10_hasGear_73 (by decide) (fun c_73 => absurd c_73 (nI_pos (by have := hI.n5.2; have := hI.n6.2; omega))) (fun c_73 => ?_)
    refine g_iconst (pc := 76) (v := 1) C dX10_hasGear_76 (by decide) ?_
    refine g_goto (pc := 77) (tgt := 81) C dX10_hasGear_77 (by decide) ?_
    exact r_B1 C hr dX10_hasGear_81 (by rw [help_2, ho]; rfl) rfl

theorem c_gear3 {d : Nat} (hd : 2 ≤ d) (σ : Sg) {z : Nat} (hz : isW z) {ν : Nu} (hI : INV ν) (hR : RW σ z ν) : CB d mX10_hasGear [.ref z, .int 3] σ (helpK ν 3 = true) σ := by
  refine con_of (by decide) (catL rfl) (Nat.le_of_ble_eq_true rfl) ?_
  intro μ ω C hr
  have C : Cx μ ω "TowField$World" cX10_hasGear 2 d := C
  have hr : (mH μ).sig.returnType = some .boolean := hr
  show G μ ω (RQ μ ω (pB (helpK ν 3 = true) σ)) 0 [some (.ref z), some (.int 3)] [] (mk σ) 0 0
  refine g_il1n (pc := 0) C dX10_hasGear_0 ?_
  refine g_tabIn (pc := 1) (tgt := 48) (off := 47) C dX10_hasGear_1 (by decide) (by decide) (by decide) (by decide) ?_
  refine g_al0n (pc := 48) C dX10_hasGear_48 ?_
  refine s_getR (pc := 49) C fX10_26 (w0 hz) rfl dX10_hasGear_49 ?_
  refine s_VI (pc := 52) (st := []) C (w11 hz) rfl (c_bothOut (d := d - 1) (by omega) σ hz (hR.n5 hI) hI.n5.2 (fun p hp => hR.w0 hp)) (by omega) lX10_209 dX10_hasGear_52 rfl (Nat.le_of_ble_eq_true rfl) rfl ?_
  cases ho : fstL (winP ν 3) (cnt ν 5) with
  | none =>
    show G μ ω _ 55 _ (.int (-1) :: _) _ 0 0
    refine g_if_lt (pc := 55) (tgt := 62) C dX10_hasGear_55 (by decide) (fun _ => ?_) (fun c => absurd c (by decide))
    refine g_iconst (pc := 62) (v := 0) C dX10_hasGear_62 (by decide) ?_
    exact r_B0 C hr dX10_hasGear_63 (by rw [help_3, ho]; decide) rfl
  | some p =>
    have hp := fstL_lt ho
    show G μ ω _ 55 _ (.int (nI p) :: _) _ 0 0
    refine g_if_lt (pc := 55) (tgt := 62) C dX10_hasGear_55 (by decide) (fun c_55 => absurd c_55 (nI_pos (by have := hI.n5.2; have := hI.n6.2; omega))) (fun c_55 => ?_)
    refine g_iconst (pc := 58) (v := 1) C dX10_hasGear_58 (by decide) ?_
    refine g_goto (pc := 59) (tgt := 63) C dX10_hasGear_59 (by decide) ?_
    exact r_B1 C hr dX10_hasGear_63 (by rw [help_3, ho]; rfl) rfl

theorem c_gear4 {d : Nat} (hd : 2 ≤ d) (σ : Sg) {z : Nat} (hz : isW z) {ν : Nu} (hI : INV ν) (hR : RW σ z ν) : CB d mX10_hasGear [.ref z, .int 4] σ (helpK ν 4 = true) σ := by
  refine con_of (by decide) (catL rfl) (Nat.le_of_ble_eq_true rfl) ?_
  intro μ ω C hr
  have C : Cx μ ω "TowField$World" cX10_hasGear 2 d := C
  have hr : (mH μ).sig.returnType = some .boolean := hr
  show G μ ω (RQ μ ω (pB (helpK ν 4 = true) σ)) 0 [some (.ref z), some (.int 4)] [] (mk σ) 0 0
  refine g_il1n (pc := 0) C dX10_hasGear_0 ?_
  refine g_tabIn (pc := 1) (tgt := 64) (off := 63) C dX10_hasGear_1 (by decide) (by decide) (by decide) (by decide) ?_
  refine g_iconst (pc := 64) (v := 1) C dX10_hasGear_64 (by decide) ?_
  exact r_B1 C hr dX10_hasGear_65 (help_4 ν) rfl

theorem c_gear5 {d : Nat} (hd : 2 ≤ d) (σ : Sg) {z : Nat} (hz : isW z) {ν : Nu} (hI : INV ν) (hR : RW σ z ν) : CB d mX10_hasGear [.ref z, .int 5] σ (helpK ν 5 = true) σ := by
  refine con_of (by decide) (catL rfl) (Nat.le_of_ble_eq_true rfl) ?_
  intro μ ω C hr
  have C : Cx μ ω "TowField$World" cX10_hasGear 2 d := C
  have hr : (mH μ).sig.returnType = some .boolean := hr
  show G μ ω (RQ μ ω (pB (helpK ν 5 = true) σ)) 0 [some (.ref z), some (.int 5)] [] (mk σ) 0 0
  refine g_il1n (pc := 0) C dX10_hasGear_0 ?_
  refine g_tabOut (pc := 1) (tgt := 66) C dX10_hasGear_1 (by decide) (by decide) ?_
  refine g_al0n (pc := 66) C dX10_hasGear_66 ?_
  refine s_getR (pc := 67) C fX10_33 (w0 hz) rfl dX10_hasGear_67 ?_
  refine s_VI (pc := 70) (st := []) C (w14 hz) rfl (c_there (d := d - 1) (by omega) σ hz (hR.n6 hI) hI.n6.2 (fun p hp => hR.n0 hp)) (by omega) lX10_212 dX10_hasGear_70 rfl (Nat.le_of_ble_eq_true rfl) rfl ?_
  cases ho : fstL (plaP ν) (cnt ν 6) with
  | none =>
    show G μ ω _ 73 _ (.int (-1) :: _) _ 0 0
    refine g_if_lt (pc := 73) (tgt := 80) C dX10_hasGear_73 (by decide) (fun _ => ?_) (fun c => absurd c (by decide))
    refine g_iconst (pc := 80) (v := 0) C dX10_hasGear_80 (by decide) ?_
    exact r_B0 C hr dX10_hasGear_81 (by rw [help_5, ho]; decide) rfl
  | some p =>
    have hp := fstL_lt ho
    show G μ ω _ 73 _ (.int (nI p) :: _) _ 0 0
    refine g_if_lt (pc := 73) (tgt := 80) C dX10_hasGear_73 (by decide) (fun c_73 => absurd c_73 (nI_pos (by have := hI.n5.2; have := hI.n6.2; omega))) (fun c_73 => ?_)
    refine g_iconst (pc := 76) (v := 1) C dX10_hasGear_76 (by decide) ?_
    refine g_goto (pc := 77) (tgt := 81) C dX10_hasGear_77 (by decide) ?_
    exact r_B1 C hr dX10_hasGear_81 (by rw [help_5, ho]; rfl) rfl

theorem c_hasGear {d : Nat} (hd : 2 ≤ d) (σ : Sg) {z : Nat} (hz : isW z) {ν : Nu} (hI : INV ν) (hR : RW σ z ν) {x : Int32} (hx : x = 1 ∨ x = 2 ∨ x = 3 ∨ x = 4 ∨ x = 5) : CB d mX10_hasGear [.ref z, .int x] σ (helpK ν x = true) σ := by
  rcases hx with rfl | rfl | rfl | rfl | rfl
  · exact c_gear1 hd σ hz hI hR
  · exact c_gear2 hd σ hz hI hR
  · exact c_gear3 hd σ hz hI hR
  · exact c_gear4 hd σ hz hI hR
  · exact c_gear5 hd σ hz hI hR
/-- what a launch of a kind uses -/
def gearS (σ : Sg) (z : Nat) (ν : Nu) (x y : Int32) : Sg := if x = 1 then useO σ z (fstL (outP ν) (2 * cnt ν 5)) else if x = 3 then useB σ z (fstL (winP ν 3) (cnt ν 5)) else if x = 4 then σ else useP σ z (ν 0 + 2 * y) (fstL (plaP ν) (cnt ν 6))
theorem c_ugear1 {d : Nat} (hd : 3 ≤ d) (σ : Sg) {z : Nat} (hz : isW z) {ν : Nu} (hI : INV ν) (hR : RW σ z ν) (y : Int32) : CU d mX10_useGear [.ref z, .int 1, .int y] σ (gearS σ z ν 1 y) := by
  refine con_of (by decide) (catL rfl) (Nat.le_of_ble_eq_true rfl) ?_
  intro μ ω C hr
  have C : Cx μ ω "TowField$World" cX10_useGear 3 d := C
  have hr : (mH μ).sig.returnType = none := hr
  show G μ ω (RQ μ ω (pU (gearS σ z ν 1 y))) 0 [some (.ref z), some (.int 1), some (.int y)] [] (mk σ) 0 0
  refine g_il1n (pc := 0) C dX10_useGear_0 ?_
  refine g_tabIn (pc := 1) (tgt := 32) (off := 31) C dX10_useGear_1 (by decide) (by decide) (by decide) (by decide) ?_
  refine g_al0n (pc := 32) C dX10_useGear_32 ?_
  refine s_getR (pc := 33) C fX10_26 (w0 hz) rfl dX10_useGear_33 ?_
  refine s_VU (pc := 36) (st := []) C (w11 hz) rfl (c_useOneW (d := d - 1) (by omega) σ hz (hR.n5 hI) hI.n5.2 (fun p hp => hR.w0 hp)) (by omega) lX10_215 dX10_useGear_36 rfl (Nat.le_of_ble_eq_true rfl) rfl ?_
  refine g_goto (pc := 39) (tgt := 70) C dX10_useGear_39 (by decide) ?_
  exact r_U C hr dX10_useGear_70 rfl

theorem c_ugear2 {d : Nat} (hd : 3 ≤ d) (σ : Sg) {z : Nat} (hz : isW z) {ν : Nu} (hI : INV ν) (hR : RW σ z ν) (y : Int32) : CU d mX10_useGear [.ref z, .int 2, .int y] σ (gearS σ z ν 2 y) := by
  refine con_of (by decide) (catL rfl) (Nat.le_of_ble_eq_true rfl) ?_
  intro μ ω C hr
  have C : Cx μ ω "TowField$World" cX10_useGear 3 d := C
  have hr : (mH μ).sig.returnType = none := hr
  show G μ ω (RQ μ ω (pU (gearS σ z ν 2 y))) 0 [some (.ref z), some (.int 2), some (.int y)] [] (mk σ) 0 0
  refine g_il1n (pc := 0) C dX10_useGear_0 ?_
  refine g_tabIn (pc := 1) (tgt := 55) (off := 54) C dX10_useGear_1 (by decide) (by decide) (by decide) (by decide) ?_
  refine g_al0n (pc := 55) C dX10_useGear_55 ?_
  refine s_getR (pc := 56) C fX10_33 (w0 hz) rfl dX10_useGear_56 ?_
  refine g_al0n (pc := 59) C dX10_useGear_59 ?_
  refine s_getIv (pc := 60) (v := ν 0) C fX10_60 (w0 hz) rfl hR.min dX10_useGear_60 ?_
  refine g_iconst (pc := 63) (v := 2) C dX10_useGear_63 (by decide) ?_
  refine g_il2n (pc := 64) C dX10_useGear_64 ?_
  refine g_imul (pc := 65) C dX10_useGear_65 ?_
  refine g_iadd (pc := 66) C dX10_useGear_66 ?_
  refine s_VU (pc := 67) (st := []) C (w14 hz) rfl (c_useOneP (d := d - 1) (by omega) σ hz (hR.n6 hI) hI.n6.2 (fun p hp => hR.n0 hp) ((ν 0) + (2 * y))) (by omega) lX10_221 dX10_useGear_67 rfl (Nat.le_of_ble_eq_true rfl) rfl ?_
  exact r_U C hr dX10_useGear_70 rfl

theorem c_ugear3 {d : Nat} (hd : 3 ≤ d) (σ : Sg) {z : Nat} (hz : isW z) {ν : Nu} (hI : INV ν) (hR : RW σ z ν) (y : Int32) : CU d mX10_useGear [.ref z, .int 3, .int y] σ (gearS σ z ν 3 y) := by
  refine con_of (by decide) (catL rfl) (Nat.le_of_ble_eq_true rfl) ?_
  intro μ ω C hr
  have C : Cx μ ω "TowField$World" cX10_useGear 3 d := C
  have hr : (mH μ).sig.returnType = none := hr
  show G μ ω (RQ μ ω (pU (gearS σ z ν 3 y))) 0 [some (.ref z), some (.int 3), some (.int y)] [] (mk σ) 0 0
  refine g_il1n (pc := 0) C dX10_useGear_0 ?_
  refine g_tabIn (pc := 1) (tgt := 42) (off := 41) C dX10_useGear_1 (by decide) (by decide) (by decide) (by decide) ?_
  refine g_al0n (pc := 42) C dX10_useGear_42 ?_
  refine s_getR (pc := 43) C fX10_26 (w0 hz) rfl dX10_useGear_43 ?_
  refine s_VU (pc := 46) (st := []) C (w11 hz) rfl (c_useBothW (d := d - 1) (by omega) σ hz (hR.n5 hI) hI.n5.2 (fun p hp => hR.w0 hp)) (by omega) lX10_218 dX10_useGear_46 rfl (Nat.le_of_ble_eq_true rfl) rfl ?_
  refine g_goto (pc := 49) (tgt := 70) C dX10_useGear_49 (by decide) ?_
  exact r_U C hr dX10_useGear_70 rfl

theorem c_ugear4 {d : Nat} (hd : 3 ≤ d) (σ : Sg) {z : Nat} (hz : isW z) {ν : Nu} (hI : INV ν) (hR : RW σ z ν) (y : Int32) : CU d mX10_useGear [.ref z, .int 4, .int y] σ (gearS σ z ν 4 y) := by
  refine con_of (by decide) (catL rfl) (Nat.le_of_ble_eq_true rfl) ?_
  intro μ ω C hr
  have C : Cx μ ω "TowField$World" cX10_useGear 3 d := C
  have hr : (mH μ).sig.returnType = none := hr
  show G μ ω (RQ μ ω (pU (gearS σ z ν 4 y))) 0 [some (.ref z), some (.int 4), some (.int y)] [] (mk σ) 0 0
  refine g_il1n (pc := 0) C dX10_useGear_0 ?_
  refine g_tabIn (pc := 1) (tgt := 52) (off := 51) C dX10_useGear_1 (by decide) (by decide) (by decide) (by decide) ?_
  refine g_goto (pc := 52) (tgt := 70) C dX10_useGear_52 (by decide) ?_
  exact r_U C hr dX10_useGear_70 rfl

theorem c_ugear5 {d : Nat} (hd : 3 ≤ d) (σ : Sg) {z : Nat} (hz : isW z) {ν : Nu} (hI : INV ν) (hR : RW σ z ν) (y : Int32) : CU d mX10_useGear [.ref z, .int 5, .int y] σ (gearS σ z ν 5 y) := by
  refine con_of (by decide) (catL rfl) (Nat.le_of_ble_eq_true rfl) ?_
  intro μ ω C hr
  have C : Cx μ ω "TowField$World" cX10_useGear 3 d := C
  have hr : (mH μ).sig.returnType = none := hr
  show G μ ω (RQ μ ω (pU (gearS σ z ν 5 y))) 0 [some (.ref z), some (.int 5), some (.int y)] [] (mk σ) 0 0
  refine g_il1n (pc := 0) C dX10_useGear_0 ?_
  refine g_tabOut (pc := 1) (tgt := 55) C dX10_useGear_1 (by decide) (by decide) ?_
  refine g_al0n (pc := 55) C dX10_useGear_55 ?_
  refine s_getR (pc := 56) C fX10_33 (w0 hz) rfl dX10_useGear_56 ?_
  refine g_al0n (pc := 59) C dX10_useGear_59 ?_
  refine s_getIv (pc := 60) (v := ν 0) C fX10_60 (w0 hz) rfl hR.min dX10_useGear_60 ?_
  refine g_iconst (pc := 63) (v := 2) C dX10_useGear_63 (by decide) ?_
  refine g_il2n (pc := 64) C dX10_useGear_64 ?_
  refine g_imul (pc := 65) C dX10_useGear_65 ?_
  refine g_iadd (pc := 66) C dX10_useGear_66 ?_
  refine s_VU (pc := 67) (st := []) C (w14 hz) rfl (c_useOneP (d := d - 1) (by omega) σ hz (hR.n6 hI) hI.n6.2 (fun p hp => hR.n0 hp) ((ν 0) + (2 * y))) (by omega) lX10_221 dX10_useGear_67 rfl (Nat.le_of_ble_eq_true rfl) rfl ?_
  exact r_U C hr dX10_useGear_70 rfl

theorem c_useGear {d : Nat} (hd : 3 ≤ d) (σ : Sg) {z : Nat} (hz : isW z) {ν : Nu} (hI : INV ν) (hR : RW σ z ν) {x : Int32} (hx : x = 1 ∨ x = 2 ∨ x = 3 ∨ x = 4 ∨ x = 5) (y : Int32) : CU d mX10_useGear [.ref z, .int x, .int y] σ (gearS σ z ν x y) := by
  rcases hx with rfl | rfl | rfl | rfl | rfl
  · exact c_ugear1 hd σ hz hI hR y
  · exact c_ugear2 hd σ hz hI hR y
  · exact c_ugear3 hd σ hz hI hR y
  · exact c_ugear4 hd σ hz hI hR y
  · exact c_ugear5 hd σ hz hI hR y
theorem c_whyW {d : Nat} (hd : 2 ≤ d) (σ : Sg) {z : Nat} (hz : isW z) {ν : Nu} (hI : INV ν) (hR : RW σ z ν) {a : Nat} (ha : a < cnt ν 7) : CI d mX10_whyNotWith [.ref z, .int (nI a)] σ (wyW ν a) σ := by
  have h7 := hI.n7.2
  refine con_of (by decide) (catL rfl) (Nat.le_of_ble_eq_true rfl) ?_
  intro μ ω C hr
  have C : Cx μ ω "TowField$World" cX10_whyNotWith 5 d := C
  have hr : (mH μ).sig.returnType = some .int := hr
  show G μ ω (RQ μ ω (pI (wyW ν a) σ)) 0 [some (.ref z), some (.int (nI a)), none, none, none] [] (mk σ) 0 0
  refine g_al0n (pc := 0) C dX10_whyNotWith_0 ?_
  refine s_getR (pc := 1) C fX10_47 (w0 hz) rfl dX10_whyNotWith_1 ?_
  refine s_getR (pc := 4) C fX10_139 (w22 hz) rfl dX10_whyNotWith_4 ?_
  refine g_il1n (pc := 7) C dX10_whyNotWith_7 ?_
  refine s_ialdv (pc := 8) (q := a) (v := aA ν a 2) C (w25 hz) rfl (by omega) (Nat.le_of_ble_eq_true rfl) (hR.a2 (by omega)) dX10_whyNotWith_8 ?_
  refine g_is2n (pc := 9) C dX10_whyNotWith_9 ?_
  refine g_al0n (pc := 10) C dX10_whyNotWith_10 ?_
  refine s_getR (pc := 11) C fX10_47 (w0 hz) rfl dX10_whyNotWith_11 ?_
  refine s_getR (pc := 14) C fX10_142 (w22 hz) rfl dX10_whyNotWith_14 ?_
  refine g_il1n (pc := 17) C dX10_whyNotWith_17 ?_
  refine s_ialdv (pc := 18) (q := a) (v := aA ν a 1) C (w24 hz) rfl (by omega) (Nat.le_of_ble_eq_true rfl) (hR.a1 (by omega)) dX10_whyNotWith_18 ?_
  refine g_is3n (pc := 19) C dX10_whyNotWith_19 ?_
  refine g_al0n (pc := 20) C dX10_whyNotWith_20 ?_
  refine s_getR (pc := 21) C fX10_10 (w0 hz) rfl dX10_whyNotWith_21 ?_
  refine s_getI (pc := 24) C fX10_145 (w1 hz) rfl dX10_whyNotWith_24 ?_
  refine g_il2n (pc := 27) C dX10_whyNotWith_27 ?_
  refine s_NB (pc := 28) (st := []) C (by have := c_hasBit (d := d - 1) (by omega) σ (σ (z + 1) 5) (aA ν a 2); rw [hR.row hI ha, Bool.not_eq_true', Bool.eq_false_iff, ne_eq] at this; exact this) (by omega) lX10_148 dX10_whyNotWith_28 rfl (Nat.le_of_ble_eq_true rfl) rfl (fun b_28 => ?_) (fun b_28 => ?_)
  · refine g_if_eq (pc := 31) (tgt := 36) C dX10_whyNotWith_31 (by decide) (fun c => absurd c (by decide)) (fun _ => ?_)
    refine g_iconst (pc := 34) (v := 1) C dX10_whyNotWith_34 (by decide) ?_
    exact r_I C hr dX10_whyNotWith_35 (by simp only [wyW, weigh, Bool.not_eq_true', b_28, eq_self, ne_eq, not_true_eq_false, not_false_eq_true, Classical.not_not, decide_true, decide_false, and_true, true_and, and_false, false_and, and_self, or_true, true_or, or_false, false_or, or_self, if_true, if_false, ite_true, ite_false, Bool.eq_false_iff, Bool.not_eq_eq_eq_not, Bool.true_eq_false, Bool.false_eq_true, reduceCtorEq]) rfl
  · refine g_if_eq (pc := 31) (tgt := 36) C dX10_whyNotWith_31 (by decide) (fun _ => ?_) (fun c => absurd c (by decide))
    refine g_il3n (pc := 36) C dX10_whyNotWith_36 ?_
    refine g_if_lt (pc := 37) (tgt := 55) C dX10_whyNotWith_37 (by decide) (fun c_37 => ?_) (fun c_37 => ?_)
    · refine g_al0n (pc := 55) C dX10_whyNotWith_55 ?_
      refine s_getR (pc := 56) C fX10_19 (w0 hz) rfl dX10_whyNotWith_56 ?_
      refine s_getR (pc := 59) C fX10_156 (w6 hz) rfl dX10_whyNotWith_59 ?_
      refine g_al0n (pc := 62) C dX10_whyNotWith_62 ?_
      refine s_getR (pc := 63) C fX10_47 (w0 hz) rfl dX10_whyNotWith_63 ?_
      refine s_getR (pc := 66) C fX10_159 (w22 hz) rfl dX10_whyNotWith_66 ?_
      refine g_il1n (pc := 69) C dX10_whyNotWith_69 ?_
      refine s_ialdv (pc := 70) (q := a) (v := aA ν a 0) C (w23 hz) rfl (by omega) (Nat.le_of_ble_eq_true rfl) (hR.a0 (by omega)) dX10_whyNotWith_70 ?_
      refine s_ialdv (pc := 71) (q := (aA ν a 0).toNatClampNeg) (v := aP ν (aA ν a 0).toNatClampNeg 0) C (w7 hz) (hI.who2 ha).1 (by have := (hI.who2 ha).2; have := hI.n4.2; omega) (Nat.le_of_ble_eq_true rfl) (hR.p0 (hI.who2 ha).2) dX10_whyNotWith_71 ?_
      refine g_il3n (pc := 72) C dX10_whyNotWith_72 ?_
      refine g_if_lt (pc := 73) (tgt := 88) C dX10_whyNotWith_73 (by decide) (fun c_73 => ?_) (fun c_73 => absurd c_37 c_73)
      refine g_iconst (pc := 88) (v := 0) C dX10_whyNotWith_88 (by decide) ?_
      refine g_iadd (pc := 89) C dX10_whyNotWith_89 ?_
      refine g_is4 (pc := 90) C dX10_whyNotWith_90 ?_
      refine g_il4 (pc := 92) C dX10_whyNotWith_92 ?_
      refine g_al0n (pc := 94) C dX10_whyNotWith_94 ?_
      refine s_getR (pc := 95) C fX10_10 (w0 hz) rfl dX10_whyNotWith_95 ?_
      refine s_getR (pc := 98) C fX10_162 (w1 hz) rfl dX10_whyNotWith_98 ?_
      refine g_il2n (pc := 101) C dX10_whyNotWith_101 ?_
      refine s_ialdv (pc := 102) (q := (aA ν a 2).toNatClampNeg) (v := aG ν (aA ν a 2).toNatClampNeg 1) C (w3 hz) (hI.gld2 ha).1 (by have := (hI.gld2 ha).2; have := hI.n3.2; omega) (Nat.le_of_ble_eq_true rfl) (hR.g1 (hI.gld2 ha).2) dX10_whyNotWith_102 ?_
      refine g_icmp_leL (pc := 103) (tgt := 110) C dX10_whyNotWith_103 (by decide) (fun c_103 => ?_) (fun c_103 => ?_)
      · refine g_iconst (pc := 110) (v := 0) C dX10_whyNotWith_110 (by decide) ?_
        exact r_I C hr dX10_whyNotWith_111 (by simp only [wyW, weigh, Bool.not_eq_true', b_28, c_37, c_103, eq_self, ne_eq, not_true_eq_false, not_false_eq_true, Classical.not_not, decide_true, decide_false, and_true, true_and, and_false, false_and, and_self, or_true, true_or, or_false, false_or, or_self, if_true, if_false, ite_true, ite_false, Bool.eq_false_iff, Bool.not_eq_eq_eq_not, Bool.true_eq_false, Bool.false_eq_true, reduceCtorEq]) rfl
      · refine g_iconst (pc := 106) (v := 3) C dX10_whyNotWith_106 (by decide) ?_
        refine g_goto (pc := 107) (tgt := 111) C dX10_whyNotWith_107 (by decide) ?_
        exact r_I C hr dX10_whyNotWith_111 (by simp only [wyW, weigh, Bool.not_eq_true', b_28, c_37, c_103, eq_self, ne_eq, not_true_eq_false, not_false_eq_true, Classical.not_not, decide_true, decide_false, and_true, true_and, and_false, false_and, and_self, or_true, true_or, or_false, false_or, or_self, if_true, if_false, ite_true, ite_false, Bool.eq_false_iff, Bool.not_eq_eq_eq_not, Bool.true_eq_false, Bool.false_eq_true, reduceCtorEq]) rfl
    · refine g_al0n (pc := 40) C dX10_whyNotWith_40 ?_
      refine s_getR (pc := 41) C fX10_10 (w0 hz) rfl dX10_whyNotWith_41 ?_
      refine s_getR (pc := 44) C fX10_153 (w1 hz) rfl dX10_whyNotWith_44 ?_
      refine g_il2n (pc := 47) C dX10_whyNotWith_47 ?_
      refine s_ialdv (pc := 48) (q := (aA ν a 2).toNatClampNeg) (v := aG ν (aA ν a 2).toNatClampNeg 0) C (w2 hz) (hI.gld2 ha).1 (by have := (hI.gld2 ha).2; have := hI.n3.2; omega) (Nat.le_of_ble_eq_true rfl) (hR.g0 (hI.gld2 ha).2) dX10_whyNotWith_48 ?_
      refine g_iconst (pc := 49) (v := 1) C dX10_whyNotWith_49 (by decide) ?_
      refine g_icmp_ne (pc := 50) (tgt := 55) C dX10_whyNotWith_50 (by decide) (fun c_50 => ?_) (fun c_50 => ?_)
      · refine g_al0n (pc := 55) C dX10_whyNotWith_55 ?_
        refine s_getR (pc := 56) C fX10_19 (w0 hz) rfl dX10_whyNotWith_56 ?_
        refine s_getR (pc := 59) C fX10_156 (w6 hz) rfl dX10_whyNotWith_59 ?_
        refine g_al0n (pc := 62) C dX10_whyNotWith_62 ?_
        refine s_getR (pc := 63) C fX10_47 (w0 hz) rfl dX10_whyNotWith_63 ?_
        refine s_getR (pc := 66) C fX10_159 (w22 hz) rfl dX10_whyNotWith_66 ?_
        refine g_il1n (pc := 69) C dX10_whyNotWith_69 ?_
        refine s_ialdv (pc := 70) (q := a) (v := aA ν a 0) C (w23 hz) rfl (by omega) (Nat.le_of_ble_eq_true rfl) (hR.a0 (by omega)) dX10_whyNotWith_70 ?_
        refine s_ialdv (pc := 71) (q := (aA ν a 0).toNatClampNeg) (v := aP ν (aA ν a 0).toNatClampNeg 0) C (w7 hz) (hI.who2 ha).1 (by have := (hI.who2 ha).2; have := hI.n4.2; omega) (Nat.le_of_ble_eq_true rfl) (hR.p0 (hI.who2 ha).2) dX10_whyNotWith_71 ?_
        refine g_il3n (pc := 72) C dX10_whyNotWith_72 ?_
        refine g_if_lt (pc := 73) (tgt := 88) C dX10_whyNotWith_73 (by decide) (fun c_73 => absurd c_73 c_37) (fun c_73 => ?_)
        refine g_al0n (pc := 76) C dX10_whyNotWith_76 ?_
        refine s_getR (pc := 77) C fX10_19 (w0 hz) rfl dX10_whyNotWith_77 ?_
        refine s_getR (pc := 80) C fX10_156 (w6 hz) rfl dX10_whyNotWith_80 ?_
        refine g_il3n (pc := 83) C dX10_whyNotWith_83 ?_
        refine s_ialdv (pc := 84) (q := (aA ν a 1).toNatClampNeg) (v := aP ν (aA ν a 1).toNatClampNeg 0) C (w7 hz) (hI.wth2 ha c_73).1 (by have := (hI.wth2 ha c_73).2; have := hI.n4.2; omega) (Nat.le_of_ble_eq_true rfl) (hR.p0 (hI.wth2 ha c_73).2) dX10_whyNotWith_84 ?_
        refine g_goto (pc := 85) (tgt := 89) C dX10_whyNotWith_85 (by decide) ?_
        refine g_iadd (pc := 89) C dX10_whyNotWith_89 ?_
        refine g_is4 (pc := 90) C dX10_whyNotWith_90 ?_
        refine g_il4 (pc := 92) C dX10_whyNotWith_92 ?_
        refine g_al0n (pc := 94) C dX10_whyNotWith_94 ?_
        refine s_getR (pc := 95) C fX10_10 (w0 hz) rfl dX10_whyNotWith_95 ?_
        refine s_getR (pc := 98) C fX10_162 (w1 hz) rfl dX10_whyNotWith_98 ?_
        refine g_il2n (pc := 101) C dX10_whyNotWith_101 ?_
        refine s_ialdv (pc := 102) (q := (aA ν a 2).toNatClampNeg) (v := aG ν (aA ν a 2).toNatClampNeg 1) C (w3 hz) (hI.gld2 ha).1 (by have := (hI.gld2 ha).2; have := hI.n3.2; omega) (Nat.le_of_ble_eq_true rfl) (hR.g1 (hI.gld2 ha).2) dX10_whyNotWith_102 ?_
        refine g_icmp_leL (pc := 103) (tgt := 110) C dX10_whyNotWith_103 (by decide) (fun c_103 => ?_) (fun c_103 => ?_)
        · refine g_iconst (pc := 110) (v := 0) C dX10_whyNotWith_110 (by decide) ?_
          exact r_I C hr dX10_whyNotWith_111 (by simp only [wyW, weigh, Bool.not_eq_true', b_28, c_37, c_50, c_103, eq_self, ne_eq, not_true_eq_false, not_false_eq_true, Classical.not_not, decide_true, decide_false, and_true, true_and, and_false, false_and, and_self, or_true, true_or, or_false, false_or, or_self, if_true, if_false, ite_true, ite_false, Bool.eq_false_iff, Bool.not_eq_eq_eq_not, Bool.true_eq_false, Bool.false_eq_true, reduceCtorEq]) rfl
        · refine g_iconst (pc := 106) (v := 3) C dX10_whyNotWith_106 (by decide) ?_
          refine g_goto (pc := 107) (tgt := 111) C dX10_whyNotWith_107 (by decide) ?_
          exact r_I C hr dX10_whyNotWith_111 (by simp only [wyW, weigh, Bool.not_eq_true', b_28, c_37, c_50, c_103, eq_self, ne_eq, not_true_eq_false, not_false_eq_true, Classical.not_not, decide_true, decide_false, and_true, true_and, and_false, false_and, and_self, or_true, true_or, or_false, false_or, or_self, if_true, if_false, ite_true, ite_false, Bool.eq_false_iff, Bool.not_eq_eq_eq_not, Bool.true_eq_false, Bool.false_eq_true, reduceCtorEq]) rfl
      · refine g_iconst (pc := 53) (v := 2) C dX10_whyNotWith_53 (by decide) ?_
        exact r_I C hr dX10_whyNotWith_54 (by simp only [wyW, weigh, Bool.not_eq_true', b_28, c_37, c_50, eq_self, ne_eq, not_true_eq_false, not_false_eq_true, Classical.not_not, decide_true, decide_false, and_true, true_and, and_false, false_and, and_self, or_true, true_or, or_false, false_or, or_self, if_true, if_false, ite_true, ite_false, Bool.eq_false_iff, Bool.not_eq_eq_eq_not, Bool.true_eq_false, Bool.false_eq_true, reduceCtorEq]) rfl

theorem c_isRecent {d : Nat} (hd : 1 ≤ d) (σ : Sg) {z : Nat} (hz : isW z) {ν : Nu} (hI : INV ν) (hR : RW σ z ν) (hX : 0 ≤ ν 27) (x : Int32) : CB d mX10_isRecent [.ref z, .int x] σ (¬ (0 < ν 27 ∧ (x < 0 ∨ ν 27 < ν 0 - x))) σ := by
  refine con_of (by decide) (catL rfl) (Nat.le_of_ble_eq_true rfl) ?_
  intro μ ω C hr
  have C : Cx μ ω "TowField$World" cX10_isRecent 3 d := C
  have hr : (mH μ).sig.returnType = some .boolean := hr
  show G μ ω (RQ μ ω (pB (¬ (0 < ν 27 ∧ (x < 0 ∨ ν 27 < ν 0 - x))) σ)) 0 [some (.ref z), some (.int x), none] [] (mk σ) 0 0
  refine g_al0n (pc := 0) C dX10_isRecent_0 ?_
  refine s_getR (pc := 1) C fX10_51 (w0 hz) rfl dX10_isRecent_1 ?_
  refine g_iconst (pc := 4) (v := 1) C dX10_isRecent_4 (by decide) ?_
  refine s_ialdv (pc := 5) (q := 1) (v := ν 27) C (w35 hz) rfl (by omega) (Nat.le_of_ble_eq_true rfl) (hR.rul (i := 1) (by decide)) dX10_isRecent_5 ?_
  refine g_is2n (pc := 6) C dX10_isRecent_6 ?_
  refine g_il2n (pc := 7) C dX10_isRecent_7 ?_
  refine g_if_eq (pc := 8) (tgt := 25) C dX10_isRecent_8 (by decide) (fun c_8 => ?_) (fun c_8 => ?_)
  · refine g_iconst (pc := 25) (v := 1) C dX10_isRecent_25 (by decide) ?_
    refine g_goto (pc := 26) (tgt := 30) C dX10_isRecent_26 (by decide) ?_
    exact r_B1 C hr dX10_isRecent_30 (fun q => by rw [c_8] at q; exact absurd q.1 (by decide)) rfl
  · refine g_il1n (pc := 11) C dX10_isRecent_11 ?_
    refine g_if_lt (pc := 12) (tgt := 29) C dX10_isRecent_12 (by decide) (fun c_12 => ?_) (fun c_12 => ?_)
    · refine g_iconst (pc := 29) (v := 0) C dX10_isRecent_29 (by decide) ?_
      exact r_B0 C hr dX10_isRecent_30 (fun q => q ⟨Int32.lt_of_le_of_ne hX (Ne.symm c_8), Or.inl c_12⟩) rfl
    · refine g_al0n (pc := 15) C dX10_isRecent_15 ?_
      refine s_getIv (pc := 16) (v := ν 0) C fX10_60 (w0 hz) rfl hR.min dX10_isRecent_16 ?_
      refine g_il1n (pc := 19) C dX10_isRecent_19 ?_
      refine g_isub (pc := 20) C dX10_isRecent_20 ?_
      refine g_il2n (pc := 21) C dX10_isRecent_21 ?_
      refine g_icmp_gt (pc := 22) (tgt := 29) C dX10_isRecent_22 (by decide) (fun c_22 => ?_) (fun c_22 => ?_)
      · refine g_iconst (pc := 29) (v := 0) C dX10_isRecent_29 (by decide) ?_
        exact r_B0 C hr dX10_isRecent_30 (fun q => q ⟨Int32.lt_of_le_of_ne hX (Ne.symm c_8), Or.inr c_22⟩) rfl
      · refine g_iconst (pc := 25) (v := 1) C dX10_isRecent_25 (by decide) ?_
        refine g_goto (pc := 26) (tgt := 30) C dX10_isRecent_26 (by decide) ?_
        exact r_B1 C hr dX10_isRecent_30 (fun q => q.2.elim c_12 c_22) rfl

theorem c_whyB {d : Nat} (hd : 3 ≤ d) (σ : Sg) {z : Nat} (hz : isW z) {ν : Nu} (hI : INV ν) (hR : RW σ z ν) {a : Nat} (ha : a < cnt ν 7) (hX : 0 ≤ ν 27) : CI d mX10_whyNotBy [.ref z, .int (nI a)] σ (wyB ν a) σ := by
  have h7 := hI.n7.2
  refine con_of (by decide) (catL rfl) (Nat.le_of_ble_eq_true rfl) ?_
  intro μ ω C hr
  have C : Cx μ ω "TowField$World" cX10_whyNotBy 6 d := C
  have hr : (mH μ).sig.returnType = some .int := hr
  show G μ ω (RQ μ ω (pI (wyB ν a) σ)) 0 [some (.ref z), some (.int (nI a)), none, none, none, none] [] (mk σ) 0 0
  refine g_al0n (pc := 0) C dX10_whyNotBy_0 ?_
  refine s_getR (pc := 1) C fX10_47 (w0 hz) rfl dX10_whyNotBy_1 ?_
  refine s_getR (pc := 4) C fX10_159 (w22 hz) rfl dX10_whyNotBy_4 ?_
  refine g_il1n (pc := 7) C dX10_whyNotBy_7 ?_
  refine s_ialdv (pc := 8) (q := a) (v := aA ν a 0) C (w23 hz) rfl (by omega) (Nat.le_of_ble_eq_true rfl) (hR.a0 (by omega)) dX10_whyNotBy_8 ?_
  refine g_is2n (pc := 9) C dX10_whyNotBy_9 ?_
  refine g_al0n (pc := 10) C dX10_whyNotBy_10 ?_
  refine s_getR (pc := 11) C fX10_47 (w0 hz) rfl dX10_whyNotBy_11 ?_
  refine s_getR (pc := 14) C fX10_142 (w22 hz) rfl dX10_whyNotBy_14 ?_
  refine g_il1n (pc := 17) C dX10_whyNotBy_17 ?_
  refine s_ialdv (pc := 18) (q := a) (v := aA ν a 1) C (w24 hz) rfl (by omega) (Nat.le_of_ble_eq_true rfl) (hR.a1 (by omega)) dX10_whyNotBy_18 ?_
  refine g_is3n (pc := 19) C dX10_whyNotBy_19 ?_
  refine g_al0n (pc := 20) C dX10_whyNotBy_20 ?_
  refine s_getR (pc := 21) C fX10_47 (w0 hz) rfl dX10_whyNotBy_21 ?_
  refine s_getR (pc := 24) C fX10_121 (w22 hz) rfl dX10_whyNotBy_24 ?_
  refine g_il1n (pc := 27) C dX10_whyNotBy_27 ?_
  refine s_ialdv (pc := 28) (q := a) (v := aA ν a 3) C (w26 hz) rfl (by omega) (Nat.le_of_ble_eq_true rfl) (hR.a3 (by omega)) dX10_whyNotBy_28 ?_
  refine g_is4 (pc := 29) C dX10_whyNotBy_29 ?_
  refine g_al0n (pc := 31) C dX10_whyNotBy_31 ?_
  refine s_getR (pc := 32) C fX10_19 (w0 hz) rfl dX10_whyNotBy_32 ?_
  refine g_il3n (pc := 35) C dX10_whyNotBy_35 ?_
  refine g_bipush (pc := 36) (v := 6) C dX10_whyNotBy_36 (by decide) ?_
  refine s_VB (pc := 38) (st := []) C (w6 hz) rfl (c_hasPaper (d := d - 1) (by omega) σ hz hI hR (aA ν a 1) 6 (hI.2.2.2.2.2.1 a ha).2.1) (by omega) lX10_165 dX10_whyNotBy_38 rfl (Nat.le_of_ble_eq_true rfl) rfl (fun b_38 => ?_) (fun b_38 => ?_)
  · refine g_is5 (pc := 41) C dX10_whyNotBy_41 ?_
    refine g_al0n (pc := 43) C dX10_whyNotBy_43 ?_
    refine s_getR (pc := 44) C fX10_19 (w0 hz) rfl dX10_whyNotBy_44 ?_
    refine g_il2n (pc := 47) C dX10_whyNotBy_47 ?_
    refine g_il4 (pc := 48) C dX10_whyNotBy_48 ?_
    refine s_VB (pc := 50) (st := []) C (w6 hz) rfl (c_hasPaper (d := d - 1) (by omega) σ hz hI hR (aA ν a 0) (aA ν a 3) (Or.inr (hI.2.2.2.2.2.1 a ha).1)) (by omega) lX10_165 dX10_whyNotBy_50 rfl (Nat.le_of_ble_eq_true rfl) rfl (fun b_50 => ?_) (fun b_50 => ?_)
    · refine g_if_ne (pc := 53) (tgt := 76) C dX10_whyNotBy_53 (by decide) (fun _ => ?_) (fun c => absurd c (by decide))
      refine g_il5 (pc := 76) C dX10_whyNotBy_76 ?_
      refine g_if_ne (pc := 78) (tgt := 101) C dX10_whyNotBy_78 (by decide) (fun _ => ?_) (fun c => absurd c (by decide))
      refine g_iconst (pc := 101) (v := 0) C dX10_whyNotBy_101 (by decide) ?_
      exact r_I C hr dX10_whyNotBy_102 (by simp only [wyB, b_38, b_50, eq_self, ne_eq, not_true_eq_false, not_false_eq_true, Classical.not_not, decide_true, decide_false, and_true, true_and, and_false, false_and, and_self, or_true, true_or, or_false, false_or, or_self, if_true, if_false, ite_true, ite_false, Bool.eq_false_iff, Bool.not_eq_eq_eq_not, Bool.true_eq_false, Bool.false_eq_true, reduceCtorEq]) rfl
    · refine g_if_ne (pc := 53) (tgt := 76) C dX10_whyNotBy_53 (by decide) (fun c => absurd c (by decide)) (fun _ => ?_)
      refine g_il5 (pc := 56) C dX10_whyNotBy_56 ?_
      refine g_if_eq (pc := 58) (tgt := 74) C dX10_whyNotBy_58 (by decide) (fun c => absurd c (by decide)) (fun _ => ?_)
      refine g_al0n (pc := 61) C dX10_whyNotBy_61 ?_
      refine s_getR (pc := 62) C fX10_19 (w0 hz) rfl dX10_whyNotBy_62 ?_
      refine g_il3n (pc := 65) C dX10_whyNotBy_65 ?_
      refine g_il4 (pc := 66) C dX10_whyNotBy_66 ?_
      refine s_VB (pc := 68) (st := []) C (w6 hz) rfl (c_hasPaper (d := d - 1) (by omega) σ hz hI hR (aA ν a 1) (aA ν a 3) (hI.2.2.2.2.2.1 a ha).2.1) (by omega) lX10_165 dX10_whyNotBy_68 rfl (Nat.le_of_ble_eq_true rfl) rfl (fun b_68 => ?_) (fun b_68 => ?_)
      · refine g_if_ne (pc := 71) (tgt := 76) C dX10_whyNotBy_71 (by decide) (fun _ => ?_) (fun c => absurd c (by decide))
        refine g_il5 (pc := 76) C dX10_whyNotBy_76 ?_
        refine g_if_ne (pc := 78) (tgt := 101) C dX10_whyNotBy_78 (by decide) (fun _ => ?_) (fun c => absurd c (by decide))
        refine g_iconst (pc := 101) (v := 0) C dX10_whyNotBy_101 (by decide) ?_
        exact r_I C hr dX10_whyNotBy_102 (by simp only [wyB, b_38, b_50, b_68, eq_self, ne_eq, not_true_eq_false, not_false_eq_true, Classical.not_not, decide_true, decide_false, and_true, true_and, and_false, false_and, and_self, or_true, true_or, or_false, false_or, or_self, if_true, if_false, ite_true, ite_false, Bool.eq_false_iff, Bool.not_eq_eq_eq_not, Bool.true_eq_false, Bool.false_eq_true, reduceCtorEq]) rfl
      · refine g_if_ne (pc := 71) (tgt := 76) C dX10_whyNotBy_71 (by decide) (fun c => absurd c (by decide)) (fun _ => ?_)
        refine g_iconst (pc := 74) (v := 4) C dX10_whyNotBy_74 (by decide) ?_
        exact r_I C hr dX10_whyNotBy_75 (by simp only [wyB, b_38, b_50, b_68, eq_self, ne_eq, not_true_eq_false, not_false_eq_true, Classical.not_not, decide_true, decide_false, and_true, true_and, and_false, false_and, and_self, or_true, true_or, or_false, false_or, or_self, if_true, if_false, ite_true, ite_false, Bool.eq_false_iff, Bool.not_eq_eq_eq_not, Bool.true_eq_false, Bool.false_eq_true, reduceCtorEq]) rfl
  · refine g_is5 (pc := 41) C dX10_whyNotBy_41 ?_
    refine g_al0n (pc := 43) C dX10_whyNotBy_43 ?_
    refine s_getR (pc := 44) C fX10_19 (w0 hz) rfl dX10_whyNotBy_44 ?_
    refine g_il2n (pc := 47) C dX10_whyNotBy_47 ?_
    refine g_il4 (pc := 48) C dX10_whyNotBy_48 ?_
    refine s_VB (pc := 50) (st := []) C (w6 hz) rfl (c_hasPaper (d := d - 1) (by omega) σ hz hI hR (aA ν a 0) (aA ν a 3) (Or.inr (hI.2.2.2.2.2.1 a ha).1)) (by omega) lX10_165 dX10_whyNotBy_50 rfl (Nat.le_of_ble_eq_true rfl) rfl (fun b_50 => ?_) (fun b_50 => ?_)
    · refine g_if_ne (pc := 53) (tgt := 76) C dX10_whyNotBy_53 (by decide) (fun _ => ?_) (fun c => absurd c (by decide))
      refine g_il5 (pc := 76) C dX10_whyNotBy_76 ?_
      refine g_if_ne (pc := 78) (tgt := 101) C dX10_whyNotBy_78 (by decide) (fun c => absurd c (by decide)) (fun _ => ?_)
      refine g_al0n (pc := 81) C dX10_whyNotBy_81 ?_
      refine g_al0n (pc := 82) C dX10_whyNotBy_82 ?_
      refine s_getR (pc := 83) C fX10_19 (w0 hz) rfl dX10_whyNotBy_83 ?_
      refine s_getR (pc := 86) C fX10_168 (w6 hz) rfl dX10_whyNotBy_86 ?_
      refine g_il2n (pc := 89) C dX10_whyNotBy_89 ?_
      refine s_ialdv (pc := 90) (q := (aA ν a 0).toNatClampNeg) (v := aP ν (aA ν a 0).toNatClampNeg 2) C (w9 hz) (hI.who2 ha).1 (by have := (hI.who2 ha).2; have := hI.n4.2; omega) (Nat.le_of_ble_eq_true rfl) (hR.p2 (hI.who2 ha).2) dX10_whyNotBy_90 ?_
      refine s_VB (pc := 91) (st := []) C (w0 hz) rfl (c_isRecent (d := d - 1) (by omega) σ hz hI hR hX (aP ν (aA ν a 0).toNatClampNeg 2)) (by omega) lX10_171 dX10_whyNotBy_91 rfl (Nat.le_of_ble_eq_true rfl) rfl (fun b_91 => ?_) (fun b_91 => ?_)
      · refine g_if_ne (pc := 94) (tgt := 101) C dX10_whyNotBy_94 (by decide) (fun _ => ?_) (fun c => absurd c (by decide))
        refine g_iconst (pc := 101) (v := 0) C dX10_whyNotBy_101 (by decide) ?_
        exact r_I C hr dX10_whyNotBy_102 (by simp only [wyB, b_38, b_50, b_91, eq_self, ne_eq, not_true_eq_false, not_false_eq_true, Classical.not_not, decide_true, decide_false, and_true, true_and, and_false, false_and, and_self, or_true, true_or, or_false, false_or, or_self, if_true, if_false, ite_true, ite_false, Bool.eq_false_iff, Bool.not_eq_eq_eq_not, Bool.true_eq_false, Bool.false_eq_true, reduceCtorEq]) rfl
      · refine g_if_ne (pc := 94) (tgt := 101) C dX10_whyNotBy_94 (by decide) (fun c => absurd c (by decide)) (fun _ => ?_)
        refine g_iconst (pc := 97) (v := 5) C dX10_whyNotBy_97 (by decide) ?_
        refine g_goto (pc := 98) (tgt := 102) C dX10_whyNotBy_98 (by decide) ?_
        exact r_I C hr dX10_whyNotBy_102 (by have b9 := Classical.not_not.mp b_91; simp only [wyB, b_38, b_50, b9, eq_self, ne_eq, not_true_eq_false, not_false_eq_true, Classical.not_not, decide_true, decide_false, and_true, true_and, and_false, false_and, and_self, or_true, true_or, or_false, false_or, or_self, if_true, if_false, ite_true, ite_false, Bool.eq_false_iff, Bool.not_eq_eq_eq_not, Bool.true_eq_false, Bool.false_eq_true, reduceCtorEq]) rfl
    · refine g_if_ne (pc := 53) (tgt := 76) C dX10_whyNotBy_53 (by decide) (fun c => absurd c (by decide)) (fun _ => ?_)
      refine g_il5 (pc := 56) C dX10_whyNotBy_56 ?_
      refine g_if_eq (pc := 58) (tgt := 74) C dX10_whyNotBy_58 (by decide) (fun _ => ?_) (fun c => absurd c (by decide))
      refine g_iconst (pc := 74) (v := 4) C dX10_whyNotBy_74 (by decide) ?_
      exact r_I C hr dX10_whyNotBy_75 (by simp only [wyB, b_38, b_50, eq_self, ne_eq, not_true_eq_false, not_false_eq_true, Classical.not_not, decide_true, decide_false, and_true, true_and, and_false, false_and, and_self, or_true, true_or, or_false, false_or, or_self, if_true, if_false, ite_true, ite_false, Bool.eq_false_iff, Bool.not_eq_eq_eq_not, Bool.true_eq_false, Bool.false_eq_true, reduceCtorEq]) rfl

theorem c_whyI {d : Nat} (hd : 3 ≤ d) (σ : Sg) {z : Nat} (hz : isW z) {ν : Nu} (hI : INV ν) (hR : RW σ z ν) {a : Nat} (ha : a < cnt ν 7) {y : Int32} (hB : hb y (nI a) = barA ν a) : CI d mX10_whyNotIn [.ref z, .int (nI a), .int y] σ (why6 ν a) σ := by
  have h7 := hI.n7.2
  refine con_of (by decide) (catL rfl) (Nat.le_of_ble_eq_true rfl) ?_
  intro μ ω C hr
  have C : Cx μ ω "TowField$World" cX10_whyNotIn 4 d := C
  have hr : (mH μ).sig.returnType = some .int := hr
  show G μ ω (RQ μ ω (pI (why6 ν a) σ)) 0 [some (.ref z), some (.int (nI a)), some (.int y), none] [] (mk σ) 0 0
  refine g_al0n (pc := 0) C dX10_whyNotIn_0 ?_
  refine s_getIv (pc := 1) (v := ν 1) C fX10_64 (w0 hz) rfl hR.wnd dX10_whyNotIn_1 ?_
  refine g_al0n (pc := 4) C dX10_whyNotIn_4 ?_
  refine s_getR (pc := 5) C fX10_47 (w0 hz) rfl dX10_whyNotIn_5 ?_
  refine s_getR (pc := 8) C fX10_121 (w22 hz) rfl dX10_whyNotIn_8 ?_
  refine g_il1n (pc := 11) C dX10_whyNotIn_11 ?_
  refine s_ialdv (pc := 12) (q := a) (v := aA ν a 3) C (w26 hz) rfl (by omega) (Nat.le_of_ble_eq_true rfl) (hR.a3 (by omega)) dX10_whyNotIn_12 ?_
  refine s_SI (pc := 13) (st := [(.int (ν 1))]) C (c_mostWind (d := d - 1) (by omega) σ (aA ν a 3)) (by omega) lX10_175 dX10_whyNotIn_13 rfl (Nat.le_of_ble_eq_true rfl) rfl ?_
  refine g_icmp_leL (pc := 16) (tgt := 22) C dX10_whyNotIn_16 (by decide) (fun c_16 => ?_) (fun c_16 => ?_)
  · refine g_al0n (pc := 22) C dX10_whyNotIn_22 ?_
    refine s_getIv (pc := 23) (v := ν 2) C fX10_67 (w0 hz) rfl hR.lnk dX10_whyNotIn_23 ?_
    refine g_al0n (pc := 26) C dX10_whyNotIn_26 ?_
    refine s_getR (pc := 27) C fX10_10 (w0 hz) rfl dX10_whyNotIn_27 ?_
    refine s_getR (pc := 30) C fX10_180 (w1 hz) rfl dX10_whyNotIn_30 ?_
    refine g_al0n (pc := 33) C dX10_whyNotIn_33 ?_
    refine s_getR (pc := 34) C fX10_47 (w0 hz) rfl dX10_whyNotIn_34 ?_
    refine s_getR (pc := 37) C fX10_139 (w22 hz) rfl dX10_whyNotIn_37 ?_
    refine g_il1n (pc := 40) C dX10_whyNotIn_40 ?_
    refine s_ialdv (pc := 41) (q := a) (v := aA ν a 2) C (w25 hz) rfl (by omega) (Nat.le_of_ble_eq_true rfl) (hR.a2 (by omega)) dX10_whyNotIn_41 ?_
    refine s_ialdv (pc := 42) (q := (aA ν a 2).toNatClampNeg) (v := aG ν (aA ν a 2).toNatClampNeg 2) C (w4 hz) (hI.gld2 ha).1 (by have := (hI.gld2 ha).2; have := hI.n3.2; omega) (Nat.le_of_ble_eq_true rfl) (hR.g2 (hI.gld2 ha).2) dX10_whyNotIn_42 ?_
    refine s_NB (pc := 43) (st := []) C (c_hasBit (d := d - 1) (by omega) σ (ν 2) (aG ν (aA ν a 2).toNatClampNeg 2)) (by omega) lX10_148 dX10_whyNotIn_43 rfl (Nat.le_of_ble_eq_true rfl) rfl (fun b_43 => ?_) (fun b_43 => ?_)
    · refine g_if_ne (pc := 46) (tgt := 52) C dX10_whyNotIn_46 (by decide) (fun _ => ?_) (fun c => absurd c (by decide))
      refine g_al0n (pc := 52) C dX10_whyNotIn_52 ?_
      refine s_getR (pc := 53) C fX10_19 (w0 hz) rfl dX10_whyNotIn_53 ?_
      refine s_getI (pc := 56) C fX10_183 (w6 hz) rfl dX10_whyNotIn_56 ?_
      refine g_al0n (pc := 59) C dX10_whyNotIn_59 ?_
      refine s_getR (pc := 60) C fX10_47 (w0 hz) rfl dX10_whyNotIn_60 ?_
      refine g_il1n (pc := 63) C dX10_whyNotIn_63 ?_
      refine s_VI (pc := 64) (st := [(.int (σ (z + 6) 5))]) C (w22 hz) rfl (c_crew (d := d - 1) (by omega) σ hz hI hR ha) (by omega) lX10_186 dX10_whyNotIn_64 rfl (Nat.le_of_ble_eq_true rfl) rfl ?_
      refine g_iand (pc := 67) C dX10_whyNotIn_67 ?_
      refine g_if_eq (pc := 68) (tgt := 74) C dX10_whyNotIn_68 (by decide) (fun c_68 => ?_) (fun c_68 => ?_)
      · refine g_il2n (pc := 74) C dX10_whyNotIn_74 ?_
        refine g_il1n (pc := 75) C dX10_whyNotIn_75 ?_
        refine s_NB (pc := 76) (st := []) C (by have := c_hasBit (d := d - 1) (by omega) σ y (nI a); rw [hB] at this; exact this) (by omega) lX10_148 dX10_whyNotIn_76 rfl (Nat.le_of_ble_eq_true rfl) rfl (fun b_76 => ?_) (fun b_76 => ?_)
        · refine g_if_eq (pc := 79) (tgt := 85) C dX10_whyNotIn_79 (by decide) (fun c => absurd c (by decide)) (fun _ => ?_)
          refine g_bipush (pc := 82) (v := 9) C dX10_whyNotIn_82 (by decide) ?_
          have h8 := (air_crew hI ha hR.b.2).mp c_68
          exact r_I C hr dX10_whyNotIn_84 (by simp only [why6, why7, why8, why9, why10, c_16, b_43, h8, b_76, eq_self, ne_eq, not_true_eq_false, not_false_eq_true, Classical.not_not, decide_true, decide_false, and_true, true_and, and_false, false_and, and_self, or_true, true_or, or_false, false_or, or_self, if_true, if_false, ite_true, ite_false, Bool.eq_false_iff, Bool.not_eq_eq_eq_not, Bool.true_eq_false, Bool.false_eq_true, reduceCtorEq]) rfl
        · refine g_if_eq (pc := 79) (tgt := 85) C dX10_whyNotIn_79 (by decide) (fun _ => ?_) (fun c => absurd c (by decide))
          refine g_al0n (pc := 85) C dX10_whyNotIn_85 ?_
          refine g_al0n (pc := 86) C dX10_whyNotIn_86 ?_
          refine s_getR (pc := 87) C fX10_47 (w0 hz) rfl dX10_whyNotIn_87 ?_
          refine s_getR (pc := 90) C fX10_121 (w22 hz) rfl dX10_whyNotIn_90 ?_
          refine g_il1n (pc := 93) C dX10_whyNotIn_93 ?_
          refine s_ialdv (pc := 94) (q := a) (v := aA ν a 3) C (w26 hz) rfl (by omega) (Nat.le_of_ble_eq_true rfl) (hR.a3 (by omega)) dX10_whyNotIn_94 ?_
          refine s_VB (pc := 95) (st := []) C (w0 hz) rfl (c_hasGear (d := d - 1) (by omega) σ hz hI hR (kind5 hI ha)) (by omega) lX10_189 dX10_whyNotIn_95 rfl (Nat.le_of_ble_eq_true rfl) rfl (fun b_95 => ?_) (fun b_95 => ?_)
          · refine g_if_ne (pc := 98) (tgt := 104) C dX10_whyNotIn_98 (by decide) (fun _ => ?_) (fun c => absurd c (by decide))
            refine g_al0n (pc := 104) C dX10_whyNotIn_104 ?_
            refine s_getR (pc := 105) C fX10_40 (w0 hz) rfl dX10_whyNotIn_105 ?_
            refine s_getR (pc := 108) C fX10_192 (w16 hz) rfl dX10_whyNotIn_108 ?_
            refine g_al0n (pc := 111) C dX10_whyNotIn_111 ?_
            refine s_getR (pc := 112) C fX10_47 (w0 hz) rfl dX10_whyNotIn_112 ?_
            refine s_getR (pc := 115) C fX10_195 (w22 hz) rfl dX10_whyNotIn_115 ?_
            refine g_il1n (pc := 118) C dX10_whyNotIn_118 ?_
            refine s_ialdv (pc := 119) (q := a) (v := useA ν a) C (w29 hz) rfl (by omega) (Nat.le_of_ble_eq_true rfl) (hR.a6 (by omega)) dX10_whyNotIn_119 ?_
            refine s_ialdv (pc := 120) (q := (useA ν a).toNatClampNeg) (v := laneA ν a) C (w18 hz) (use_ok ν a).1 (by have := (use_ok ν a).2; omega) (Nat.le_of_ble_eq_true rfl) (hR.lan a) dX10_whyNotIn_120 ?_
            refine g_is3n (pc := 121) C dX10_whyNotIn_121 ?_
            refine g_al0n (pc := 122) C dX10_whyNotIn_122 ?_
            refine s_getR (pc := 123) C fX10_40 (w0 hz) rfl dX10_whyNotIn_123 ?_
            refine g_il3n (pc := 126) C dX10_whyNotIn_126 ?_
            refine g_al0n (pc := 127) C dX10_whyNotIn_127 ?_
            refine s_getIv (pc := 128) (v := ν 0) C fX10_60 (w0 hz) rfl hR.min dX10_whyNotIn_128 ?_
            refine g_al0n (pc := 131) C dX10_whyNotIn_131 ?_
            refine s_getR (pc := 132) C fX10_47 (w0 hz) rfl dX10_whyNotIn_132 ?_
            refine s_getR (pc := 135) C fX10_198 (w22 hz) rfl dX10_whyNotIn_135 ?_
            refine g_il1n (pc := 138) C dX10_whyNotIn_138 ?_
            refine s_ialdv (pc := 139) (q := a) (v := spanA ν a) C (w30 hz) rfl (by omega) (Nat.le_of_ble_eq_true rfl) (hR.a7 (by omega)) dX10_whyNotIn_139 ?_
            refine s_VB (pc := 140) (st := []) C (w16 hz) rfl (c_clr (d := d - 1) (by omega) σ hz hI hR (laneA_isN hI a) (spanA_ok6 hI ha)) (by omega) lX10_201 dX10_whyNotIn_140 rfl (Nat.le_of_ble_eq_true rfl) rfl (fun b_140 => ?_) (fun b_140 => ?_)
            · refine g_if_eq (pc := 143) (tgt := 150) C dX10_whyNotIn_143 (by decide) (fun c => absurd c (by decide)) (fun _ => ?_)
              refine g_iconst (pc := 146) (v := 0) C dX10_whyNotIn_146 (by decide) ?_
              refine g_goto (pc := 147) (tgt := 152) C dX10_whyNotIn_147 (by decide) ?_
              have h8 := (air_crew hI ha hR.b.2).mp c_68
              exact r_I C hr dX10_whyNotIn_152 (by simp only [why6, why7, why8, why9, why10, c_16, b_43, h8, b_76, b_95, b_140, eq_self, ne_eq, not_true_eq_false, not_false_eq_true, Classical.not_not, decide_true, decide_false, and_true, true_and, and_false, false_and, and_self, or_true, true_or, or_false, false_or, or_self, if_true, if_false, ite_true, ite_false, Bool.eq_false_iff, Bool.not_eq_eq_eq_not, Bool.true_eq_false, Bool.false_eq_true, reduceCtorEq]) rfl
            · refine g_if_eq (pc := 143) (tgt := 150) C dX10_whyNotIn_143 (by decide) (fun _ => ?_) (fun c => absurd c (by decide))
              refine g_bipush (pc := 150) (v := 11) C dX10_whyNotIn_150 (by decide) ?_
              have h8 := (air_crew hI ha hR.b.2).mp c_68
              exact r_I C hr dX10_whyNotIn_152 (by simp only [why6, why7, why8, why9, why10, c_16, b_43, h8, b_76, b_95, b_140, eq_self, ne_eq, not_true_eq_false, not_false_eq_true, Classical.not_not, decide_true, decide_false, and_true, true_and, and_false, false_and, and_self, or_true, true_or, or_false, false_or, or_self, if_true, if_false, ite_true, ite_false, Bool.eq_false_iff, Bool.not_eq_eq_eq_not, Bool.true_eq_false, Bool.false_eq_true, reduceCtorEq]) rfl
          · refine g_if_ne (pc := 98) (tgt := 104) C dX10_whyNotIn_98 (by decide) (fun c => absurd c (by decide)) (fun _ => ?_)
            refine g_bipush (pc := 101) (v := 10) C dX10_whyNotIn_101 (by decide) ?_
            have h8 := (air_crew hI ha hR.b.2).mp c_68
            exact r_I C hr dX10_whyNotIn_103 (by simp only [why6, why7, why8, why9, why10, c_16, b_43, h8, b_76, b_95, eq_self, ne_eq, not_true_eq_false, not_false_eq_true, Classical.not_not, decide_true, decide_false, and_true, true_and, and_false, false_and, and_self, or_true, true_or, or_false, false_or, or_self, if_true, if_false, ite_true, ite_false, Bool.eq_false_iff, Bool.not_eq_eq_eq_not, Bool.true_eq_false, Bool.false_eq_true, reduceCtorEq]) rfl
      · refine g_bipush (pc := 71) (v := 8) C dX10_whyNotIn_71 (by decide) ?_
        have h8 := Classical.not_not.mp (fun q => c_68 ((air_crew hI ha hR.b.2).mpr q))
        exact r_I C hr dX10_whyNotIn_73 (by simp only [why6, why7, why8, why9, why10, c_16, b_43, h8, eq_self, ne_eq, not_true_eq_false, not_false_eq_true, Classical.not_not, decide_true, decide_false, and_true, true_and, and_false, false_and, and_self, or_true, true_or, or_false, false_or, or_self, if_true, if_false, ite_true, ite_false, Bool.eq_false_iff, Bool.not_eq_eq_eq_not, Bool.true_eq_false, Bool.false_eq_true, reduceCtorEq]) rfl
    · refine g_if_ne (pc := 46) (tgt := 52) C dX10_whyNotIn_46 (by decide) (fun c => absurd c (by decide)) (fun _ => ?_)
      refine g_bipush (pc := 49) (v := 7) C dX10_whyNotIn_49 (by decide) ?_
      exact r_I C hr dX10_whyNotIn_51 (by simp only [why6, why7, why8, why9, why10, c_16, b_43, eq_self, ne_eq, not_true_eq_false, not_false_eq_true, Classical.not_not, decide_true, decide_false, and_true, true_and, and_false, false_and, and_self, or_true, true_or, or_false, false_or, or_self, if_true, if_false, ite_true, ite_false, Bool.eq_false_iff, Bool.not_eq_eq_eq_not, Bool.true_eq_false, Bool.false_eq_true, reduceCtorEq]) rfl
  · refine g_bipush (pc := 19) (v := 6) C dX10_whyNotIn_19 (by decide) ?_
    exact r_I C hr dX10_whyNotIn_21 (by simp only [why6, why7, why8, why9, why10, c_16, eq_self, ne_eq, not_true_eq_false, not_false_eq_true, Classical.not_not, decide_true, decide_false, and_true, true_and, and_false, false_and, and_self, or_true, true_or, or_false, false_or, or_self, if_true, if_false, ite_true, ite_false, Bool.eq_false_iff, Bool.not_eq_eq_eq_not, Bool.true_eq_false, Bool.false_eq_true, reduceCtorEq]) rfl

theorem c_whyNot {d : Nat} (hd : 4 ≤ d) (σ : Sg) {z : Nat} (hz : isW z) {ν : Nu} (hI : INV ν) (hR : RW σ z ν) {a : Nat} (ha : a < cnt ν 7) (hX : 0 ≤ ν 27) {y : Int32} (hB : hb y (nI a) = barA ν a) : CI d mX10_whyNot [.ref z, .int (nI a), .int y] σ (whyA ν a) σ := by
  have h7 := hI.n7.2
  refine con_of (by decide) (catL rfl) (Nat.le_of_ble_eq_true rfl) ?_
  intro μ ω C hr
  have C : Cx μ ω "TowField$World" cX10_whyNot 4 d := C
  have hr : (mH μ).sig.returnType = some .int := hr
  show G μ ω (RQ μ ω (pI (whyA ν a) σ)) 0 [some (.ref z), some (.int (nI a)), some (.int y), none] [] (mk σ) 0 0
  refine g_al0n (pc := 0) C dX10_whyNot_0 ?_
  refine g_il1n (pc := 1) C dX10_whyNot_1 ?_
  refine s_VI (pc := 2) (st := []) C (w0 hz) rfl (c_whyW (d := d - 1) (by omega) σ hz hI hR ha) (by omega) lX10_128 dX10_whyNot_2 rfl (Nat.le_of_ble_eq_true rfl) rfl ?_
  refine g_is3n (pc := 5) C dX10_whyNot_5 ?_
  refine g_il3n (pc := 6) C dX10_whyNot_6 ?_
  refine g_if_ne (pc := 7) (tgt := 16) C dX10_whyNot_7 (by decide) (fun c_7 => ?_) (fun c_7 => ?_)
  · refine g_il3n (pc := 16) C dX10_whyNot_16 ?_
    refine g_if_ne (pc := 17) (tgt := 27) C dX10_whyNot_17 (by decide) (fun c_17 => ?_) (fun c_17 => absurd c_17 c_7)
    refine g_il3n (pc := 27) C dX10_whyNot_27 ?_
    exact r_I C hr dX10_whyNot_28 (by rw [whyA_eq]; simp only [c_7, eq_self, ne_eq, not_true_eq_false, not_false_eq_true, Classical.not_not, decide_true, decide_false, and_true, true_and, and_false, false_and, and_self, or_true, true_or, or_false, false_or, or_self, if_true, if_false, ite_true, ite_false, Bool.eq_false_iff, Bool.not_eq_eq_eq_not, Bool.true_eq_false, Bool.false_eq_true, reduceCtorEq]) rfl
  · refine g_al0n (pc := 10) C dX10_whyNot_10 ?_
    refine g_il1n (pc := 11) C dX10_whyNot_11 ?_
    refine s_VI (pc := 12) (st := []) C (w0 hz) rfl (c_whyB (d := d - 1) (by omega) σ hz hI hR ha hX) (by omega) lX10_132 dX10_whyNot_12 rfl (Nat.le_of_ble_eq_true rfl) rfl ?_
    refine g_is3n (pc := 15) C dX10_whyNot_15 ?_
    refine g_il3n (pc := 16) C dX10_whyNot_16 ?_
    refine g_if_ne (pc := 17) (tgt := 27) C dX10_whyNot_17 (by decide) (fun c_17 => ?_) (fun c_17 => ?_)
    · refine g_il3n (pc := 27) C dX10_whyNot_27 ?_
      exact r_I C hr dX10_whyNot_28 (by rw [whyA_eq]; simp only [c_7, c_17, eq_self, ne_eq, not_true_eq_false, not_false_eq_true, Classical.not_not, decide_true, decide_false, and_true, true_and, and_false, false_and, and_self, or_true, true_or, or_false, false_or, or_self, if_true, if_false, ite_true, ite_false, Bool.eq_false_iff, Bool.not_eq_eq_eq_not, Bool.true_eq_false, Bool.false_eq_true, reduceCtorEq]) rfl
    · refine g_al0n (pc := 20) C dX10_whyNot_20 ?_
      refine g_il1n (pc := 21) C dX10_whyNot_21 ?_
      refine g_il2n (pc := 22) C dX10_whyNot_22 ?_
      refine s_VI (pc := 23) (st := []) C (w0 hz) rfl (c_whyI (d := d - 1) (by omega) σ hz hI hR ha hB) (by omega) lX10_135 dX10_whyNot_23 rfl (Nat.le_of_ble_eq_true rfl) rfl ?_
      refine g_is3n (pc := 26) C dX10_whyNot_26 ?_
      refine g_il3n (pc := 27) C dX10_whyNot_27 ?_
      exact r_I C hr dX10_whyNot_28 (by rw [whyA_eq]; simp only [c_7, c_17, eq_self, ne_eq, not_true_eq_false, not_false_eq_true, Classical.not_not, decide_true, decide_false, and_true, true_and, and_false, false_and, and_self, or_true, true_or, or_false, false_or, or_self, if_true, if_false, ite_true, ite_false, Bool.eq_false_iff, Bool.not_eq_eq_eq_not, Bool.true_eq_false, Bool.false_eq_true, reduceCtorEq]) rfl

theorem lp_starts {μ : Mx} {ω : Om} {d : Nat} (hd : 5 ≤ d) (C : Cx μ ω "TowField$World" cX10_starts 3 d) (hr : (mH μ).sig.returnType = some .int) (σ : Sg) {z : Nat} (hz : isW z) {ν : Nu} (hI : INV ν) (hR : RW σ z ν) (hX : 0 ≤ ν 27) {y : Int32} (hB : ∀ a, a < cnt ν 7 → aA ν a 6 = 0 → hb y (nI a) = barA ν a) : ∀ (f i : Nat), i + f = cnt ν 7 → (fstL (staP ν) i = none) → G μ ω (RQ μ ω (pI (o2i (startsS ν)) σ)) 2 [some (.ref z), some (.int y), some (.int (nI i))] [] (mk σ) 0 0 := by
  intro f
  induction f with
  | zero =>
    intro i hif hv
    have hin : i = cnt ν 7 := by omega
    have h7 := hI.n7.2
    refine g_il2n (pc := 2) C dX10_starts_2 ?_
    refine g_al0n (pc := 3) C dX10_starts_3 ?_
    refine s_getR (pc := 4) C fX10_47 (w0 hz) rfl dX10_starts_4 ?_
    refine s_getIv (pc := 7) (v := nI (cnt ν 7)) C fX10_105 (w22 hz) rfl (hR.n7 hI) dX10_starts_7 ?_
    refine g_icmp_geL (pc := 10) (tgt := 42) C dX10_starts_10 (by decide) (fun c_10 => ?_) (fun c_10 => absurd c_10 (nI_nlt (by omega) (by omega)))
    refine g_iconst (pc := 42) (v := (-1)) C dX10_starts_42 (by decide) ?_
    exact r_I C hr dX10_starts_43 (by rw [hin] at hv; rw [startsS, hv]; rfl) rfl
  | succ f ih =>
    intro i hif hv
    have h7 := hI.n7.2
    refine g_il2n (pc := 2) C dX10_starts_2 ?_
    refine g_al0n (pc := 3) C dX10_starts_3 ?_
    refine s_getR (pc := 4) C fX10_47 (w0 hz) rfl dX10_starts_4 ?_
    refine s_getIv (pc := 7) (v := nI (cnt ν 7)) C fX10_105 (w22 hz) rfl (hR.n7 hI) dX10_starts_7 ?_
    refine g_icmp_geL (pc := 10) (tgt := 42) C dX10_starts_10 (by decide) (fun c_10 => absurd (nI_lt (by omega) (by omega)) c_10) (fun c_10 => ?_)
    refine g_al0n (pc := 13) C dX10_starts_13 ?_
    refine s_getR (pc := 14) C fX10_47 (w0 hz) rfl dX10_starts_14 ?_
    refine s_getR (pc := 17) C fX10_108 (w22 hz) rfl dX10_starts_17 ?_
    refine g_il2n (pc := 20) C dX10_starts_20 ?_
    refine s_ialdv (pc := 21) (q := i) (v := aA ν i 6) C (w31 hz) rfl (by omega) (Nat.le_of_ble_eq_true rfl) (hR.a8 (by omega)) dX10_starts_21 ?_
    refine g_if_ne (pc := 22) (tgt := 36) C dX10_starts_22 (by decide) (fun c_22 => ?_) (fun c_22 => ?_)
    · refine g_ii2 (pc := 36) (v := nI (i + 1)) C dX10_starts_36 (nI_inc1 _) ?_
      refine g_goto (pc := 39) (tgt := 2) C dX10_starts_39 (by decide) ?_
      exact ih (i + 1) (by omega) (fstL_no hv (by unfold staP; rw [decide_eq_false c_22]; simp))
    · refine g_al0n (pc := 25) C dX10_starts_25 ?_
      refine g_il2n (pc := 26) C dX10_starts_26 ?_
      refine g_il1n (pc := 27) C dX10_starts_27 ?_
      refine s_VI (pc := 28) (st := []) C (w0 hz) rfl (c_whyNot (d := d - 1) (by omega) σ hz hI hR (a := i) (by omega) hX (hB i (by omega) c_22)) (by omega) lX10_227 dX10_starts_28 rfl (Nat.le_of_ble_eq_true rfl) rfl ?_
      refine g_if_ne (pc := 31) (tgt := 36) C dX10_starts_31 (by decide) (fun c_31 => ?_) (fun c_31 => ?_)
      · refine g_ii2 (pc := 36) (v := nI (i + 1)) C dX10_starts_36 (nI_inc1 _) ?_
        refine g_goto (pc := 39) (tgt := 2) C dX10_starts_39 (by decide) ?_
        exact ih (i + 1) (by omega) (fstL_no hv (by unfold staP; rw [decide_eq_false c_31]; simp))
      · refine g_il2n (pc := 34) C dX10_starts_34 ?_
        exact r_I C hr dX10_starts_35 (by rw [startsS, fstL_hit hv (by unfold staP; rw [decide_eq_true c_22, decide_eq_true c_31]; rfl) (show i < cnt ν 7 by omega)]; rfl) rfl

theorem c_starts {d : Nat} (hd : 5 ≤ d) (σ : Sg) {z : Nat} (hz : isW z) {ν : Nu} (hI : INV ν) (hR : RW σ z ν) (hX : 0 ≤ ν 27) {y : Int32} (hB : ∀ a, a < cnt ν 7 → aA ν a 6 = 0 → hb y (nI a) = barA ν a) : CI d mX10_starts [.ref z, .int y] σ (o2i (startsS ν)) σ := by
  refine con_of (by decide) (catL rfl) (Nat.le_of_ble_eq_true rfl) ?_
  intro μ ω C hr
  have C : Cx μ ω "TowField$World" cX10_starts 3 d := C
  have hr : (mH μ).sig.returnType = some .int := hr
  show G μ ω (RQ μ ω (pI (o2i (startsS ν)) σ)) 0 [some (.ref z), some (.int y), none] [] (mk σ) 0 0
  refine g_iconst (pc := 0) (v := 0) C dX10_starts_0 (by decide) ?_
  refine g_is2n (pc := 1) C dX10_starts_1 ?_
  exact lp_starts hd C hr σ hz hI hR hX hB (cnt ν 7) 0 (by omega) rfl

theorem c_first {d : Nat} (hd : 6 ≤ d) (σ : Sg) {z : Nat} (hz : isW z) {ν : Nu} (hI : INV ν) (hR : RW σ z ν) (hX : 0 ≤ ν 27) {y : Int32} (hB : ∀ a, a < cnt ν 7 → aA ν a 6 = 0 → hb y (nI a) = barA ν a) : CI d mX10_first [.ref z, .int y] σ (nextS ν) σ := by
  have h7 := hI.n7.2
  have h5 := hI.n5.2
  refine con_of (by decide) (catL rfl) (Nat.le_of_ble_eq_true rfl) ?_
  intro μ ω C hr
  have C : Cx μ ω "TowField$World" cX10_first 5 d := C
  have hr : (mH μ).sig.returnType = some .int := hr
  show G μ ω (RQ μ ω (pI (nextS ν) σ)) 0 [some (.ref z), some (.int y), none, none, none] [] (mk σ) 0 0
  refine g_al0n (pc := 0) C dX10_first_0 ?_
  refine s_VI (pc := 1) (st := []) C (w0 hz) rfl (c_lands (d := d - 1) (by omega) σ hz hI hR) (by omega) lX10_233 dX10_first_1 rfl (Nat.le_of_ble_eq_true rfl) rfl ?_
  cases ho4 : landsS ν with
  | none =>
    show G μ ω _ 4 _ (.int (-1) :: _) _ 0 0
    refine g_is2n (pc := 4) C dX10_first_4 ?_
    refine g_il2n (pc := 5) C dX10_first_5 ?_
    refine g_if_lt (pc := 6) (tgt := 15) C dX10_first_6 (by decide) (fun _ => ?_) (fun c => absurd c (by decide))
    refine g_al0n (pc := 15) C dX10_first_15 ?_
    refine g_il1n (pc := 16) C dX10_first_16 ?_
    refine s_VI (pc := 17) (st := []) C (w0 hz) rfl (c_starts (d := d - 1) (by omega) σ hz hI hR hX hB) (by omega) lX10_236 dX10_first_17 rfl (Nat.le_of_ble_eq_true rfl) rfl ?_
    cases ho20 : startsS ν with
    | none =>
      show G μ ω _ 20 _ (.int (-1) :: _) _ 0 0
      refine g_is3n (pc := 20) C dX10_first_20 ?_
      refine g_il3n (pc := 21) C dX10_first_21 ?_
      refine g_if_lt (pc := 22) (tgt := 31) C dX10_first_22 (by decide) (fun _ => ?_) (fun c => absurd c (by decide))
      refine g_al0n (pc := 31) C dX10_first_31 ?_
      refine s_VI (pc := 32) (st := []) C (w0 hz) rfl (c_isFetched (d := d - 1) (by omega) σ hz hI hR) (by omega) lX10_239 dX10_first_32 rfl (Nat.le_of_ble_eq_true rfl) rfl ?_
      cases ho35 : fetchS ν with
      | none =>
        show G μ ω _ 35 _ (.int (-1) :: _) _ 0 0
        refine g_is4 (pc := 35) C dX10_first_35 ?_
        refine g_il4 (pc := 37) C dX10_first_37 ?_
        refine g_if_lt (pc := 39) (tgt := 51) C dX10_first_39 (by decide) (fun _ => ?_) (fun c => absurd c (by decide))
        refine g_iconst (pc := 51) (v := 0) C dX10_first_51 (by decide) ?_
        exact r_I C hr dX10_first_52 (by unfold nextS; rw [ho4, ho20, ho35]) rfl
      | some r =>
        have hr2 := fetch_lt ho35
        show G μ ω _ 35 _ (.int (nI r) :: _) _ 0 0
        refine g_is4 (pc := 35) C dX10_first_35 ?_
        refine g_il4 (pc := 37) C dX10_first_37 ?_
        refine g_if_lt (pc := 39) (tgt := 51) C dX10_first_39 (by decide) (fun c_39 => absurd c_39 (nI_pos (by omega))) (fun c_39 => ?_)
        refine g_sipush (pc := 42) (v := 3000) C dX10_first_42 (by decide) ?_
        refine g_il4 (pc := 45) C dX10_first_45 ?_
        refine g_iadd (pc := 47) C dX10_first_47 ?_
        refine g_goto (pc := 48) (tgt := 52) C dX10_first_48 (by decide) ?_
        exact r_I C hr dX10_first_52 (by unfold nextS; rw [ho4, ho20, ho35]) rfl
    | some q =>
      have hq := (starts_at ho20).1
      show G μ ω _ 20 _ (.int (nI q) :: _) _ 0 0
      refine g_is3n (pc := 20) C dX10_first_20 ?_
      refine g_il3n (pc := 21) C dX10_first_21 ?_
      refine g_if_lt (pc := 22) (tgt := 31) C dX10_first_22 (by decide) (fun c_22 => absurd c_22 (nI_pos (by omega))) (fun c_22 => ?_)
      refine g_sipush (pc := 25) (v := 2000) C dX10_first_25 (by decide) ?_
      refine g_il3n (pc := 28) C dX10_first_28 ?_
      refine g_iadd (pc := 29) C dX10_first_29 ?_
      exact r_I C hr dX10_first_30 (by unfold nextS; rw [ho4, ho20]) rfl
  | some p =>
    have hp := lands_lt ho4
    show G μ ω _ 4 _ (.int (nI p) :: _) _ 0 0
    refine g_is2n (pc := 4) C dX10_first_4 ?_
    refine g_il2n (pc := 5) C dX10_first_5 ?_
    refine g_if_lt (pc := 6) (tgt := 15) C dX10_first_6 (by decide) (fun c_6 => absurd c_6 (nI_pos (by omega))) (fun c_6 => ?_)
    refine g_sipush (pc := 9) (v := 1000) C dX10_first_9 (by decide) ?_
    refine g_il2n (pc := 12) C dX10_first_12 ?_
    refine g_iadd (pc := 13) C dX10_first_13 ?_
    exact r_I C hr dX10_first_14 (by unfold nextS; rw [ho4]) rfl

theorem worth_t {σ : Sg} {z : Nat} {ν : Nu} (hR : RW σ z ν) {t : Nat} (ht : t < cnt ν 8) : RT1 σ (codes ν t) (lenT ν t) t := hR.t t ht
theorem textU_lt {ν : Nu} {u : Int32} {t : Nat} (h : textU ν u = some t) : t < cnt ν 8 := by
  unfold textU at h
  generalize cnt ν 8 = n at h ⊢
  induction n with
  | zero => cases h
  | succ n ih =>
    rw [lstL_s] at h
    split at h
    · cases h; omega
    · have := ih h; omega
theorem c_barredBy {d : Nat} (hd : 4 ≤ d) (σ : Sg) {z : Nat} (hz : isW z) {ν : Nu} (hI : INV ν) (hR : RW σ z ν) {a : Nat} (ha : a < cnt ν 7) {t : Nat} (ht : textU ν 0 = some t) : CP d mX10_isBarredBy [.ref z, .int (nI t), .int (nI a)] σ (fun v τ' => v = (if barA ν a = true then 1 else 0) ∧ Eqx [10, 11] σ τ') := by
  have h7 := hI.n7.2
  have h8 := hI.n8.2
  have hT := textU_lt ht
  refine con_of (by decide) (catL rfl) (Nat.le_of_ble_eq_true rfl) ?_
  intro μ ω C hr
  have C : Cx μ ω "TowField$World" cX10_isBarredBy 3 d := C
  have hr : (mH μ).sig.returnType = some .boolean := hr
  show G μ ω (RQ μ ω (pP (fun v τ' => v = (if barA ν a = true then 1 else 0) ∧ Eqx [10, 11] σ τ'))) 0 [some (.ref z), some (.int (nI t)), some (.int (nI a))] [] (mk σ) 0 0
  refine g_al0n (pc := 0) C dX10_isBarredBy_0 ?_
  refine s_getR (pc := 1) C fX10_73 (w0 hz) rfl dX10_isBarredBy_1 ?_
  refine g_il1n (pc := 4) C dX10_isBarredBy_4 ?_
  refine g_al0n (pc := 5) C dX10_isBarredBy_5 ?_
  refine s_getR (pc := 6) C fX10_47 (w0 hz) rfl dX10_isBarredBy_6 ?_
  refine s_getR (pc := 9) C fX10_115 (w22 hz) rfl dX10_isBarredBy_9 ?_
  refine g_il2n (pc := 12) C dX10_isBarredBy_12 ?_
  refine s_ialdv (pc := 13) (q := a) (v := aA ν a 4) C (w27 hz) rfl (by omega) (Nat.le_of_ble_eq_true rfl) (hR.a4 (by omega)) dX10_isBarredBy_13 ?_
  refine g_al0n (pc := 14) C dX10_isBarredBy_14 ?_
  refine s_getR (pc := 15) C fX10_47 (w0 hz) rfl dX10_isBarredBy_15 ?_
  refine s_getR (pc := 18) C fX10_118 (w22 hz) rfl dX10_isBarredBy_18 ?_
  refine g_il2n (pc := 21) C dX10_isBarredBy_21 ?_
  refine s_ialdv (pc := 22) (q := a) (v := aA ν a 5) C (w28 hz) rfl (by omega) (Nat.le_of_ble_eq_true rfl) (hR.a5 (by omega)) dX10_isBarredBy_22 ?_
  refine g_al0n (pc := 23) C dX10_isBarredBy_23 ?_
  refine s_getR (pc := 24) C fX10_47 (w0 hz) rfl dX10_isBarredBy_24 ?_
  refine s_getR (pc := 27) C fX10_121 (w22 hz) rfl dX10_isBarredBy_27 ?_
  refine g_il2n (pc := 30) C dX10_isBarredBy_30 ?_
  refine s_ialdv (pc := 31) (q := a) (v := aA ν a 3) C (w26 hz) rfl (by omega) (Nat.le_of_ble_eq_true rfl) (hR.a3 (by omega)) dX10_isBarredBy_31 ?_
  refine g_al0n (pc := 32) C dX10_isBarredBy_32 ?_
  refine s_getIv (pc := 33) (v := ν 1) C fX10_64 (w0 hz) rfl hR.wnd dX10_isBarredBy_33 ?_
  refine s_VP (pc := 36) (st := []) C h1 rfl (c_value (d := d - 1) (by omega) σ (t := t) (by omega) (hR.t t hT) (aA ν a 4) (aA ν a 5) (aA ν a 3) (ν 1)) (by omega) lX10_124 dX10_isBarredBy_36 rfl (Nat.le_of_ble_eq_true rfl) rfl (fun v_36 τ2 hw_36 => ?_)
  obtain ⟨hv_36, hE2⟩ := hw_36
  refine g_if_eq (pc := 39) (tgt := 46) C dX10_isBarredBy_39 (by decide) (fun c_39 => ?_) (fun c_39 => ?_)
  · refine g_iconst (pc := 46) (v := 0) C dX10_isBarredBy_46 (by decide) ?_
    have hb3 : barA ν a = decide (¬ v_36 = 0) := by
      unfold barA
      rw [ht]
      dsimp only
      unfold worth
      rw [← hv_36]
    exact r_Pz C hr (by decide) dX10_isBarredBy_47 ⟨by rw [hb3]; simp [c_39], hE2⟩
  · refine g_iconst (pc := 42) (v := 1) C dX10_isBarredBy_42 (by decide) ?_
    refine g_goto (pc := 43) (tgt := 47) C dX10_isBarredBy_43 (by decide) ?_
    have hb3 : barA ν a = decide (¬ v_36 = 0) := by
      unfold barA
      rw [ht]
      dsimp only
      unfold worth
      rw [← hv_36]
    exact r_Pz C hr (by decide) dX10_isBarredBy_47 ⟨by rw [hb3]; simp [c_39], hE2⟩

def BRd (ν : Nu) (n : Nat) (v : Int32) : Prop := (∀ a, a < n → aA ν a 6 = 0 → hb v (nI a) = barA ν a) ∧ ∀ a, n ≤ a → a < 32 → hb v (nI a) = false
theorem BRd_or {ν : Nu} {i : Nat} {v : Int32} (hi : i < 32) (h : BRd ν i v) (hb2 : barA ν i = true) : BRd ν (i + 1) (v ||| (1 : Int32) <<< (nI i &&& 31)) := by
  refine ⟨fun a ha h6 => ?_, fun a ha h32 => ?_⟩
  · rw [hb_or _ _ (by omega), hb_one hi (by omega)]
    by_cases e : a = i
    · subst e; rw [hb2, decide_eq_true rfl]; simp
    · rw [decide_eq_false e, h.1 a (by omega) h6]; simp
  · rw [hb_or _ _ h32, hb_one hi h32, h.2 a (by omega) h32, decide_eq_false (by omega)]; rfl
theorem BRd_no {ν : Nu} {i : Nat} {v : Int32} (hi : i < 32) (h : BRd ν i v) (hb2 : aA ν i 6 = 0 → barA ν i = false) : BRd ν (i + 1) v := by
  refine ⟨fun a ha h6 => ?_, fun a ha h32 => h.2 a (by omega) h32⟩
  by_cases e : a = i
  · subst e; rw [hb2 h6]; exact h.2 a (Nat.le_refl _) hi
  · exact h.1 a (by omega) h6
theorem lp_barred {μ : Mx} {ω : Om} {d : Nat} (hd : 5 ≤ d) (C : Cx μ ω "TowField$World" cX10_barred 4 d) (hr : (mH μ).sig.returnType = some .int) (σ : Sg) {z : Nat} (hz : isW z) {ν : Nu} (hI : INV ν) (hR : RW σ z ν) {t : Nat} (ht : textU ν 0 = some t) : ∀ (f i : Nat) (v : Int32) (τ : Sg), i + f = cnt ν 7 → (Eqx [10, 11] σ τ) → (BRd ν i v) → G μ ω (RQ μ ω (pP (fun v τ' => (∀ a, a < cnt ν 7 → aA ν a 6 = 0 → hb v (nI a) = barA ν a) ∧ Eqx [10, 11] σ τ'))) 17 [some (.ref z), some (.int (nI t)), some (.int v), some (.int (nI i))] [] (mk τ) 0 0 := by
  intro f
  induction f with
  | zero =>
    intro i v τ hif hv hv1
    have hin : i = cnt ν 7 := by omega
    have h7 := hI.n7.2
    have hR2 := hR.tx hI hz hv
    refine g_il3n (pc := 17) C dX10_barred_17 ?_
    refine g_al0n (pc := 18) C dX10_barred_18 ?_
    refine s_getR (pc := 19) C fX10_47 (w0 hz) rfl dX10_barred_19 ?_
    refine s_getIv (pc := 22) (v := nI (cnt ν 7)) C fX10_105 (w22 hz) rfl (hR2.n7 hI) dX10_barred_22 ?_
    refine g_icmp_geL (pc := 25) (tgt := 61) C dX10_barred_25 (by decide) (fun c_25 => ?_) (fun c_25 => absurd c_25 (nI_nlt (by omega) (by omega)))
    refine g_il2n (pc := 61) C dX10_barred_61 ?_
    exact r_P C hr dX10_barred_62 ⟨by rw [hin] at hv1; exact hv1.1, hv⟩
  | succ f ih =>
    intro i v τ hif hv hv1
    have h7 := hI.n7.2
    have hR2 := hR.tx hI hz hv
    refine g_il3n (pc := 17) C dX10_barred_17 ?_
    refine g_al0n (pc := 18) C dX10_barred_18 ?_
    refine s_getR (pc := 19) C fX10_47 (w0 hz) rfl dX10_barred_19 ?_
    refine s_getIv (pc := 22) (v := nI (cnt ν 7)) C fX10_105 (w22 hz) rfl (hR2.n7 hI) dX10_barred_22 ?_
    refine g_icmp_geL (pc := 25) (tgt := 61) C dX10_barred_25 (by decide) (fun c_25 => absurd (nI_lt (by omega) (by omega)) c_25) (fun c_25 => ?_)
    refine g_al0n (pc := 28) C dX10_barred_28 ?_
    refine s_getR (pc := 29) C fX10_47 (w0 hz) rfl dX10_barred_29 ?_
    refine s_getR (pc := 32) C fX10_108 (w22 hz) rfl dX10_barred_32 ?_
    refine g_il3n (pc := 35) C dX10_barred_35 ?_
    refine s_ialdv (pc := 36) (q := i) (v := aA ν i 6) C (w31 hz) rfl (by omega) (Nat.le_of_ble_eq_true rfl) (hR2.a8 (by omega)) dX10_barred_36 ?_
    refine g_if_ne (pc := 37) (tgt := 55) C dX10_barred_37 (by decide) (fun c_37 => ?_) (fun c_37 => ?_)
    · refine g_ii3 (pc := 55) (v := nI (i + 1)) C dX10_barred_55 (nI_inc1 _) ?_
      refine g_goto (pc := 58) (tgt := 17) C dX10_barred_58 (by decide) ?_
      exact ih (i + 1) v τ (by omega) hv (BRd_no (by omega) hv1 (fun q => absurd q c_37))
    · refine g_al0n (pc := 40) C dX10_barred_40 ?_
      refine g_il1n (pc := 41) C dX10_barred_41 ?_
      refine g_il3n (pc := 42) C dX10_barred_42 ?_
      refine s_VP (pc := 43) (st := []) C (w0 hz) rfl (c_barredBy (d := d - 1) (by omega) τ hz hI hR2 (a := i) (by omega) ht) (by omega) lX10_111 dX10_barred_43 rfl (Nat.le_of_ble_eq_true rfl) rfl (fun v_43 τ2 hw_43 => ?_)
      obtain ⟨hv_43, hE2⟩ := hw_43
      refine g_if_eq (pc := 46) (tgt := 55) C dX10_barred_46 (by decide) (fun c_46 => ?_) (fun c_46 => ?_)
      · refine g_ii3 (pc := 55) (v := nI (i + 1)) C dX10_barred_55 (nI_inc1 _) ?_
        refine g_goto (pc := 58) (tgt := 17) C dX10_barred_58 (by decide) ?_
        exact ih (i + 1) v τ2 (by omega) (hv.tr hE2) (BRd_no (by omega) hv1 (fun _ => by cases hq : barA ν i with | false => rfl | true => rw [hq, if_pos rfl] at hv_43; rw [hv_43] at c_46; exact absurd c_46 (by decide)))
      · refine g_il2n (pc := 49) C dX10_barred_49 ?_
        refine g_iconst (pc := 50) (v := 1) C dX10_barred_50 (by decide) ?_
        refine g_il3n (pc := 51) C dX10_barred_51 ?_
        refine g_ishl (pc := 52) C dX10_barred_52 ?_
        refine g_ior (pc := 53) C dX10_barred_53 ?_
        refine g_is2n (pc := 54) C dX10_barred_54 ?_
        refine g_ii3 (pc := 55) (v := nI (i + 1)) C dX10_barred_55 (nI_inc1 _) ?_
        refine g_goto (pc := 58) (tgt := 17) C dX10_barred_58 (by decide) ?_
        exact ih (i + 1) _ τ2 (by omega) (hv.tr hE2) (BRd_or (by omega) hv1 (by cases hq : barA ν i with | true => rfl | false => rw [hq] at hv_43; exact absurd hv_43 c_46))

theorem c_barred {d : Nat} (hd : 5 ≤ d) (σ : Sg) {z : Nat} (hz : isW z) {ν : Nu} (hI : INV ν) (hR : RW σ z ν) : CP d mX10_barred [.ref z] σ (fun v τ' => (∀ a, a < cnt ν 7 → aA ν a 6 = 0 → hb v (nI a) = barA ν a) ∧ Eqx [10, 11] σ τ') := by
  have h7 := hI.n7.2
  have h8 := hI.n8.2
  refine con_of (by decide) (catL rfl) (Nat.le_of_ble_eq_true rfl) ?_
  intro μ ω C hr
  have C : Cx μ ω "TowField$World" cX10_barred 4 d := C
  have hr : (mH μ).sig.returnType = some .int := hr
  show G μ ω (RQ μ ω (pP (fun v τ' => (∀ a, a < cnt ν 7 → aA ν a 6 = 0 → hb v (nI a) = barA ν a) ∧ Eqx [10, 11] σ τ'))) 0 [some (.ref z), none, none, none] [] (mk σ) 0 0
  refine g_al0n (pc := 0) C dX10_barred_0 ?_
  refine s_getR (pc := 1) C fX10_57 (w0 hz) rfl dX10_barred_1 ?_
  refine g_iconst (pc := 4) (v := 0) C dX10_barred_4 (by decide) ?_
  refine s_ialdv (pc := 5) (q := 0) (v := o2i (textU ν 0)) C (w36 hz) rfl (by omega) (Nat.le_of_ble_eq_true rfl) (hR.frc (u := 0) (by decide)) dX10_barred_5 ?_
  cases ho6 : textU ν 0 with
  | none =>
    show G μ ω _ 6 _ (.int (-1) :: _) _ 0 0
    refine g_is1n (pc := 6) C dX10_barred_6 ?_
    refine g_iconst (pc := 7) (v := 0) C dX10_barred_7 (by decide) ?_
    refine g_is2n (pc := 8) C dX10_barred_8 ?_
    refine g_il1n (pc := 9) C dX10_barred_9 ?_
    refine g_if_geL (pc := 10) (tgt := 15) C dX10_barred_10 (by decide) (fun c => absurd c (by decide)) (fun _ => ?_)
    refine g_il2n (pc := 13) C dX10_barred_13 ?_
    exact r_P C hr dX10_barred_14 ⟨fun a ha _ => by rw [hb_zero (by omega)]; unfold barA; rw [ho6], Eqx.rf⟩
  | some t =>
    have hT := textU_lt ho6
    show G μ ω _ 6 _ (.int (nI t) :: _) _ 0 0
    refine g_is1n (pc := 6) C dX10_barred_6 ?_
    refine g_iconst (pc := 7) (v := 0) C dX10_barred_7 (by decide) ?_
    refine g_is2n (pc := 8) C dX10_barred_8 ?_
    refine g_il1n (pc := 9) C dX10_barred_9 ?_
    refine g_if_geL (pc := 10) (tgt := 15) C dX10_barred_10 (by decide) (fun c_10 => ?_) (fun c_10 => absurd c_10 (nI_pos (by omega)))
    refine g_iconst (pc := 15) (v := 0) C dX10_barred_15 (by decide) ?_
    refine g_is3n (pc := 16) C dX10_barred_16 ?_
    exact lp_barred hd C hr σ hz hI hR ho6 (cnt ν 7) 0 0 σ (by omega) Eqx.rf ⟨fun a h => by omega, fun a _ h => hb_zero h⟩

theorem c_costOf {d : Nat} (hd : 4 ≤ d) (σ : Sg) {z : Nat} (hz : isW z) {ν : Nu} (hI : INV ν) (hR : RW σ z ν) {a : Nat} (ha : a < cnt ν 7) : CP d mX10_costOf [.ref z, .int (nI a)] σ (fun v τ' => v = costA ν a ∧ Eqx [10, 11] σ τ') := by
  have h7 := hI.n7.2
  have h8 := hI.n8.2
  refine con_of (by decide) (catL rfl) (Nat.le_of_ble_eq_true rfl) ?_
  intro μ ω C hr
  have C : Cx μ ω "TowField$World" cX10_costOf 7 d := C
  have hr : (mH μ).sig.returnType = some .int := hr
  show G μ ω (RQ μ ω (pP (fun v τ' => v = costA ν a ∧ Eqx [10, 11] σ τ'))) 0 [some (.ref z), some (.int (nI a)), none, none, none, none, none] [] (mk σ) 0 0
  refine g_al0n (pc := 0) C dX10_costOf_0 ?_
  refine s_getR (pc := 1) C fX10_47 (w0 hz) rfl dX10_costOf_1 ?_
  refine s_getR (pc := 4) C fX10_198 (w22 hz) rfl dX10_costOf_4 ?_
  refine g_il1n (pc := 7) C dX10_costOf_7 ?_
  refine s_ialdv (pc := 8) (q := a) (v := spanA ν a) C (w30 hz) rfl (by omega) (Nat.le_of_ble_eq_true rfl) (hR.a7 (by omega)) dX10_costOf_8 ?_
  refine g_is2n (pc := 9) C dX10_costOf_9 ?_
  refine g_al0n (pc := 10) C dX10_costOf_10 ?_
  refine s_getR (pc := 11) C fX10_47 (w0 hz) rfl dX10_costOf_11 ?_
  refine s_getR (pc := 14) C fX10_115 (w22 hz) rfl dX10_costOf_14 ?_
  refine g_il1n (pc := 17) C dX10_costOf_17 ?_
  refine s_ialdv (pc := 18) (q := a) (v := aA ν a 4) C (w27 hz) rfl (by omega) (Nat.le_of_ble_eq_true rfl) (hR.a4 (by omega)) dX10_costOf_18 ?_
  refine g_is3n (pc := 19) C dX10_costOf_19 ?_
  refine g_al0n (pc := 20) C dX10_costOf_20 ?_
  refine s_getIv (pc := 21) (v := ν 0) C fX10_60 (w0 hz) rfl hR.min dX10_costOf_21 ?_
  refine g_al0n (pc := 24) C dX10_costOf_24 ?_
  refine s_getR (pc := 25) C fX10_47 (w0 hz) rfl dX10_costOf_25 ?_
  refine s_getR (pc := 28) C fX10_284 (w22 hz) rfl dX10_costOf_28 ?_
  refine g_il1n (pc := 31) C dX10_costOf_31 ?_
  refine s_ialdv (pc := 32) (q := a) (v := aA ν a 7) C (w32 hz) rfl (by omega) (Nat.le_of_ble_eq_true rfl) (hR.a9 (by omega)) dX10_costOf_32 ?_
  refine g_isub (pc := 33) C dX10_costOf_33 ?_
  refine g_il2n (pc := 34) C dX10_costOf_34 ?_
  refine g_isub (pc := 35) C dX10_costOf_35 ?_
  refine g_is4 (pc := 36) C dX10_costOf_36 ?_
  refine g_al0n (pc := 38) C dX10_costOf_38 ?_
  refine s_getR (pc := 39) C fX10_57 (w0 hz) rfl dX10_costOf_39 ?_
  refine g_iconst (pc := 42) (v := 1) C dX10_costOf_42 (by decide) ?_
  refine s_ialdv (pc := 43) (q := 1) (v := o2i (textU ν 1)) C (w36 hz) rfl (by omega) (Nat.le_of_ble_eq_true rfl) (hR.frc (u := 1) (by decide)) dX10_costOf_43 ?_
  cases ho44 : textU ν 1 with
  | none =>
    show G μ ω _ 44 _ (.int (-1) :: _) _ 0 0
    refine g_is5 (pc := 44) C dX10_costOf_44 ?_
    refine g_bipush (pc := 46) (v := 10) C dX10_costOf_46 (by decide) ?_
    refine g_il2n (pc := 48) C dX10_costOf_48 ?_
    refine g_imul (pc := 49) C dX10_costOf_49 ?_
    refine g_iconst (pc := 50) (v := 2) C dX10_costOf_50 (by decide) ?_
    refine g_il3n (pc := 51) C dX10_costOf_51 ?_
    refine g_imul (pc := 52) C dX10_costOf_52 ?_
    refine g_iadd (pc := 53) C dX10_costOf_53 ?_
    refine g_il4 (pc := 54) C dX10_costOf_54 ?_
    refine g_iadd (pc := 56) C dX10_costOf_56 ?_
    refine g_is6 (pc := 57) C dX10_costOf_57 ?_
    refine g_il5 (pc := 59) C dX10_costOf_59 ?_
    refine g_if_lt (pc := 61) (tgt := 91) C dX10_costOf_61 (by decide) (fun _ => ?_) (fun c => absurd c (by decide))
    refine g_iconst (pc := 91) (v := 0) C dX10_costOf_91 (by decide) ?_
    refine g_sipush (pc := 92) (v := 9999) C dX10_costOf_92 (by decide) ?_
    refine g_il6 (pc := 95) C dX10_costOf_95 ?_
    refine s_SI (pc := 97) (st := [(.int 0)]) C (c_min (d := d - 1) (by omega) σ 9999 (((10 * (spanA ν a)) + (2 * (aA ν a 4))) + (((ν 0) - (aA ν a 7)) - (spanA ν a)))) (by omega) lX10_292 dX10_costOf_97 rfl (Nat.le_of_ble_eq_true rfl) rfl ?_
    refine s_SI (pc := 100) (st := []) C (c_max (d := d - 1) (by omega) σ 0 (min32 9999 (((10 * (spanA ν a)) + (2 * (aA ν a 4))) + (((ν 0) - (aA ν a 7)) - (spanA ν a))))) (by omega) lX10_297 dX10_costOf_100 rfl (Nat.le_of_ble_eq_true rfl) rfl ?_
    exact r_P C hr dX10_costOf_103 ⟨by unfold costA; rw [ho44], Eqx.rf⟩
  | some t =>
    have hT := textU_lt ho44
    show G μ ω _ 44 _ (.int (nI t) :: _) _ 0 0
    refine g_is5 (pc := 44) C dX10_costOf_44 ?_
    refine g_bipush (pc := 46) (v := 10) C dX10_costOf_46 (by decide) ?_
    refine g_il2n (pc := 48) C dX10_costOf_48 ?_
    refine g_imul (pc := 49) C dX10_costOf_49 ?_
    refine g_iconst (pc := 50) (v := 2) C dX10_costOf_50 (by decide) ?_
    refine g_il3n (pc := 51) C dX10_costOf_51 ?_
    refine g_imul (pc := 52) C dX10_costOf_52 ?_
    refine g_iadd (pc := 53) C dX10_costOf_53 ?_
    refine g_il4 (pc := 54) C dX10_costOf_54 ?_
    refine g_iadd (pc := 56) C dX10_costOf_56 ?_
    refine g_is6 (pc := 57) C dX10_costOf_57 ?_
    refine g_il5 (pc := 59) C dX10_costOf_59 ?_
    refine g_if_lt (pc := 61) (tgt := 91) C dX10_costOf_61 (by decide) (fun c_61 => absurd c_61 (nI_pos (by omega))) (fun c_61 => ?_)
    refine g_al0n (pc := 64) C dX10_costOf_64 ?_
    refine s_getR (pc := 65) C fX10_73 (w0 hz) rfl dX10_costOf_65 ?_
    refine g_il5 (pc := 68) C dX10_costOf_68 ?_
    refine g_il3n (pc := 70) C dX10_costOf_70 ?_
    refine g_il4 (pc := 71) C dX10_costOf_71 ?_
    refine g_al0n (pc := 73) C dX10_costOf_73 ?_
    refine s_getR (pc := 74) C fX10_47 (w0 hz) rfl dX10_costOf_74 ?_
    refine s_getR (pc := 77) C fX10_121 (w22 hz) rfl dX10_costOf_77 ?_
    refine g_il1n (pc := 80) C dX10_costOf_80 ?_
    refine s_ialdv (pc := 81) (q := a) (v := aA ν a 3) C (w26 hz) rfl (by omega) (Nat.le_of_ble_eq_true rfl) (hR.a3 (by omega)) dX10_costOf_81 ?_
    refine g_al0n (pc := 82) C dX10_costOf_82 ?_
    refine s_getIv (pc := 83) (v := ν 1) C fX10_64 (w0 hz) rfl hR.wnd dX10_costOf_83 ?_
    refine s_VP (pc := 86) (st := []) C h1 rfl (c_value (d := d - 1) (by omega) σ (t := t) (by omega) (hR.t t hT) (aA ν a 4) (((ν 0) - (aA ν a 7)) - (spanA ν a)) (aA ν a 3) (ν 1)) (by omega) lX10_124 dX10_costOf_86 rfl (Nat.le_of_ble_eq_true rfl) rfl (fun v_86 τ2 hw_86 => ?_)
    obtain ⟨hv_86, hE2⟩ := hw_86
    refine g_is6 (pc := 89) C dX10_costOf_89 ?_
    refine g_iconst (pc := 91) (v := 0) C dX10_costOf_91 (by decide) ?_
    refine g_sipush (pc := 92) (v := 9999) C dX10_costOf_92 (by decide) ?_
    refine g_il6 (pc := 95) C dX10_costOf_95 ?_
    refine s_SI (pc := 97) (st := [(.int 0)]) C (c_min (d := d - 1) (by omega) τ2 9999 v_86) (by omega) lX10_292 dX10_costOf_97 rfl (Nat.le_of_ble_eq_true rfl) rfl ?_
    refine s_SI (pc := 100) (st := []) C (c_max (d := d - 1) (by omega) τ2 0 (min32 9999 v_86)) (by omega) lX10_297 dX10_costOf_100 rfl (Nat.le_of_ble_eq_true rfl) rfl ?_
    exact r_P C hr dX10_costOf_103 ⟨by unfold costA; rw [ho44]; dsimp only; unfold worth; rw [← hv_86], hE2⟩

