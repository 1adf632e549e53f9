/-! ===== the class: what a text is worth ===== -/
def VI (cs : Nu) (h m k w : Int32) (i q : Nat) (f : Nu) : Prop := depT cs i = some q ∧ PLs f (runT cs h m k w i) ∧ (runT cs h m k w i).length = q
section VIS
variable {cs : Nu} {h m k w : Int32} {i q : Nat} {f : Nu}
theorem VI_le (v : VI cs h m k w i q f) : q ≤ i := depT_le v.1
theorem VI_num (v : VI cs h m k w i q f) {j : Nat} (hj : j < 10000) (e : cs i = nI j) : VI cs h m k w (i + 1) (q + 1) (upd f q (nI j)) := by
  have h1 : ¬ 10000 ≤ cs i := by rw [e]; exact nI_ge (a := j) (b := 10000) hj (by decide)
  have hr : runT cs h m k w (i + 1) = nI j :: runT cs h m k w i := by rw [runT_s, stepT_num h1, e]
  refine ⟨depT_push v.1 (fun z => h1 (le100 z)), ?_, ?_⟩
  · rw [hr]; exact PLs_push v.2.1 v.2.2
  · rw [hr, List.length_cons, v.2.2]
theorem VI_name (v : VI cs h m k w i q f) {j : Nat} (hj : j < 4) (e : cs i = 10000 + nI j) {x : Int32} (hx : (if cs i = 10000 then h else if cs i = 10001 then m else if cs i = 10002 then k else w) = x) : VI cs h m k w (i + 1) (q + 1) (upd f q x) := by
  have e2 : cs i = nI (10000 + j) := by rw [e, show (10000 : Int32) = nI 10000 from rfl, nI_add]
  have h1 : 10000 ≤ cs i := by rw [e2]; exact nI_le (a := 10000) (by omega) (by omega)
  have h2 : ¬ 10100 ≤ cs i := by rw [e2]; exact nI_ge (b := 10100) (by omega) (by decide)
  have hr : runT cs h m k w (i + 1) = x :: runT cs h m k w i := by rw [runT_s, stepT_name h1 h2, hx]
  refine ⟨depT_push v.1 h2, ?_, ?_⟩
  · rw [hr]; exact PLs_push v.2.1 v.2.2
  · rw [hr, List.length_cons, v.2.2]
theorem VI_not (v : VI cs h m k w i q f) (e : cs i = 10107) (hx : ∃ p, depT cs (i + 1) = some p) : ∃ t, q = t + 1 ∧ VI cs h m k w (i + 1) (t + 1) (upd f t (if f t = 0 then 1 else 0)) := by
  have h1 : 10100 ≤ cs i := by rw [e]; decide
  obtain ⟨q1, q2⟩ := depT_not v.1 h1 e hx
  obtain ⟨x, r, hL⟩ : ∃ x r, runT cs h m k w i = x :: r := by
    cases hh : runT cs h m k w i with
    | nil => have := v.2.2; rw [hh] at this; simp at this; omega
    | cons x r => exact ⟨x, r, rfl⟩
  have hlen := v.2.2
  have hp := v.2.1
  rw [hL] at hlen hp
  rw [List.length_cons] at hlen
  have hr : runT cs h m k w (i + 1) = (if x = 0 then 1 else 0) :: r := by rw [runT_s, hL, stepT_not h1 e]
  refine ⟨r.length, hlen.symm, ?_, ?_, ?_⟩
  · rw [q2, hlen]
  · rw [hr, hp.1]; exact PLs_push hp.2 rfl
  · rw [hr, List.length_cons]
theorem VI_op (v : VI cs h m k w i q f) {c : Int32} (e : cs i = c) (h1 : 10100 ≤ c) (h3 : ¬ c = 10107) (hx : ∃ p, depT cs (i + 1) = some p) : ∃ t, q = t + 2 ∧ VI cs h m k w (i + 1) (t + 1) (upd f t (opK c (f t) (f (t + 1)))) := by
  subst e
  obtain ⟨q1, q2⟩ := depT_op v.1 h1 h3 hx
  obtain ⟨y, x, r, hL⟩ : ∃ y x r, runT cs h m k w i = y :: x :: r := by
    cases hh : runT cs h m k w i with
    | nil => have := v.2.2; rw [hh] at this; simp at this; omega
    | cons y r =>
      cases r with
      | nil => have := v.2.2; rw [hh] at this; simp at this; omega
      | cons x r => exact ⟨y, x, r, rfl⟩
  have hlen := v.2.2
  have hp := v.2.1
  rw [hL] at hlen hp
  rw [List.length_cons, List.length_cons] at hlen
  have hr : runT cs h m k w (i + 1) = opK (cs i) x y :: r := by rw [runT_s, hL, stepT_op h1 h3]
  refine ⟨r.length, by omega, ?_, ?_, ?_⟩
  · rw [q2]; congr 1; omega
  · rw [hr, hp.2.1, show f (r.length + 1) = y from hp.1]; exact PLs_push hp.2.2 rfl
  · rw [hr, List.length_cons]
end VIS
/-- a text of the shelf is the model's -/
def RT1 (σ : Sg) (cs : Nu) (len t : Nat) : Prop := len ≤ 100 ∧ σ 9 t = nI len ∧ (∀ k, k < len → okC (cs k) ∧ σ (3 + t) k = clC (cs k)) ∧ depT cs len = some 1
theorem clC_num {k : Nat} (hk : k < 10000) : clC (nI k) = nI k := if_pos (nI_lt (b := 10000) hk (by decide))
theorem lp_value0 {μ : Mx} {ω : Om} {d : Nat} (hd : 3 ≤ d) (C : Cx μ ω "TowField$Texts" cX8_value 8 d) (hr : (mH μ).sig.returnType = some .int) (σ : Sg) {cs : Nu} {len : Nat} (hT : RT1 σ cs len 0) (h m k w : Int32) : ∀ (f i : Nat) (q : Nat) (τ : Sg), i + f = len → (Eqx [10, 11] σ τ) → (τ 10 0 = h ∧ τ 10 1 = m ∧ τ 10 2 = k ∧ τ 10 3 = w) → (VI cs h m k w i q (τ 11)) → G μ ω (RQ μ ω (pP (fun v τ' => v = (runT cs h m k w len).headD 0 ∧ Eqx [10, 11] σ τ'))) 36 [some (.ref 1), some (.int 0), some (.int h), some (.int m), some (.int k), some (.int w), some (.int (nI q)), some (.int (nI i))] [] (mk τ) 0 0 := by
  intro f
  induction f with
  | zero =>
    intro i q τ hif hv hv1 hv2
    have hin : i = len := by omega
    have hl := hT.1
    refine g_il7 (pc := 36) C dX8_value_36 ?_
    refine g_al0n (pc := 38) C dX8_value_38 ?_
    refine s_getR (pc := 39) C fX8_16 h1 rfl dX8_value_39 ?_
    refine g_il1n (pc := 42) C dX8_value_42 ?_
    refine s_ialdv (pc := 43) (q := 0) (v := nI len) C h9 rfl (by omega) (Nat.le_of_ble_eq_true rfl) (by rw [hv 9 (by decide)]; exact hT.2.1) dX8_value_43 ?_
    refine g_icmp_geL (pc := 44) (tgt := 70) C dX8_value_44 (by decide) (fun c_44 => ?_) (fun c_44 => absurd c_44 (nI_nlt (by omega) (by omega)))
    refine g_al0n (pc := 70) C dX8_value_70 ?_
    refine s_getR (pc := 71) C fX8_23 h1 rfl dX8_value_71 ?_
    refine g_iconst (pc := 74) (v := 0) C dX8_value_74 (by decide) ?_
    refine s_iald (pc := 75) (q := 0) C h11 rfl (by omega) (Nat.le_of_ble_eq_true rfl) dX8_value_75 ?_
    subst hin
    have hq : q = 1 := Option.some.inj (hv2.1.symm.trans hT.2.2.2)
    subst hq
    obtain ⟨x, hL⟩ : ∃ x, runT cs h m k w i = [x] := List.length_eq_one_iff.mp hv2.2.2
    have hp := hv2.2.1
    rw [hL] at hp
    exact r_P C hr dX8_value_76 ⟨by rw [hL]; exact hp.1, hv⟩
  | succ f ih =>
    intro i q τ hif hv hv1 hv2
    have hl := hT.1
    obtain ⟨hn0, hn1, hn2, hn3⟩ := hv1
    have hqi := VI_le hv2
    refine g_il7 (pc := 36) C dX8_value_36 ?_
    refine g_al0n (pc := 38) C dX8_value_38 ?_
    refine s_getR (pc := 39) C fX8_16 h1 rfl dX8_value_39 ?_
    refine g_il1n (pc := 42) C dX8_value_42 ?_
    refine s_ialdv (pc := 43) (q := 0) (v := nI len) C h9 rfl (by omega) (Nat.le_of_ble_eq_true rfl) (by rw [hv 9 (by decide)]; exact hT.2.1) dX8_value_43 ?_
    refine g_icmp_geL (pc := 44) (tgt := 70) C dX8_value_44 (by decide) (fun c_44 => absurd (nI_lt (by omega) (by omega)) c_44) (fun c_44 => ?_)
    rcases (hT.2.2.1 i (by omega)).1 with ⟨j, hj, e⟩ | ⟨j, hj, e⟩ | ⟨j, hj, e⟩
    · refine g_al0n (pc := 47) C dX8_value_47 ?_
      refine g_al0n (pc := 48) C dX8_value_48 ?_
      refine s_getR (pc := 49) C fX8_13 h1 rfl dX8_value_49 ?_
      refine g_il1n (pc := 52) C dX8_value_52 ?_
      refine s_aald (pc := 53) (q := 0) C h2 (by decide) rfl rfl (by decide) dX8_value_53 ?_
      refine g_il7 (pc := 54) C dX8_value_54 ?_
      refine s_ialdv (pc := 56) (q := i) (v := nI j) C h3 rfl (by omega) (Nat.le_of_ble_eq_true rfl) (by rw [hv 3 (by decide)]; exact ((hT.2.2.1 i (by omega)).2).trans (by rw [e]; exact clC_num hj)) dX8_value_56 ?_
      refine g_il6 (pc := 57) C dX8_value_57 ?_
      refine s_VI (pc := 59) (st := []) C h1 rfl (c_stepN (d := d - 1) (by omega) τ (k := j) hj (t := q) (by omega)) (by omega) lX8_32 dX8_value_59 rfl (Nat.le_of_ble_eq_true rfl) rfl ?_
      refine g_is6 (pc := 62) C dX8_value_62 ?_
      refine g_ii7 (pc := 64) (v := nI (i + 1)) C dX8_value_64 (nI_inc1 _) ?_
      refine g_goto (pc := 67) (tgt := 36) C dX8_value_67 (by decide) ?_
      exact ih (i + 1) _ _ (by omega) (hv.tr (Eqx.up (by decide))) ⟨hn0, hn1, hn2, hn3⟩ (VI_num hv2 hj e)
    · rcases (show j = 0 ∨ j = 1 ∨ j = 2 ∨ j = 3 by omega) with rfl | rfl | rfl | rfl
      · refine g_al0n (pc := 47) C dX8_value_47 ?_
        refine g_al0n (pc := 48) C dX8_value_48 ?_
        refine s_getR (pc := 49) C fX8_13 h1 rfl dX8_value_49 ?_
        refine g_il1n (pc := 52) C dX8_value_52 ?_
        refine s_aald (pc := 53) (q := 0) C h2 (by decide) rfl rfl (by decide) dX8_value_53 ?_
        refine g_il7 (pc := 54) C dX8_value_54 ?_
        refine s_ialdv (pc := 56) (q := i) (v := (-1)) C h3 rfl (by omega) (Nat.le_of_ble_eq_true rfl) (by rw [hv 3 (by decide)]; exact ((hT.2.2.1 i (by omega)).2).trans (by rw [e]; decide)) dX8_value_56 ?_
        refine g_il6 (pc := 57) C dX8_value_57 ?_
        refine s_VI (pc := 59) (st := []) C h1 rfl (c_stepV0 (d := d - 1) (by omega) τ (t := q) (by omega)) (by omega) lX8_32 dX8_value_59 rfl (Nat.le_of_ble_eq_true rfl) rfl ?_
        refine g_is6 (pc := 62) C dX8_value_62 ?_
        refine g_ii7 (pc := 64) (v := nI (i + 1)) C dX8_value_64 (nI_inc1 _) ?_
        refine g_goto (pc := 67) (tgt := 36) C dX8_value_67 (by decide) ?_
        exact ih (i + 1) _ _ (by omega) (hv.tr (Eqx.up (by decide))) ⟨hn0, hn1, hn2, hn3⟩ (VI_name hv2 hj e (by rw [e]; exact hn0.symm))
      · refine g_al0n (pc := 47) C dX8_value_47 ?_
        refine g_al0n (pc := 48) C dX8_value_48 ?_
        refine s_getR (pc := 49) C fX8_13 h1 rfl dX8_value_49 ?_
        refine g_il1n (pc := 52) C dX8_value_52 ?_
        refine s_aald (pc := 53) (q := 0) C h2 (by decide) rfl rfl (by decide) dX8_value_53 ?_
        refine g_il7 (pc := 54) C dX8_value_54 ?_
        refine s_ialdv (pc := 56) (q := i) (v := (-2)) C h3 rfl (by omega) (Nat.le_of_ble_eq_true rfl) (by rw [hv 3 (by decide)]; exact ((hT.2.2.1 i (by omega)).2).trans (by rw [e]; decide)) dX8_value_56 ?_
        refine g_il6 (pc := 57) C dX8_value_57 ?_
        refine s_VI (pc := 59) (st := []) C h1 rfl (c_stepV1 (d := d - 1) (by omega) τ (t := q) (by omega)) (by omega) lX8_32 dX8_value_59 rfl (Nat.le_of_ble_eq_true rfl) rfl ?_
        refine g_is6 (pc := 62) C dX8_value_62 ?_
        refine g_ii7 (pc := 64) (v := nI (i + 1)) C dX8_value_64 (nI_inc1 _) ?_
        refine g_goto (pc := 67) (tgt := 36) C dX8_value_67 (by decide) ?_
        exact ih (i + 1) _ _ (by omega) (hv.tr (Eqx.up (by decide))) ⟨hn0, hn1, hn2, hn3⟩ (VI_name hv2 hj e (by rw [e]; exact hn1.symm))
      · refine g_al0n (pc := 47) C dX8_value_47 ?_
        refine g_al0n (pc := 48) C dX8_value_48 ?_
        refine s_getR (pc := 49) C fX8_13 h1 rfl dX8_value_49 ?_
        refine g_il1n (pc := 52) C dX8_value_52 ?_
        refine s_aald (pc := 53) (q := 0) C h2 (by decide) rfl rfl (by decide) dX8_value_53 ?_
        refine g_il7 (pc := 54) C dX8_value_54 ?_
        refine s_ialdv (pc := 56) (q := i) (v := (-3)) C h3 rfl (by omega) (Nat.le_of_ble_eq_true rfl) (by rw [hv 3 (by decide)]; exact ((hT.2.2.1 i (by omega)).2).trans (by rw [e]; decide)) dX8_value_56 ?_
        refine g_il6 (pc := 57) C dX8_value_57 ?_
        refine s_VI (pc := 59) (st := []) C h1 rfl (c_stepV2 (d := d - 1) (by omega) τ (t := q) (by omega)) (by omega) lX8_32 dX8_value_59 rfl (Nat.le_of_ble_eq_true rfl) rfl ?_
        refine g_is6 (pc := 62) C dX8_value_62 ?_
        refine g_ii7 (pc := 64) (v := nI (i + 1)) C dX8_value_64 (nI_inc1 _) ?_
        refine g_goto (pc := 67) (tgt := 36) C dX8_value_67 (by decide) ?_
        exact ih (i + 1) _ _ (by omega) (hv.tr (Eqx.up (by decide))) ⟨hn0, hn1, hn2, hn3⟩ (VI_name hv2 hj e (by rw [e]; exact hn2.symm))
      · refine g_al0n (pc := 47) C dX8_value_47 ?_
        refine g_al0n (pc := 48) C dX8_value_48 ?_
        refine s_getR (pc := 49) C fX8_13 h1 rfl dX8_value_49 ?_
        refine g_il1n (pc := 52) C dX8_value_52 ?_
        refine s_aald (pc := 53) (q := 0) C h2 (by decide) rfl rfl (by decide) dX8_value_53 ?_
        refine g_il7 (pc := 54) C dX8_value_54 ?_
        refine s_ialdv (pc := 56) (q := i) (v := (-4)) C h3 rfl (by omega) (Nat.le_of_ble_eq_true rfl) (by rw [hv 3 (by decide)]; exact ((hT.2.2.1 i (by omega)).2).trans (by rw [e]; decide)) dX8_value_56 ?_
        refine g_il6 (pc := 57) C dX8_value_57 ?_
        refine s_VI (pc := 59) (st := []) C h1 rfl (c_stepV3 (d := d - 1) (by omega) τ (t := q) (by omega)) (by omega) lX8_32 dX8_value_59 rfl (Nat.le_of_ble_eq_true rfl) rfl ?_
        refine g_is6 (pc := 62) C dX8_value_62 ?_
        refine g_ii7 (pc := 64) (v := nI (i + 1)) C dX8_value_64 (nI_inc1 _) ?_
        refine g_goto (pc := 67) (tgt := 36) C dX8_value_67 (by decide) ?_
        exact ih (i + 1) _ _ (by omega) (hv.tr (Eqx.up (by decide))) ⟨hn0, hn1, hn2, hn3⟩ (VI_name hv2 hj e (by rw [e]; exact hn3.symm))
    · rcases (show j = 0 ∨ j = 1 ∨ j = 2 ∨ j = 3 ∨ j = 4 ∨ j = 5 ∨ j = 6 ∨ j = 7 ∨ j = 8 ∨ j = 9 by omega) with rfl | rfl | rfl | rfl | rfl | rfl | rfl | rfl | rfl | rfl
      · replace e : cs i = 10100 := e.trans (by decide)
        obtain ⟨u, rfl, hV⟩ := VI_op hv2 e (by decide) (by decide) (depT_back hT.2.2.2 (i + 1) (by omega))
        refine g_al0n (pc := 47) C dX8_value_47 ?_
        refine g_al0n (pc := 48) C dX8_value_48 ?_
        refine s_getR (pc := 49) C fX8_13 h1 rfl dX8_value_49 ?_
        refine g_il1n (pc := 52) C dX8_value_52 ?_
        refine s_aald (pc := 53) (q := 0) C h2 (by decide) rfl rfl (by decide) dX8_value_53 ?_
        refine g_il7 (pc := 54) C dX8_value_54 ?_
        refine s_ialdv (pc := 56) (q := i) (v := (-143)) C h3 rfl (by omega) (Nat.le_of_ble_eq_true rfl) (by rw [hv 3 (by decide)]; exact ((hT.2.2.1 i (by omega)).2).trans (by rw [e]; decide)) dX8_value_56 ?_
        refine g_il6 (pc := 57) C dX8_value_57 ?_
        refine s_VI (pc := 59) (st := []) C h1 rfl (c_step10100 (d := d - 1) (by omega) τ (t := u) (by omega)) (by omega) lX8_32 dX8_value_59 rfl (Nat.le_of_ble_eq_true rfl) rfl ?_
        refine g_is6 (pc := 62) C dX8_value_62 ?_
        refine g_ii7 (pc := 64) (v := nI (i + 1)) C dX8_value_64 (nI_inc1 _) ?_
        refine g_goto (pc := 67) (tgt := 36) C dX8_value_67 (by decide) ?_
        exact ih (i + 1) _ _ (by omega) (hv.tr (Eqx.up (by decide))) ⟨hn0, hn1, hn2, hn3⟩ hV
      · replace e : cs i = 10101 := e.trans (by decide)
        obtain ⟨u, rfl, hV⟩ := VI_op hv2 e (by decide) (by decide) (depT_back hT.2.2.2 (i + 1) (by omega))
        refine g_al0n (pc := 47) C dX8_value_47 ?_
        refine g_al0n (pc := 48) C dX8_value_48 ?_
        refine s_getR (pc := 49) C fX8_13 h1 rfl dX8_value_49 ?_
        refine g_il1n (pc := 52) C dX8_value_52 ?_
        refine s_aald (pc := 53) (q := 0) C h2 (by decide) rfl rfl (by decide) dX8_value_53 ?_
        refine g_il7 (pc := 54) C dX8_value_54 ?_
        refine s_ialdv (pc := 56) (q := i) (v := (-145)) C h3 rfl (by omega) (Nat.le_of_ble_eq_true rfl) (by rw [hv 3 (by decide)]; exact ((hT.2.2.1 i (by omega)).2).trans (by rw [e]; decide)) dX8_value_56 ?_
        refine g_il6 (pc := 57) C dX8_value_57 ?_
        refine s_VI (pc := 59) (st := []) C h1 rfl (c_step10101 (d := d - 1) (by omega) τ (t := u) (by omega)) (by omega) lX8_32 dX8_value_59 rfl (Nat.le_of_ble_eq_true rfl) rfl ?_
        refine g_is6 (pc := 62) C dX8_value_62 ?_
        refine g_ii7 (pc := 64) (v := nI (i + 1)) C dX8_value_64 (nI_inc1 _) ?_
        refine g_goto (pc := 67) (tgt := 36) C dX8_value_67 (by decide) ?_
        exact ih (i + 1) _ _ (by omega) (hv.tr (Eqx.up (by decide))) ⟨hn0, hn1, hn2, hn3⟩ hV
      · replace e : cs i = 10102 := e.trans (by decide)
        obtain ⟨u, rfl, hV⟩ := VI_op hv2 e (by decide) (by decide) (depT_back hT.2.2.2 (i + 1) (by omega))
        refine g_al0n (pc := 47) C dX8_value_47 ?_
        refine g_al0n (pc := 48) C dX8_value_48 ?_
        refine s_getR (pc := 49) C fX8_13 h1 rfl dX8_value_49 ?_
        refine g_il1n (pc := 52) C dX8_value_52 ?_
        refine s_aald (pc := 53) (q := 0) C h2 (by decide) rfl rfl (by decide) dX8_value_53 ?_
        refine g_il7 (pc := 54) C dX8_value_54 ?_
        refine s_ialdv (pc := 56) (q := i) (v := (-160)) C h3 rfl (by omega) (Nat.le_of_ble_eq_true rfl) (by rw [hv 3 (by decide)]; exact ((hT.2.2.1 i (by omega)).2).trans (by rw [e]; decide)) dX8_value_56 ?_
        refine g_il6 (pc := 57) C dX8_value_57 ?_
        refine s_VI (pc := 59) (st := []) C h1 rfl (c_step10102 (d := d - 1) (by omega) τ (t := u) (by omega)) (by omega) lX8_32 dX8_value_59 rfl (Nat.le_of_ble_eq_true rfl) rfl ?_
        refine g_is6 (pc := 62) C dX8_value_62 ?_
        refine g_ii7 (pc := 64) (v := nI (i + 1)) C dX8_value_64 (nI_inc1 _) ?_
        refine g_goto (pc := 67) (tgt := 36) C dX8_value_67 (by decide) ?_
        exact ih (i + 1) _ _ (by omega) (hv.tr (Eqx.up (by decide))) ⟨hn0, hn1, hn2, hn3⟩ hV
      · replace e : cs i = 10103 := e.trans (by decide)
        obtain ⟨u, rfl, hV⟩ := VI_op hv2 e (by decide) (by decide) (depT_back hT.2.2.2 (i + 1) (by omega))
        refine g_al0n (pc := 47) C dX8_value_47 ?_
        refine g_al0n (pc := 48) C dX8_value_48 ?_
        refine s_getR (pc := 49) C fX8_13 h1 rfl dX8_value_49 ?_
        refine g_il1n (pc := 52) C dX8_value_52 ?_
        refine s_aald (pc := 53) (q := 0) C h2 (by decide) rfl rfl (by decide) dX8_value_53 ?_
        refine g_il7 (pc := 54) C dX8_value_54 ?_
        refine s_ialdv (pc := 56) (q := i) (v := (-161)) C h3 rfl (by omega) (Nat.le_of_ble_eq_true rfl) (by rw [hv 3 (by decide)]; exact ((hT.2.2.1 i (by omega)).2).trans (by rw [e]; decide)) dX8_value_56 ?_
        refine g_il6 (pc := 57) C dX8_value_57 ?_
        refine s_VI (pc := 59) (st := []) C h1 rfl (c_step10103 (d := d - 1) (by omega) τ (t := u) (by omega)) (by omega) lX8_32 dX8_value_59 rfl (Nat.le_of_ble_eq_true rfl) rfl ?_
        refine g_is6 (pc := 62) C dX8_value_62 ?_
        refine g_ii7 (pc := 64) (v := nI (i + 1)) C dX8_value_64 (nI_inc1 _) ?_
        refine g_goto (pc := 67) (tgt := 36) C dX8_value_67 (by decide) ?_
        exact ih (i + 1) _ _ (by omega) (hv.tr (Eqx.up (by decide))) ⟨hn0, hn1, hn2, hn3⟩ hV
      · replace e : cs i = 10104 := e.trans (by decide)
        obtain ⟨u, rfl, hV⟩ := VI_op hv2 e (by decide) (by decide) (depT_back hT.2.2.2 (i + 1) (by omega))
        refine g_al0n (pc := 47) C dX8_value_47 ?_
        refine g_al0n (pc := 48) C dX8_value_48 ?_
        refine s_getR (pc := 49) C fX8_13 h1 rfl dX8_value_49 ?_
        refine g_il1n (pc := 52) C dX8_value_52 ?_
        refine s_aald (pc := 53) (q := 0) C h2 (by decide) rfl rfl (by decide) dX8_value_53 ?_
        refine g_il7 (pc := 54) C dX8_value_54 ?_
        refine s_ialdv (pc := 56) (q := i) (v := (-162)) C h3 rfl (by omega) (Nat.le_of_ble_eq_true rfl) (by rw [hv 3 (by decide)]; exact ((hT.2.2.1 i (by omega)).2).trans (by rw [e]; decide)) dX8_value_56 ?_
        refine g_il6 (pc := 57) C dX8_value_57 ?_
        refine s_VI (pc := 59) (st := []) C h1 rfl (c_step10104 (d := d - 1) (by omega) τ (t := u) (by omega)) (by omega) lX8_32 dX8_value_59 rfl (Nat.le_of_ble_eq_true rfl) rfl ?_
        refine g_is6 (pc := 62) C dX8_value_62 ?_
        refine g_ii7 (pc := 64) (v := nI (i + 1)) C dX8_value_64 (nI_inc1 _) ?_
        refine g_goto (pc := 67) (tgt := 36) C dX8_value_67 (by decide) ?_
        exact ih (i + 1) _ _ (by omega) (hv.tr (Eqx.up (by decide))) ⟨hn0, hn1, hn2, hn3⟩ hV
      · replace e : cs i = 10105 := e.trans (by decide)
        obtain ⟨u, rfl, hV⟩ := VI_op hv2 e (by decide) (by decide) (depT_back hT.2.2.2 (i + 1) (by omega))
        refine g_al0n (pc := 47) C dX8_value_47 ?_
        refine g_al0n (pc := 48) C dX8_value_48 ?_
        refine s_getR (pc := 49) C fX8_13 h1 rfl dX8_value_49 ?_
        refine g_il1n (pc := 52) C dX8_value_52 ?_
        refine s_aald (pc := 53) (q := 0) C h2 (by decide) rfl rfl (by decide) dX8_value_53 ?_
        refine g_il7 (pc := 54) C dX8_value_54 ?_
        refine s_ialdv (pc := 56) (q := i) (v := (-138)) C h3 rfl (by omega) (Nat.le_of_ble_eq_true rfl) (by rw [hv 3 (by decide)]; exact ((hT.2.2.1 i (by omega)).2).trans (by rw [e]; decide)) dX8_value_56 ?_
        refine g_il6 (pc := 57) C dX8_value_57 ?_
        refine s_VI (pc := 59) (st := []) C h1 rfl (c_step10105 (d := d - 1) (by omega) τ (t := u) (by omega)) (by omega) lX8_32 dX8_value_59 rfl (Nat.le_of_ble_eq_true rfl) rfl ?_
        refine g_is6 (pc := 62) C dX8_value_62 ?_
        refine g_ii7 (pc := 64) (v := nI (i + 1)) C dX8_value_64 (nI_inc1 _) ?_
        refine g_goto (pc := 67) (tgt := 36) C dX8_value_67 (by decide) ?_
        exact ih (i + 1) _ _ (by omega) (hv.tr (Eqx.up (by decide))) ⟨hn0, hn1, hn2, hn3⟩ hV
      · replace e : cs i = 10106 := e.trans (by decide)
        obtain ⟨u, rfl, hV⟩ := VI_op hv2 e (by decide) (by decide) (depT_back hT.2.2.2 (i + 1) (by omega))
        refine g_al0n (pc := 47) C dX8_value_47 ?_
        refine g_al0n (pc := 48) C dX8_value_48 ?_
        refine s_getR (pc := 49) C fX8_13 h1 rfl dX8_value_49 ?_
        refine g_il1n (pc := 52) C dX8_value_52 ?_
        refine s_aald (pc := 53) (q := 0) C h2 (by decide) rfl rfl (by decide) dX8_value_53 ?_
        refine g_il7 (pc := 54) C dX8_value_54 ?_
        refine s_ialdv (pc := 56) (q := i) (v := (-224)) C h3 rfl (by omega) (Nat.le_of_ble_eq_true rfl) (by rw [hv 3 (by decide)]; exact ((hT.2.2.1 i (by omega)).2).trans (by rw [e]; decide)) dX8_value_56 ?_
        refine g_il6 (pc := 57) C dX8_value_57 ?_
        refine s_VI (pc := 59) (st := []) C h1 rfl (c_step10106 (d := d - 1) (by omega) τ (t := u) (by omega)) (by omega) lX8_32 dX8_value_59 rfl (Nat.le_of_ble_eq_true rfl) rfl ?_
        refine g_is6 (pc := 62) C dX8_value_62 ?_
        refine g_ii7 (pc := 64) (v := nI (i + 1)) C dX8_value_64 (nI_inc1 _) ?_
        refine g_goto (pc := 67) (tgt := 36) C dX8_value_67 (by decide) ?_
        exact ih (i + 1) _ _ (by omega) (hv.tr (Eqx.up (by decide))) ⟨hn0, hn1, hn2, hn3⟩ hV
      · replace e : cs i = 10107 := e.trans (by decide)
        obtain ⟨u, rfl, hV⟩ := VI_not hv2 e (depT_back hT.2.2.2 (i + 1) (by omega))
        refine g_al0n (pc := 47) C dX8_value_47 ?_
        refine g_al0n (pc := 48) C dX8_value_48 ?_
        refine s_getR (pc := 49) C fX8_13 h1 rfl dX8_value_49 ?_
        refine g_il1n (pc := 52) C dX8_value_52 ?_
        refine s_aald (pc := 53) (q := 0) C h2 (by decide) rfl rfl (by decide) dX8_value_53 ?_
        refine g_il7 (pc := 54) C dX8_value_54 ?_
        refine s_ialdv (pc := 56) (q := i) (v := (-133)) C h3 rfl (by omega) (Nat.le_of_ble_eq_true rfl) (by rw [hv 3 (by decide)]; exact ((hT.2.2.1 i (by omega)).2).trans (by rw [e]; decide)) dX8_value_56 ?_
        refine g_il6 (pc := 57) C dX8_value_57 ?_
        refine s_VI (pc := 59) (st := []) C h1 rfl (c_step10107 (d := d - 1) (by omega) τ (t := u) (by omega)) (by omega) lX8_32 dX8_value_59 rfl (Nat.le_of_ble_eq_true rfl) rfl ?_
        refine g_is6 (pc := 62) C dX8_value_62 ?_
        refine g_ii7 (pc := 64) (v := nI (i + 1)) C dX8_value_64 (nI_inc1 _) ?_
        refine g_goto (pc := 67) (tgt := 36) C dX8_value_67 (by decide) ?_
        exact ih (i + 1) _ _ (by omega) (hv.tr (Eqx.up (by decide))) ⟨hn0, hn1, hn2, hn3⟩ hV
      · replace e : cs i = 10108 := e.trans (by decide)
        obtain ⟨u, rfl, hV⟩ := VI_op hv2 e (by decide) (by decide) (depT_back hT.2.2.2 (i + 1) (by omega))
        refine g_al0n (pc := 47) C dX8_value_47 ?_
        refine g_al0n (pc := 48) C dX8_value_48 ?_
        refine s_getR (pc := 49) C fX8_13 h1 rfl dX8_value_49 ?_
        refine g_il1n (pc := 52) C dX8_value_52 ?_
        refine s_aald (pc := 53) (q := 0) C h2 (by decide) rfl rfl (by decide) dX8_value_53 ?_
        refine g_il7 (pc := 54) C dX8_value_54 ?_
        refine s_ialdv (pc := 56) (q := i) (v := (-142)) C h3 rfl (by omega) (Nat.le_of_ble_eq_true rfl) (by rw [hv 3 (by decide)]; exact ((hT.2.2.1 i (by omega)).2).trans (by rw [e]; decide)) dX8_value_56 ?_
        refine g_il6 (pc := 57) C dX8_value_57 ?_
        refine s_VI (pc := 59) (st := []) C h1 rfl (c_step10108 (d := d - 1) (by omega) τ (t := u) (by omega)) (by omega) lX8_32 dX8_value_59 rfl (Nat.le_of_ble_eq_true rfl) rfl ?_
        refine g_is6 (pc := 62) C dX8_value_62 ?_
        refine g_ii7 (pc := 64) (v := nI (i + 1)) C dX8_value_64 (nI_inc1 _) ?_
        refine g_goto (pc := 67) (tgt := 36) C dX8_value_67 (by decide) ?_
        exact ih (i + 1) _ _ (by omega) (hv.tr (Eqx.up (by decide))) ⟨hn0, hn1, hn2, hn3⟩ hV
      · replace e : cs i = 10109 := e.trans (by decide)
        obtain ⟨u, rfl, hV⟩ := VI_op hv2 e (by decide) (by decide) (depT_back hT.2.2.2 (i + 1) (by omega))
        refine g_al0n (pc := 47) C dX8_value_47 ?_
        refine g_al0n (pc := 48) C dX8_value_48 ?_
        refine s_getR (pc := 49) C fX8_13 h1 rfl dX8_value_49 ?_
        refine g_il1n (pc := 52) C dX8_value_52 ?_
        refine s_aald (pc := 53) (q := 0) C h2 (by decide) rfl rfl (by decide) dX8_value_53 ?_
        refine g_il7 (pc := 54) C dX8_value_54 ?_
        refine s_ialdv (pc := 56) (q := i) (v := (-147)) C h3 rfl (by omega) (Nat.le_of_ble_eq_true rfl) (by rw [hv 3 (by decide)]; exact ((hT.2.2.1 i (by omega)).2).trans (by rw [e]; decide)) dX8_value_56 ?_
        refine g_il6 (pc := 57) C dX8_value_57 ?_
        refine s_VI (pc := 59) (st := []) C h1 rfl (c_step10109 (d := d - 1) (by omega) τ (t := u) (by omega)) (by omega) lX8_32 dX8_value_59 rfl (Nat.le_of_ble_eq_true rfl) rfl ?_
        refine g_is6 (pc := 62) C dX8_value_62 ?_
        refine g_ii7 (pc := 64) (v := nI (i + 1)) C dX8_value_64 (nI_inc1 _) ?_
        refine g_goto (pc := 67) (tgt := 36) C dX8_value_67 (by decide) ?_
        exact ih (i + 1) _ _ (by omega) (hv.tr (Eqx.up (by decide))) ⟨hn0, hn1, hn2, hn3⟩ hV

theorem c_value0 {d : Nat} (hd : 3 ≤ d) (σ : Sg) {cs : Nu} {len : Nat} (hT : RT1 σ cs len 0) (h m k w : Int32) : CP d mX8_value [.ref 1, .int 0, .int h, .int m, .int k, .int w] σ (fun v τ' => v = (runT cs h m k w len).headD 0 ∧ Eqx [10, 11] σ τ') := by
  refine con_of (by decide) (catL rfl) (Nat.le_of_ble_eq_true rfl) ?_
  intro μ ω C hr
  have C : Cx μ ω "TowField$Texts" cX8_value 8 d := C
  have hr : (mH μ).sig.returnType = some .int := hr
  show G μ ω (RQ μ ω (pP (fun v τ' => v = (runT cs h m k w len).headD 0 ∧ Eqx [10, 11] σ τ'))) 0 [some (.ref 1), some (.int 0), some (.int h), some (.int m), some (.int k), some (.int w), none, none] [] (mk σ) 0 0
  refine g_al0n (pc := 0) C dX8_value_0 ?_
  refine s_getR (pc := 1) C fX8_20 h1 rfl dX8_value_1 ?_
  refine g_iconst (pc := 4) (v := 0) C dX8_value_4 (by decide) ?_
  refine g_il2n (pc := 5) C dX8_value_5 ?_
  refine s_iast (pc := 6) (q := 0) C h10 rfl (by omega) (Nat.le_of_ble_eq_true rfl) dX8_value_6 ?_
  refine g_al0n (pc := 7) C dX8_value_7 ?_
  refine s_getR (pc := 8) C fX8_20 h1 rfl dX8_value_8 ?_
  refine g_iconst (pc := 11) (v := 1) C dX8_value_11 (by decide) ?_
  refine g_il3n (pc := 12) C dX8_value_12 ?_
  refine s_iast (pc := 13) (q := 1) C h10 rfl (by omega) (Nat.le_of_ble_eq_true rfl) dX8_value_13 ?_
  refine g_al0n (pc := 14) C dX8_value_14 ?_
  refine s_getR (pc := 15) C fX8_20 h1 rfl dX8_value_15 ?_
  refine g_iconst (pc := 18) (v := 2) C dX8_value_18 (by decide) ?_
  refine g_il4 (pc := 19) C dX8_value_19 ?_
  refine s_iast (pc := 21) (q := 2) C h10 rfl (by omega) (Nat.le_of_ble_eq_true rfl) dX8_value_21 ?_
  refine g_al0n (pc := 22) C dX8_value_22 ?_
  refine s_getR (pc := 23) C fX8_20 h1 rfl dX8_value_23 ?_
  refine g_iconst (pc := 26) (v := 3) C dX8_value_26 (by decide) ?_
  refine g_il5 (pc := 27) C dX8_value_27 ?_
  refine s_iast (pc := 29) (q := 3) C h10 rfl (by omega) (Nat.le_of_ble_eq_true rfl) dX8_value_29 ?_
  refine g_iconst (pc := 30) (v := 0) C dX8_value_30 (by decide) ?_
  refine g_is6 (pc := 31) C dX8_value_31 ?_
  refine g_iconst (pc := 33) (v := 0) C dX8_value_33 (by decide) ?_
  refine g_is7 (pc := 34) C dX8_value_34 ?_
  exact lp_value0 hd C hr σ hT h m k w len 0 0 _ (by omega) (fun z hz => by simp at hz; simp only [up_ne _ _ _ hz.1]) ⟨rfl, rfl, rfl, rfl⟩ ⟨rfl, trivial, rfl⟩

theorem lp_value1 {μ : Mx} {ω : Om} {d : Nat} (hd : 3 ≤ d) (C : Cx μ ω "TowField$Texts" cX8_value 8 d) (hr : (mH μ).sig.returnType = some .int) (σ : Sg) {cs : Nu} {len : Nat} (hT : RT1 σ cs len 1) (h m k w : Int32) : ∀ (f i : Nat) (q : Nat) (τ : Sg), i + f = len → (Eqx [10, 11] σ τ) → (τ 10 0 = h ∧ τ 10 1 = m ∧ τ 10 2 = k ∧ τ 10 3 = w) → (VI cs h m k w i q (τ 11)) → G μ ω (RQ μ ω (pP (fun v τ' => v = (runT cs h m k w len).headD 0 ∧ Eqx [10, 11] σ τ'))) 36 [some (.ref 1), some (.int 1), some (.int h), some (.int m), some (.int k), some (.int w), some (.int (nI q)), some (.int (nI i))] [] (mk τ) 0 0 := by
  intro f
  induction f with
  | zero =>
    intro i q τ hif hv hv1 hv2
    have hin : i = len := by omega
    have hl := hT.1
    refine g_il7 (pc := 36) C dX8_value_36 ?_
    refine g_al0n (pc := 38) C dX8_value_38 ?_
    refine s_getR (pc := 39) C fX8_16 h1 rfl dX8_value_39 ?_
    refine g_il1n (pc := 42) C dX8_value_42 ?_
    refine s_ialdv (pc := 43) (q := 1) (v := nI len) C h9 rfl (by omega) (Nat.le_of_ble_eq_true rfl) (by rw [hv 9 (by decide)]; exact hT.2.1) dX8_value_43 ?_
    refine g_icmp_geL (pc := 44) (tgt := 70) C dX8_value_44 (by decide) (fun c_44 => ?_) (fun c_44 => absurd c_44 (nI_nlt (by omega) (by omega)))
    refine g_al0n (pc := 70) C dX8_value_70 ?_
    refine s_getR (pc := 71) C fX8_23 h1 rfl dX8_value_71 ?_
    refine g_iconst (pc := 74) (v := 0) C dX8_value_74 (by decide) ?_
    refine s_iald (pc := 75) (q := 0) C h11 rfl (by omega) (Nat.le_of_ble_eq_true rfl) dX8_value_75 ?_
    subst hin
    have hq : q = 1 := Option.some.inj (hv2.1.symm.trans hT.2.2.2)
    subst hq
    obtain ⟨x, hL⟩ : ∃ x, runT cs h m k w i = [x] := List.length_eq_one_iff.mp hv2.2.2
    have hp := hv2.2.1
    rw [hL] at hp
    exact r_P C hr dX8_value_76 ⟨by rw [hL]; exact hp.1, hv⟩
  | succ f ih =>
    intro i q τ hif hv hv1 hv2
    have hl := hT.1
    obtain ⟨hn0, hn1, hn2, hn3⟩ := hv1
    have hqi := VI_le hv2
    refine g_il7 (pc := 36) C dX8_value_36 ?_
    refine g_al0n (pc := 38) C dX8_value_38 ?_
    refine s_getR (pc := 39) C fX8_16 h1 rfl dX8_value_39 ?_
    refine g_il1n (pc := 42) C dX8_value_42 ?_
    refine s_ialdv (pc := 43) (q := 1) (v := nI len) C h9 rfl (by omega) (Nat.le_of_ble_eq_true rfl) (by rw [hv 9 (by decide)]; exact hT.2.1) dX8_value_43 ?_
    refine g_icmp_geL (pc := 44) (tgt := 70) C dX8_value_44 (by decide) (fun c_44 => absurd (nI_lt (by omega) (by omega)) c_44) (fun c_44 => ?_)
    rcases (hT.2.2.1 i (by omega)).1 with ⟨j, hj, e⟩ | ⟨j, hj, e⟩ | ⟨j, hj, e⟩
    · refine g_al0n (pc := 47) C dX8_value_47 ?_
      refine g_al0n (pc := 48) C dX8_value_48 ?_
      refine s_getR (pc := 49) C fX8_13 h1 rfl dX8_value_49 ?_
      refine g_il1n (pc := 52) C dX8_value_52 ?_
      refine s_aald (pc := 53) (q := 1) C h2 (by decide) rfl rfl (by decide) dX8_value_53 ?_
      refine g_il7 (pc := 54) C dX8_value_54 ?_
      refine s_ialdv (pc := 56) (q := i) (v := nI j) C h4 rfl (by omega) (Nat.le_of_ble_eq_true rfl) (by rw [hv 4 (by decide)]; exact ((hT.2.2.1 i (by omega)).2).trans (by rw [e]; exact clC_num hj)) dX8_value_56 ?_
      refine g_il6 (pc := 57) C dX8_value_57 ?_
      refine s_VI (pc := 59) (st := []) C h1 rfl (c_stepN (d := d - 1) (by omega) τ (k := j) hj (t := q) (by omega)) (by omega) lX8_32 dX8_value_59 rfl (Nat.le_of_ble_eq_true rfl) rfl ?_
      refine g_is6 (pc := 62) C dX8_value_62 ?_
      refine g_ii7 (pc := 64) (v := nI (i + 1)) C dX8_value_64 (nI_inc1 _) ?_
      refine g_goto (pc := 67) (tgt := 36) C dX8_value_67 (by decide) ?_
      exact ih (i + 1) _ _ (by omega) (hv.tr (Eqx.up (by decide))) ⟨hn0, hn1, hn2, hn3⟩ (VI_num hv2 hj e)
    · rcases (show j = 0 ∨ j = 1 ∨ j = 2 ∨ j = 3 by omega) with rfl | rfl | rfl | rfl
      · refine g_al0n (pc := 47) C dX8_value_47 ?_
        refine g_al0n (pc := 48) C dX8_value_48 ?_
        refine s_getR (pc := 49) C fX8_13 h1 rfl dX8_value_49 ?_
        refine g_il1n (pc := 52) C dX8_value_52 ?_
        refine s_aald (pc := 53) (q := 1) C h2 (by decide) rfl rfl (by decide) dX8_value_53 ?_
        refine g_il7 (pc := 54) C dX8_value_54 ?_
        refine s_ialdv (pc := 56) (q := i) (v := (-1)) C h4 rfl (by omega) (Nat.le_of_ble_eq_true rfl) (by rw [hv 4 (by decide)]; exact ((hT.2.2.1 i (by omega)).2).trans (by rw [e]; decide)) dX8_value_56 ?_
        refine g_il6 (pc := 57) C dX8_value_57 ?_
        refine s_VI (pc := 59) (st := []) C h1 rfl (c_stepV0 (d := d - 1) (by omega) τ (t := q) (by omega)) (by omega) lX8_32 dX8_value_59 rfl (Nat.le_of_ble_eq_true rfl) rfl ?_
        refine g_is6 (pc := 62) C dX8_value_62 ?_
        refine g_ii7 (pc := 64) (v := nI (i + 1)) C dX8_value_64 (nI_inc1 _) ?_
        refine g_goto (pc := 67) (tgt := 36) C dX8_value_67 (by decide) ?_
        exact ih (i + 1) _ _ (by omega) (hv.tr (Eqx.up (by decide))) ⟨hn0, hn1, hn2, hn3⟩ (VI_name hv2 hj e (by rw [e]; exact hn0.symm))
      · refine g_al0n (pc := 47) C dX8_value_47 ?_
        refine g_al0n (pc := 48) C dX8_value_48 ?_
        refine s_getR (pc := 49) C fX8_13 h1 rfl dX8_value_49 ?_
        refine g_il1n (pc := 52) C dX8_value_52 ?_
        refine s_aald (pc := 53) (q := 1) C h2 (by decide) rfl rfl (by decide) dX8_value_53 ?_
        refine g_il7 (pc := 54) C dX8_value_54 ?_
        refine s_ialdv (pc := 56) (q := i) (v := (-2)) C h4 rfl (by omega) (Nat.le_of_ble_eq_true rfl) (by rw [hv 4 (by decide)]; exact ((hT.2.2.1 i (by omega)).2).trans (by rw [e]; decide)) dX8_value_56 ?_
        refine g_il6 (pc := 57) C dX8_value_57 ?_
        refine s_VI (pc := 59) (st := []) C h1 rfl (c_stepV1 (d := d - 1) (by omega) τ (t := q) (by omega)) (by omega) lX8_32 dX8_value_59 rfl (Nat.le_of_ble_eq_true rfl) rfl ?_
        refine g_is6 (pc := 62) C dX8_value_62 ?_
        refine g_ii7 (pc := 64) (v := nI (i + 1)) C dX8_value_64 (nI_inc1 _) ?_
        refine g_goto (pc := 67) (tgt := 36) C dX8_value_67 (by decide) ?_
        exact ih (i + 1) _ _ (by omega) (hv.tr (Eqx.up (by decide))) ⟨hn0, hn1, hn2, hn3⟩ (VI_name hv2 hj e (by rw [e]; exact hn1.symm))
      · refine g_al0n (pc := 47) C dX8_value_47 ?_
        refine g_al0n (pc := 48) C dX8_value_48 ?_
        refine s_getR (pc := 49) C fX8_13 h1 rfl dX8_value_49 ?_
        refine g_il1n (pc := 52) C dX8_value_52 ?_
        refine s_aald (pc := 53) (q := 1) C h2 (by decide) rfl rfl (by decide) dX8_value_53 ?_
        refine g_il7 (pc := 54) C dX8_value_54 ?_
        refine s_ialdv (pc := 56) (q := i) (v := (-3)) C h4 rfl (by omega) (Nat.le_of_ble_eq_true rfl) (by rw [hv 4 (by decide)]; exact ((hT.2.2.1 i (by omega)).2).trans (by rw [e]; decide)) dX8_value_56 ?_
        refine g_il6 (pc := 57) C dX8_value_57 ?_
        refine s_VI (pc := 59) (st := []) C h1 rfl (c_stepV2 (d := d - 1) (by omega) τ (t := q) (by omega)) (by omega) lX8_32 dX8_value_59 rfl (Nat.le_of_ble_eq_true rfl) rfl ?_
        refine g_is6 (pc := 62) C dX8_value_62 ?_
        refine g_ii7 (pc := 64) (v := nI (i + 1)) C dX8_value_64 (nI_inc1 _) ?_
        refine g_goto (pc := 67) (tgt := 36) C dX8_value_67 (by decide) ?_
        exact ih (i + 1) _ _ (by omega) (hv.tr (Eqx.up (by decide))) ⟨hn0, hn1, hn2, hn3⟩ (VI_name hv2 hj e (by rw [e]; exact hn2.symm))
      · refine g_al0n (pc := 47) C dX8_value_47 ?_
        refine g_al0n (pc := 48) C dX8_value_48 ?_
        refine s_getR (pc := 49) C fX8_13 h1 rfl dX8_value_49 ?_
        refine g_il1n (pc := 52) C dX8_value_52 ?_
        refine s_aald (pc := 53) (q := 1) C h2 (by decide) rfl rfl (by decide) dX8_value_53 ?_
        refine g_il7 (pc := 54) C dX8_value_54 ?_
        refine s_ialdv (pc := 56) (q := i) (v := (-4)) C h4 rfl (by omega) (Nat.le_of_ble_eq_true rfl) (by rw [hv 4 (by decide)]; exact ((hT.2.2.1 i (by omega)).2).trans (by rw [e]; decide)) dX8_value_56 ?_
        refine g_il6 (pc := 57) C dX8_value_57 ?_
        refine s_VI (pc := 59) (st := []) C h1 rfl (c_stepV3 (d := d - 1) (by omega) τ (t := q) (by omega)) (by omega) lX8_32 dX8_value_59 rfl (Nat.le_of_ble_eq_true rfl) rfl ?_
        refine g_is6 (pc := 62) C dX8_value_62 ?_
        refine g_ii7 (pc := 64) (v := nI (i + 1)) C dX8_value_64 (nI_inc1 _) ?_
        refine g_goto (pc := 67) (tgt := 36) C dX8_value_67 (by decide) ?_
        exact ih (i + 1) _ _ (by omega) (hv.tr (Eqx.up (by decide))) ⟨hn0, hn1, hn2, hn3⟩ (VI_name hv2 hj e (by rw [e]; exact hn3.symm))
    · rcases (show j = 0 ∨ j = 1 ∨ j = 2 ∨ j = 3 ∨ j = 4 ∨ j = 5 ∨ j = 6 ∨ j = 7 ∨ j = 8 ∨ j = 9 by omega) with rfl | rfl | rfl | rfl | rfl | rfl | rfl | rfl | rfl | rfl
      · replace e : cs i = 10100 := e.trans (by decide)
        obtain ⟨u, rfl, hV⟩ := VI_op hv2 e (by decide) (by decide) (depT_back hT.2.2.2 (i + 1) (by omega))
        refine g_al0n (pc := 47) C dX8_value_47 ?_
        refine g_al0n (pc := 48) C dX8_value_48 ?_
        refine s_getR (pc := 49) C fX8_13 h1 rfl dX8_value_49 ?_
        refine g_il1n (pc := 52) C dX8_value_52 ?_
        refine s_aald (pc := 53) (q := 1) C h2 (by decide) rfl rfl (by decide) dX8_value_53 ?_
        refine g_il7 (pc := 54) C dX8_value_54 ?_
        refine s_ialdv (pc := 56) (q := i) (v := (-143)) C h4 rfl (by omega) (Nat.le_of_ble_eq_true rfl) (by rw [hv 4 (by decide)]; exact ((hT.2.2.1 i (by omega)).2).trans (by rw [e]; decide)) dX8_value_56 ?_
        refine g_il6 (pc := 57) C dX8_value_57 ?_
        refine s_VI (pc := 59) (st := []) C h1 rfl (c_step10100 (d := d - 1) (by omega) τ (t := u) (by omega)) (by omega) lX8_32 dX8_value_59 rfl (Nat.le_of_ble_eq_true rfl) rfl ?_
        refine g_is6 (pc := 62) C dX8_value_62 ?_
        refine g_ii7 (pc := 64) (v := nI (i + 1)) C dX8_value_64 (nI_inc1 _) ?_
        refine g_goto (pc := 67) (tgt := 36) C dX8_value_67 (by decide) ?_
        exact ih (i + 1) _ _ (by omega) (hv.tr (Eqx.up (by decide))) ⟨hn0, hn1, hn2, hn3⟩ hV
      · replace e : cs i = 10101 := e.trans (by decide)
        obtain ⟨u, rfl, hV⟩ := VI_op hv2 e (by decide) (by decide) (depT_back hT.2.2.2 (i + 1) (by omega))
        refine g_al0n (pc := 47) C dX8_value_47 ?_
        refine g_al0n (pc := 48) C dX8_value_48 ?_
        refine s_getR (pc := 49) C fX8_13 h1 rfl dX8_value_49 ?_
        refine g_il1n (pc := 52) C dX8_value_52 ?_
        refine s_aald (pc := 53) (q := 1) C h2 (by decide) rfl rfl (by decide) dX8_value_53 ?_
        refine g_il7 (pc := 54) C dX8_value_54 ?_
        refine s_ialdv (pc := 56) (q := i) (v := (-145)) C h4 rfl (by omega) (Nat.le_of_ble_eq_true rfl) (by rw [hv 4 (by decide)]; exact ((hT.2.2.1 i (by omega)).2).trans (by rw [e]; decide)) dX8_value_56 ?_
        refine g_il6 (pc := 57) C dX8_value_57 ?_
        refine s_VI (pc := 59) (st := []) C h1 rfl (c_step10101 (d := d - 1) (by omega) τ (t := u) (by omega)) (by omega) lX8_32 dX8_value_59 rfl (Nat.le_of_ble_eq_true rfl) rfl ?_
        refine g_is6 (pc := 62) C dX8_value_62 ?_
        refine g_ii7 (pc := 64) (v := nI (i + 1)) C dX8_value_64 (nI_inc1 _) ?_
        refine g_goto (pc := 67) (tgt := 36) C dX8_value_67 (by decide) ?_
        exact ih (i + 1) _ _ (by omega) (hv.tr (Eqx.up (by decide))) ⟨hn0, hn1, hn2, hn3⟩ hV
      · replace e : cs i = 10102 := e.trans (by decide)
        obtain ⟨u, rfl, hV⟩ := VI_op hv2 e (by decide) (by decide) (depT_back hT.2.2.2 (i + 1) (by omega))
        refine g_al0n (pc := 47) C dX8_value_47 ?_
        refine g_al0n (pc := 48) C dX8_value_48 ?_
        refine s_getR (pc := 49) C fX8_13 h1 rfl dX8_value_49 ?_
        refine g_il1n (pc := 52) C dX8_value_52 ?_
        refine s_aald (pc := 53) (q := 1) C h2 (by decide) rfl rfl (by decide) dX8_value_53 ?_
        refine g_il7 (pc := 54) C dX8_value_54 ?_
        refine s_ialdv (pc := 56) (q := i) (v := (-160)) C h4 rfl (by omega) (Nat.le_of_ble_eq_true rfl) (by rw [hv 4 (by decide)]; exact ((hT.2.2.1 i (by omega)).2).trans (by rw [e]; decide)) dX8_value_56 ?_
        refine g_il6 (pc := 57) C dX8_value_57 ?_
        refine s_VI (pc := 59) (st := []) C h1 rfl (c_step10102 (d := d - 1) (by omega) τ (t := u) (by omega)) (by omega) lX8_32 dX8_value_59 rfl (Nat.le_of_ble_eq_true rfl) rfl ?_
        refine g_is6 (pc := 62) C dX8_value_62 ?_
        refine g_ii7 (pc := 64) (v := nI (i + 1)) C dX8_value_64 (nI_inc1 _) ?_
        refine g_goto (pc := 67) (tgt := 36) C dX8_value_67 (by decide) ?_
        exact ih (i + 1) _ _ (by omega) (hv.tr (Eqx.up (by decide))) ⟨hn0, hn1, hn2, hn3⟩ hV
      · replace e : cs i = 10103 := e.trans (by decide)
        obtain ⟨u, rfl, hV⟩ := VI_op hv2 e (by decide) (by decide) (depT_back hT.2.2.2 (i + 1) (by omega))
        refine g_al0n (pc := 47) C dX8_value_47 ?_
        refine g_al0n (pc := 48) C dX8_value_48 ?_
        refine s_getR (pc := 49) C fX8_13 h1 rfl dX8_value_49 ?_
        refine g_il1n (pc := 52) C dX8_value_52 ?_
        refine s_aald (pc := 53) (q := 1) C h2 (by decide) rfl rfl (by decide) dX8_value_53 ?_
        refine g_il7 (pc := 54) C dX8_value_54 ?_
        refine s_ialdv (pc := 56) (q := i) (v := (-161)) C h4 rfl (by omega) (Nat.le_of_ble_eq_true rfl) (by rw [hv 4 (by decide)]; exact ((hT.2.2.1 i (by omega)).2).trans (by rw [e]; decide)) dX8_value_56 ?_
        refine g_il6 (pc := 57) C dX8_value_57 ?_
        refine s_VI (pc := 59) (st := []) C h1 rfl (c_step10103 (d := d - 1) (by omega) τ (t := u) (by omega)) (by omega) lX8_32 dX8_value_59 rfl (Nat.le_of_ble_eq_true rfl) rfl ?_
        refine g_is6 (pc := 62) C dX8_value_62 ?_
        refine g_ii7 (pc := 64) (v := nI (i + 1)) C dX8_value_64 (nI_inc1 _) ?_
        refine g_goto (pc := 67) (tgt := 36) C dX8_value_67 (by decide) ?_
        exact ih (i + 1) _ _ (by omega) (hv.tr (Eqx.up (by decide))) ⟨hn0, hn1, hn2, hn3⟩ hV
      · replace e : cs i = 10104 := e.trans (by decide)
        obtain ⟨u, rfl, hV⟩ := VI_op hv2 e (by decide) (by decide) (depT_back hT.2.2.2 (i + 1) (by omega))
        refine g_al0n (pc := 47) C dX8_value_47 ?_
        refine g_al0n (pc := 48) C dX8_value_48 ?_
        refine s_getR (pc := 49) C fX8_13 h1 rfl dX8_value_49 ?_
        refine g_il1n (pc := 52) C dX8_value_52 ?_
        refine s_aald (pc := 53) (q := 1) C h2 (by decide) rfl rfl (by decide) dX8_value_53 ?_
        refine g_il7 (pc := 54) C dX8_value_54 ?_
        refine s_ialdv (pc := 56) (q := i) (v := (-162)) C h4 rfl (by omega) (Nat.le_of_ble_eq_true rfl) (by rw [hv 4 (by decide)]; exact ((hT.2.2.1 i (by omega)).2).trans (by rw [e]; decide)) dX8_value_56 ?_
        refine g_il6 (pc := 57) C dX8_value_57 ?_
        refine s_VI (pc := 59) (st := []) C h1 rfl (c_step10104 (d := d - 1) (by omega) τ (t := u) (by omega)) (by omega) lX8_32 dX8_value_59 rfl (Nat.le_of_ble_eq_true rfl) rfl ?_
        refine g_is6 (pc := 62) C dX8_value_62 ?_
        refine g_ii7 (pc := 64) (v := nI (i + 1)) C dX8_value_64 (nI_inc1 _) ?_
        refine g_goto (pc := 67) (tgt := 36) C dX8_value_67 (by decide) ?_
        exact ih (i + 1) _ _ (by omega) (hv.tr (Eqx.up (by decide))) ⟨hn0, hn1, hn2, hn3⟩ hV
      · replace e : cs i = 10105 := e.trans (by decide)
        obtain ⟨u, rfl, hV⟩ := VI_op hv2 e (by decide) (by decide) (depT_back hT.2.2.2 (i + 1) (by omega))
        refine g_al0n (pc := 47) C dX8_value_47 ?_
        refine g_al0n (pc := 48) C dX8_value_48 ?_
        refine s_getR (pc := 49) C fX8_13 h1 rfl dX8_value_49 ?_
        refine g_il1n (pc := 52) C dX8_value_52 ?_
        refine s_aald (pc := 53) (q := 1) C h2 (by decide) rfl rfl (by decide) dX8_value_53 ?_
        refine g_il7 (pc := 54) C dX8_value_54 ?_
        refine s_ialdv (pc := 56) (q := i) (v := (-138)) C h4 rfl (by omega) (Nat.le_of_ble_eq_true rfl) (by rw [hv 4 (by decide)]; exact ((hT.2.2.1 i (by omega)).2).trans (by rw [e]; decide)) dX8_value_56 ?_
        refine g_il6 (pc := 57) C dX8_value_57 ?_
        refine s_VI (pc := 59) (st := []) C h1 rfl (c_step10105 (d := d - 1) (by omega) τ (t := u) (by omega)) (by omega) lX8_32 dX8_value_59 rfl (Nat.le_of_ble_eq_true rfl) rfl ?_
        refine g_is6 (pc := 62) C dX8_value_62 ?_
        refine g_ii7 (pc := 64) (v := nI (i + 1)) C dX8_value_64 (nI_inc1 _) ?_
        refine g_goto (pc := 67) (tgt := 36) C dX8_value_67 (by decide) ?_
        exact ih (i + 1) _ _ (by omega) (hv.tr (Eqx.up (by decide))) ⟨hn0, hn1, hn2, hn3⟩ hV
      · replace e : cs i = 10106 := e.trans (by decide)
        obtain ⟨u, rfl, hV⟩ := VI_op hv2 e (by decide) (by decide) (depT_back hT.2.2.2 (i + 1) (by omega))
        refine g_al0n (pc := 47) C dX8_value_47 ?_
        refine g_al0n (pc := 48) C dX8_value_48 ?_
        refine s_getR (pc := 49) C fX8_13 h1 rfl dX8_value_49 ?_
        refine g_il1n (pc := 52) C dX8_value_52 ?_
        refine s_aald (pc := 53) (q := 1) C h2 (by decide) rfl rfl (by decide) dX8_value_53 ?_
        refine g_il7 (pc := 54) C dX8_value_54 ?_
        refine s_ialdv (pc := 56) (q := i) (v := (-224)) C h4 rfl (by omega) (Nat.le_of_ble_eq_true rfl) (by rw [hv 4 (by decide)]; exact ((hT.2.2.1 i (by omega)).2).trans (by rw [e]; decide)) dX8_value_56 ?_
        refine g_il6 (pc := 57) C dX8_value_57 ?_
        refine s_VI (pc := 59) (st := []) C h1 rfl (c_step10106 (d := d - 1) (by omega) τ (t := u) (by omega)) (by omega) lX8_32 dX8_value_59 rfl (Nat.le_of_ble_eq_true rfl) rfl ?_
        refine g_is6 (pc := 62) C dX8_value_62 ?_
        refine g_ii7 (pc := 64) (v := nI (i + 1)) C dX8_value_64 (nI_inc1 _) ?_
        refine g_goto (pc := 67) (tgt := 36) C dX8_value_67 (by decide) ?_
        exact ih (i + 1) _ _ (by omega) (hv.tr (Eqx.up (by decide))) ⟨hn0, hn1, hn2, hn3⟩ hV
      · replace e : cs i = 10107 := e.trans (by decide)
        obtain ⟨u, rfl, hV⟩ := VI_not hv2 e (depT_back hT.2.2.2 (i + 1) (by omega))
        refine g_al0n (pc := 47) C dX8_value_47 ?_
        refine g_al0n (pc := 48) C dX8_value_48 ?_
        refine s_getR (pc := 49) C fX8_13 h1 rfl dX8_value_49 ?_
        refine g_il1n (pc := 52) C dX8_value_52 ?_
        refine s_aald (pc := 53) (q := 1) C h2 (by decide) rfl rfl (by decide) dX8_value_53 ?_
        refine g_il7 (pc := 54) C dX8_value_54 ?_
        refine s_ialdv (pc := 56) (q := i) (v := (-133)) C h4 rfl (by omega) (Nat.le_of_ble_eq_true rfl) (by rw [hv 4 (by decide)]; exact ((hT.2.2.1 i (by omega)).2).trans (by rw [e]; decide)) dX8_value_56 ?_
        refine g_il6 (pc := 57) C dX8_value_57 ?_
        refine s_VI (pc := 59) (st := []) C h1 rfl (c_step10107 (d := d - 1) (by omega) τ (t := u) (by omega)) (by omega) lX8_32 dX8_value_59 rfl (Nat.le_of_ble_eq_true rfl) rfl ?_
        refine g_is6 (pc := 62) C dX8_value_62 ?_
        refine g_ii7 (pc := 64) (v := nI (i + 1)) C dX8_value_64 (nI_inc1 _) ?_
        refine g_goto (pc := 67) (tgt := 36) C dX8_value_67 (by decide) ?_
        exact ih (i + 1) _ _ (by omega) (hv.tr (Eqx.up (by decide))) ⟨hn0, hn1, hn2, hn3⟩ hV
      · replace e : cs i = 10108 := e.trans (by decide)
        obtain ⟨u, rfl, hV⟩ := VI_op hv2 e (by decide) (by decide) (depT_back hT.2.2.2 (i + 1) (by omega))
        refine g_al0n (pc := 47) C dX8_value_47 ?_
        refine g_al0n (pc := 48) C dX8_value_48 ?_
        refine s_getR (pc := 49) C fX8_13 h1 rfl dX8_value_49 ?_
        refine g_il1n (pc := 52) C dX8_value_52 ?_
        refine s_aald (pc := 53) (q := 1) C h2 (by decide) rfl rfl (by decide) dX8_value_53 ?_
        refine g_il7 (pc := 54) C dX8_value_54 ?_
        refine s_ialdv (pc := 56) (q := i) (v := (-142)) C h4 rfl (by omega) (Nat.le_of_ble_eq_true rfl) (by rw [hv 4 (by decide)]; exact ((hT.2.2.1 i (by omega)).2).trans (by rw [e]; decide)) dX8_value_56 ?_
        refine g_il6 (pc := 57) C dX8_value_57 ?_
        refine s_VI (pc := 59) (st := []) C h1 rfl (c_step10108 (d := d - 1) (by omega) τ (t := u) (by omega)) (by omega) lX8_32 dX8_value_59 rfl (Nat.le_of_ble_eq_true rfl) rfl ?_
        refine g_is6 (pc := 62) C dX8_value_62 ?_
        refine g_ii7 (pc := 64) (v := nI (i + 1)) C dX8_value_64 (nI_inc1 _) ?_
        refine g_goto (pc := 67) (tgt := 36) C dX8_value_67 (by decide) ?_
        exact ih (i + 1) _ _ (by omega) (hv.tr (Eqx.up (by decide))) ⟨hn0, hn1, hn2, hn3⟩ hV
      · replace e : cs i = 10109 := e.trans (by decide)
        obtain ⟨u, rfl, hV⟩ := VI_op hv2 e (by decide) (by decide) (depT_back hT.2.2.2 (i + 1) (by omega))
        refine g_al0n (pc := 47) C dX8_value_47 ?_
        refine g_al0n (pc := 48) C dX8_value_48 ?_
        refine s_getR (pc := 49) C fX8_13 h1 rfl dX8_value_49 ?_
        refine g_il1n (pc := 52) C dX8_value_52 ?_
        refine s_aald (pc := 53) (q := 1) C h2 (by decide) rfl rfl (by decide) dX8_value_53 ?_
        refine g_il7 (pc := 54) C dX8_value_54 ?_
        refine s_ialdv (pc := 56) (q := i) (v := (-147)) C h4 rfl (by omega) (Nat.le_of_ble_eq_true rfl) (by rw [hv 4 (by decide)]; exact ((hT.2.2.1 i (by omega)).2).trans (by rw [e]; decide)) dX8_value_56 ?_
        refine g_il6 (pc := 57) C dX8_value_57 ?_
        refine s_VI (pc := 59) (st := []) C h1 rfl (c_step10109 (d := d - 1) (by omega) τ (t := u) (by omega)) (by omega) lX8_32 dX8_value_59 rfl (Nat.le_of_ble_eq_true rfl) rfl ?_
        refine g_is6 (pc := 62) C dX8_value_62 ?_
        refine g_ii7 (pc := 64) (v := nI (i + 1)) C dX8_value_64 (nI_inc1 _) ?_
        refine g_goto (pc := 67) (tgt := 36) C dX8_value_67 (by decide) ?_
        exact ih (i + 1) _ _ (by omega) (hv.tr (Eqx.up (by decide))) ⟨hn0, hn1, hn2, hn3⟩ hV

theorem c_value1 {d : Nat} (hd : 3 ≤ d) (σ : Sg) {cs : Nu} {len : Nat} (hT : RT1 σ cs len 1) (h m k w : Int32) : CP d mX8_value [.ref 1, .int 1, .int h, .int m, .int k, .int w] σ (fun v τ' => v = (runT cs h m k w len).headD 0 ∧ Eqx [10, 11] σ τ') := by
  refine con_of (by decide) (catL rfl) (Nat.le_of_ble_eq_true rfl) ?_
  intro μ ω C hr
  have C : Cx μ ω "TowField$Texts" cX8_value 8 d := C
  have hr : (mH μ).sig.returnType = some .int := hr
  show G μ ω (RQ μ ω (pP (fun v τ' => v = (runT cs h m k w len).headD 0 ∧ Eqx [10, 11] σ τ'))) 0 [some (.ref 1), some (.int 1), some (.int h), some (.int m), some (.int k), some (.int w), none, none] [] (mk σ) 0 0
  refine g_al0n (pc := 0) C dX8_value_0 ?_
  refine s_getR (pc := 1) C fX8_20 h1 rfl dX8_value_1 ?_
  refine g_iconst (pc := 4) (v := 0) C dX8_value_4 (by decide) ?_
  refine g_il2n (pc := 5) C dX8_value_5 ?_
  refine s_iast (pc := 6) (q := 0) C h10 rfl (by omega) (Nat.le_of_ble_eq_true rfl) dX8_value_6 ?_
  refine g_al0n (pc := 7) C dX8_value_7 ?_
  refine s_getR (pc := 8) C fX8_20 h1 rfl dX8_value_8 ?_
  refine g_iconst (pc := 11) (v := 1) C dX8_value_11 (by decide) ?_
  refine g_il3n (pc := 12) C dX8_value_12 ?_
  refine s_iast (pc := 13) (q := 1) C h10 rfl (by omega) (Nat.le_of_ble_eq_true rfl) dX8_value_13 ?_
  refine g_al0n (pc := 14) C dX8_value_14 ?_
  refine s_getR (pc := 15) C fX8_20 h1 rfl dX8_value_15 ?_
  refine g_iconst (pc := 18) (v := 2) C dX8_value_18 (by decide) ?_
  refine g_il4 (pc := 19) C dX8_value_19 ?_
  refine s_iast (pc := 21) (q := 2) C h10 rfl (by omega) (Nat.le_of_ble_eq_true rfl) dX8_value_21 ?_
  refine g_al0n (pc := 22) C dX8_value_22 ?_
  refine s_getR (pc := 23) C fX8_20 h1 rfl dX8_value_23 ?_
  refine g_iconst (pc := 26) (v := 3) C dX8_value_26 (by decide) ?_
  refine g_il5 (pc := 27) C dX8_value_27 ?_
  refine s_iast (pc := 29) (q := 3) C h10 rfl (by omega) (Nat.le_of_ble_eq_true rfl) dX8_value_29 ?_
  refine g_iconst (pc := 30) (v := 0) C dX8_value_30 (by decide) ?_
  refine g_is6 (pc := 31) C dX8_value_31 ?_
  refine g_iconst (pc := 33) (v := 0) C dX8_value_33 (by decide) ?_
  refine g_is7 (pc := 34) C dX8_value_34 ?_
  exact lp_value1 hd C hr σ hT h m k w len 0 0 _ (by omega) (fun z hz => by simp at hz; simp only [up_ne _ _ _ hz.1]) ⟨rfl, rfl, rfl, rfl⟩ ⟨rfl, trivial, rfl⟩

theorem lp_value2 {μ : Mx} {ω : Om} {d : Nat} (hd : 3 ≤ d) (C : Cx μ ω "TowField$Texts" cX8_value 8 d) (hr : (mH μ).sig.returnType = some .int) (σ : Sg) {cs : Nu} {len : Nat} (hT : RT1 σ cs len 2) (h m k w : Int32) : ∀ (f i : Nat) (q : Nat) (τ : Sg), i + f = len → (Eqx [10, 11] σ τ) → (τ 10 0 = h ∧ τ 10 1 = m ∧ τ 10 2 = k ∧ τ 10 3 = w) → (VI cs h m k w i q (τ 11)) → G μ ω (RQ μ ω (pP (fun v τ' => v = (runT cs h m k w len).headD 0 ∧ Eqx [10, 11] σ τ'))) 36 [some (.ref 1), some (.int 2), some (.int h), some (.int m), some (.int k), some (.int w), some (.int (nI q)), some (.int (nI i))] [] (mk τ) 0 0 := by
  intro f
  induction f with
  | zero =>
    intro i q τ hif hv hv1 hv2
    have hin : i = len := by omega
    have hl := hT.1
    refine g_il7 (pc := 36) C dX8_value_36 ?_
    refine g_al0n (pc := 38) C dX8_value_38 ?_
    refine s_getR (pc := 39) C fX8_16 h1 rfl dX8_value_39 ?_
    refine g_il1n (pc := 42) C dX8_value_42 ?_
    refine s_ialdv (pc := 43) (q := 2) (v := nI len) C h9 rfl (by omega) (Nat.le_of_ble_eq_true rfl) (by rw [hv 9 (by decide)]; exact hT.2.1) dX8_value_43 ?_
    refine g_icmp_geL (pc := 44) (tgt := 70) C dX8_value_44 (by decide) (fun c_44 => ?_) (fun c_44 => absurd c_44 (nI_nlt (by omega) (by omega)))
    refine g_al0n (pc := 70) C dX8_value_70 ?_
    refine s_getR (pc := 71) C fX8_23 h1 rfl dX8_value_71 ?_
    refine g_iconst (pc := 74) (v := 0) C dX8_value_74 (by decide) ?_
    refine s_iald (pc := 75) (q := 0) C h11 rfl (by omega) (Nat.le_of_ble_eq_true rfl) dX8_value_75 ?_
    subst hin
    have hq : q = 1 := Option.some.inj (hv2.1.symm.trans hT.2.2.2)
    subst hq
    obtain ⟨x, hL⟩ : ∃ x, runT cs h m k w i = [x] := List.length_eq_one_iff.mp hv2.2.2
    have hp := hv2.2.1
    rw [hL] at hp
    exact r_P C hr dX8_value_76 ⟨by rw [hL]; exact hp.1, hv⟩
  | succ f ih =>
    intro i q τ hif hv hv1 hv2
    have hl := hT.1
    obtain ⟨hn0, hn1, hn2, hn3⟩ := hv1
    have hqi := VI_le hv2
    refine g_il7 (pc := 36) C dX8_value_36 ?_
    refine g_al0n (pc := 38) C dX8_value_38 ?_
    refine s_getR (pc := 39) C fX8_16 h1 rfl dX8_value_39 ?_
    refine g_il1n (pc := 42) C dX8_value_42 ?_
    refine s_ialdv (pc := 43) (q := 2) (v := nI len) C h9 rfl (by omega) (Nat.le_of_ble_eq_true rfl) (by rw [hv 9 (by decide)]; exact hT.2.1) dX8_value_43 ?_
    refine g_icmp_geL (pc := 44) (tgt := 70) C dX8_value_44 (by decide) (fun c_44 => absurd (nI_lt (by omega) (by omega)) c_44) (fun c_44 => ?_)
    rcases (hT.2.2.1 i (by omega)).1 with ⟨j, hj, e⟩ | ⟨j, hj, e⟩ | ⟨j, hj, e⟩
    · refine g_al0n (pc := 47) C dX8_value_47 ?_
      refine g_al0n (pc := 48) C dX8_value_48 ?_
      refine s_getR (pc := 49) C fX8_13 h1 rfl dX8_value_49 ?_
      refine g_il1n (pc := 52) C dX8_value_52 ?_
      refine s_aald (pc := 53) (q := 2) C h2 (by decide) rfl rfl (by decide) dX8_value_53 ?_
      refine g_il7 (pc := 54) C dX8_value_54 ?_
      refine s_ialdv (pc := 56) (q := i) (v := nI j) C h5 rfl (by omega) (Nat.le_of_ble_eq_true rfl) (by rw [hv 5 (by decide)]; exact ((hT.2.2.1 i (by omega)).2).trans (by rw [e]; exact clC_num hj)) dX8_value_56 ?_
      refine g_il6 (pc := 57) C dX8_value_57 ?_
      refine s_VI (pc := 59) (st := []) C h1 rfl (c_stepN (d := d - 1) (by omega) τ (k := j) hj (t := q) (by omega)) (by omega) lX8_32 dX8_value_59 rfl (Nat.le_of_ble_eq_true rfl) rfl ?_
      refine g_is6 (pc := 62) C dX8_value_62 ?_
      refine g_ii7 (pc := 64) (v := nI (i + 1)) C dX8_value_64 (nI_inc1 _) ?_
      refine g_goto (pc := 67) (tgt := 36) C dX8_value_67 (by decide) ?_
      exact ih (i + 1) _ _ (by omega) (hv.tr (Eqx.up (by decide))) ⟨hn0, hn1, hn2, hn3⟩ (VI_num hv2 hj e)
    · rcases (show j = 0 ∨ j = 1 ∨ j = 2 ∨ j = 3 by omega) with rfl | rfl | rfl | rfl
      · refine g_al0n (pc := 47) C dX8_value_47 ?_
        refine g_al0n (pc := 48) C dX8_value_48 ?_
        refine s_getR (pc := 49) C fX8_13 h1 rfl dX8_value_49 ?_
        refine g_il1n (pc := 52) C dX8_value_52 ?_
        refine s_aald (pc := 53) (q := 2) C h2 (by decide) rfl rfl (by decide) dX8_value_53 ?_
        refine g_il7 (pc := 54) C dX8_value_54 ?_
        refine s_ialdv (pc := 56) (q := i) (v := (-1)) C h5 rfl (by omega) (Nat.le_of_ble_eq_true rfl) (by rw [hv 5 (by decide)]; exact ((hT.2.2.1 i (by omega)).2).trans (by rw [e]; decide)) dX8_value_56 ?_
        refine g_il6 (pc := 57) C dX8_value_57 ?_
        refine s_VI (pc := 59) (st := []) C h1 rfl (c_stepV0 (d := d - 1) (by omega) τ (t := q) (by omega)) (by omega) lX8_32 dX8_value_59 rfl (Nat.le_of_ble_eq_true rfl) rfl ?_
        refine g_is6 (pc := 62) C dX8_value_62 ?_
        refine g_ii7 (pc := 64) (v := nI (i + 1)) C dX8_value_64 (nI_inc1 _) ?_
        refine g_goto (pc := 67) (tgt := 36) C dX8_value_67 (by decide) ?_
        exact ih (i + 1) _ _ (by omega) (hv.tr (Eqx.up (by decide))) ⟨hn0, hn1, hn2, hn3⟩ (VI_name hv2 hj e (by rw [e]; exact hn0.symm))
      · refine g_al0n (pc := 47) C dX8_value_47 ?_
        refine g_al0n (pc := 48) C dX8_value_48 ?_
        refine s_getR (pc := 49) C fX8_13 h1 rfl dX8_value_49 ?_
        refine g_il1n (pc := 52) C dX8_value_52 ?_
        refine s_aald (pc := 53) (q := 2) C h2 (by decide) rfl rfl (by decide) dX8_value_53 ?_
        refine g_il7 (pc := 54) C dX8_value_54 ?_
        refine s_ialdv (pc := 56) (q := i) (v := (-2)) C h5 rfl (by omega) (Nat.le_of_ble_eq_true rfl) (by rw [hv 5 (by decide)]; exact ((hT.2.2.1 i (by omega)).2).trans (by rw [e]; decide)) dX8_value_56 ?_
        refine g_il6 (pc := 57) C dX8_value_57 ?_
        refine s_VI (pc := 59) (st := []) C h1 rfl (c_stepV1 (d := d - 1) (by omega) τ (t := q) (by omega)) (by omega) lX8_32 dX8_value_59 rfl (Nat.le_of_ble_eq_true rfl) rfl ?_
        refine g_is6 (pc := 62) C dX8_value_62 ?_
        refine g_ii7 (pc := 64) (v := nI (i + 1)) C dX8_value_64 (nI_inc1 _) ?_
        refine g_goto (pc := 67) (tgt := 36) C dX8_value_67 (by decide) ?_
        exact ih (i + 1) _ _ (by omega) (hv.tr (Eqx.up (by decide))) ⟨hn0, hn1, hn2, hn3⟩ (VI_name hv2 hj e (by rw [e]; exact hn1.symm))
      · refine g_al0n (pc := 47) C dX8_value_47 ?_
        refine g_al0n (pc := 48) C dX8_value_48 ?_
        refine s_getR (pc := 49) C fX8_13 h1 rfl dX8_value_49 ?_
        refine g_il1n (pc := 52) C dX8_value_52 ?_
        refine s_aald (pc := 53) (q := 2) C h2 (by decide) rfl rfl (by decide) dX8_value_53 ?_
        refine g_il7 (pc := 54) C dX8_value_54 ?_
        refine s_ialdv (pc := 56) (q := i) (v := (-3)) C h5 rfl (by omega) (Nat.le_of_ble_eq_true rfl) (by rw [hv 5 (by decide)]; exact ((hT.2.2.1 i (by omega)).2).trans (by rw [e]; decide)) dX8_value_56 ?_
        refine g_il6 (pc := 57) C dX8_value_57 ?_
        refine s_VI (pc := 59) (st := []) C h1 rfl (c_stepV2 (d := d - 1) (by omega) τ (t := q) (by omega)) (by omega) lX8_32 dX8_value_59 rfl (Nat.le_of_ble_eq_true rfl) rfl ?_
        refine g_is6 (pc := 62) C dX8_value_62 ?_
        refine g_ii7 (pc := 64) (v := nI (i + 1)) C dX8_value_64 (nI_inc1 _) ?_
        refine g_goto (pc := 67) (tgt := 36) C dX8_value_67 (by decide) ?_
        exact ih (i + 1) _ _ (by omega) (hv.tr (Eqx.up (by decide))) ⟨hn0, hn1, hn2, hn3⟩ (VI_name hv2 hj e (by rw [e]; exact hn2.symm))
      · refine g_al0n (pc := 47) C dX8_value_47 ?_
        refine g_al0n (pc := 48) C dX8_value_48 ?_
        refine s_getR (pc := 49) C fX8_13 h1 rfl dX8_value_49 ?_
        refine g_il1n (pc := 52) C dX8_value_52 ?_
        refine s_aald (pc := 53) (q := 2) C h2 (by decide) rfl rfl (by decide) dX8_value_53 ?_
        refine g_il7 (pc := 54) C dX8_value_54 ?_
        refine s_ialdv (pc := 56) (q := i) (v := (-4)) C h5 rfl (by omega) (Nat.le_of_ble_eq_true rfl) (by rw [hv 5 (by decide)]; exact ((hT.2.2.1 i (by omega)).2).trans (by rw [e]; decide)) dX8_value_56 ?_
        refine g_il6 (pc := 57) C dX8_value_57 ?_
        refine s_VI (pc := 59) (st := []) C h1 rfl (c_stepV3 (d := d - 1) (by omega) τ (t := q) (by omega)) (by omega) lX8_32 dX8_value_59 rfl (Nat.le_of_ble_eq_true rfl) rfl ?_
        refine g_is6 (pc := 62) C dX8_value_62 ?_
        refine g_ii7 (pc := 64) (v := nI (i + 1)) C dX8_value_64 (nI_inc1 _) ?_
        refine g_goto (pc := 67) (tgt := 36) C dX8_value_67 (by decide) ?_
        exact ih (i + 1) _ _ (by omega) (hv.tr (Eqx.up (by decide))) ⟨hn0, hn1, hn2, hn3⟩ (VI_name hv2 hj e (by rw [e]; exact hn3.symm))
    · rcases (show j = 0 ∨ j = 1 ∨ j = 2 ∨ j = 3 ∨ j = 4 ∨ j = 5 ∨ j = 6 ∨ j = 7 ∨ j = 8 ∨ j = 9 by omega) with rfl | rfl | rfl | rfl | rfl | rfl | rfl | rfl | rfl | rfl
      · replace e : cs i = 10100 := e.trans (by decide)
        obtain ⟨u, rfl, hV⟩ := VI_op hv2 e (by decide) (by decide) (depT_back hT.2.2.2 (i + 1) (by omega))
        refine g_al0n (pc := 47) C dX8_value_47 ?_
        refine g_al0n (pc := 48) C dX8_value_48 ?_
        refine s_getR (pc := 49) C fX8_13 h1 rfl dX8_value_49 ?_
        refine g_il1n (pc := 52) C dX8_value_52 ?_
        refine s_aald (pc := 53) (q := 2) C h2 (by decide) rfl rfl (by decide) dX8_value_53 ?_
        refine g_il7 (pc := 54) C dX8_value_54 ?_
        refine s_ialdv (pc := 56) (q := i) (v := (-143)) C h5 rfl (by omega) (Nat.le_of_ble_eq_true rfl) (by rw [hv 5 (by decide)]; exact ((hT.2.2.1 i (by omega)).2).trans (by rw [e]; decide)) dX8_value_56 ?_
        refine g_il6 (pc := 57) C dX8_value_57 ?_
        refine s_VI (pc := 59) (st := []) C h1 rfl (c_step10100 (d := d - 1) (by omega) τ (t := u) (by omega)) (by omega) lX8_32 dX8_value_59 rfl (Nat.le_of_ble_eq_true rfl) rfl ?_
        refine g_is6 (pc := 62) C dX8_value_62 ?_
        refine g_ii7 (pc := 64) (v := nI (i + 1)) C dX8_value_64 (nI_inc1 _) ?_
        refine g_goto (pc := 67) (tgt := 36) C dX8_value_67 (by decide) ?_
        exact ih (i + 1) _ _ (by omega) (hv.tr (Eqx.up (by decide))) ⟨hn0, hn1, hn2, hn3⟩ hV
      · replace e : cs i = 10101 := e.trans (by decide)
        obtain ⟨u, rfl, hV⟩ := VI_op hv2 e (by decide) (by decide) (depT_back hT.2.2.2 (i + 1) (by omega))
        refine g_al0n (pc := 47) C dX8_value_47 ?_
        refine g_al0n (pc := 48) C dX8_value_48 ?_
        refine s_getR (pc := 49) C fX8_13 h1 rfl dX8_value_49 ?_
        refine g_il1n (pc := 52) C dX8_value_52 ?_
        refine s_aald (pc := 53) (q := 2) C h2 (by decide) rfl rfl (by decide) dX8_value_53 ?_
        refine g_il7 (pc := 54) C dX8_value_54 ?_
        refine s_ialdv (pc := 56) (q := i) (v := (-145)) C h5 rfl (by omega) (Nat.le_of_ble_eq_true rfl) (by rw [hv 5 (by decide)]; exact ((hT.2.2.1 i (by omega)).2).trans (by rw [e]; decide)) dX8_value_56 ?_
        refine g_il6 (pc := 57) C dX8_value_57 ?_
        refine s_VI (pc := 59) (st := []) C h1 rfl (c_step10101 (d := d - 1) (by omega) τ (t := u) (by omega)) (by omega) lX8_32 dX8_value_59 rfl (Nat.le_of_ble_eq_true rfl) rfl ?_
        refine g_is6 (pc := 62) C dX8_value_62 ?_
        refine g_ii7 (pc := 64) (v := nI (i + 1)) C dX8_value_64 (nI_inc1 _) ?_
        refine g_goto (pc := 67) (tgt := 36) C dX8_value_67 (by decide) ?_
        exact ih (i + 1) _ _ (by omega) (hv.tr (Eqx.up (by decide))) ⟨hn0, hn1, hn2, hn3⟩ hV
      · replace e : cs i = 10102 := e.trans (by decide)
        obtain ⟨u, rfl, hV⟩ := VI_op hv2 e (by decide) (by decide) (depT_back hT.2.2.2 (i + 1) (by omega))
        refine g_al0n (pc := 47) C dX8_value_47 ?_
        refine g_al0n (pc := 48) C dX8_value_48 ?_
        refine s_getR (pc := 49) C fX8_13 h1 rfl dX8_value_49 ?_
        refine g_il1n (pc := 52) C dX8_value_52 ?_
        refine s_aald (pc := 53) (q := 2) C h2 (by decide) rfl rfl (by decide) dX8_value_53 ?_
        refine g_il7 (pc := 54) C dX8_value_54 ?_
        refine s_ialdv (pc := 56) (q := i) (v := (-160)) C h5 rfl (by omega) (Nat.le_of_ble_eq_true rfl) (by rw [hv 5 (by decide)]; exact ((hT.2.2.1 i (by omega)).2).trans (by rw [e]; decide)) dX8_value_56 ?_
        refine g_il6 (pc := 57) C dX8_value_57 ?_
        refine s_VI (pc := 59) (st := []) C h1 rfl (c_step10102 (d := d - 1) (by omega) τ (t := u) (by omega)) (by omega) lX8_32 dX8_value_59 rfl (Nat.le_of_ble_eq_true rfl) rfl ?_
        refine g_is6 (pc := 62) C dX8_value_62 ?_
        refine g_ii7 (pc := 64) (v := nI (i + 1)) C dX8_value_64 (nI_inc1 _) ?_
        refine g_goto (pc := 67) (tgt := 36) C dX8_value_67 (by decide) ?_
        exact ih (i + 1) _ _ (by omega) (hv.tr (Eqx.up (by decide))) ⟨hn0, hn1, hn2, hn3⟩ hV
      · replace e : cs i = 10103 := e.trans (by decide)
        obtain ⟨u, rfl, hV⟩ := VI_op hv2 e (by decide) (by decide) (depT_back hT.2.2.2 (i + 1) (by omega))
        refine g_al0n (pc := 47) C dX8_value_47 ?_
        refine g_al0n (pc := 48) C dX8_value_48 ?_
        refine s_getR (pc := 49) C fX8_13 h1 rfl dX8_value_49 ?_
        refine g_il1n (pc := 52) C dX8_value_52 ?_
        refine s_aald (pc := 53) (q := 2) C h2 (by decide) rfl rfl (by decide) dX8_value_53 ?_
        refine g_il7 (pc := 54) C dX8_value_54 ?_
        refine s_ialdv (pc := 56) (q := i) (v := (-161)) C h5 rfl (by omega) (Nat.le_of_ble_eq_true rfl) (by rw [hv 5 (by decide)]; exact ((hT.2.2.1 i (by omega)).2).trans (by rw [e]; decide)) dX8_value_56 ?_
        refine g_il6 (pc := 57) C dX8_value_57 ?_
        refine s_VI (pc := 59) (st := []) C h1 rfl (c_step10103 (d := d - 1) (by omega) τ (t := u) (by omega)) (by omega) lX8_32 dX8_value_59 rfl (Nat.le_of_ble_eq_true rfl) rfl ?_
        refine g_is6 (pc := 62) C dX8_value_62 ?_
        refine g_ii7 (pc := 64) (v := nI (i + 1)) C dX8_value_64 (nI_inc1 _) ?_
        refine g_goto (pc := 67) (tgt := 36) C dX8_value_67 (by decide) ?_
        exact ih (i + 1) _ _ (by omega) (hv.tr (Eqx.up (by decide))) ⟨hn0, hn1, hn2, hn3⟩ hV
      · replace e : cs i = 10104 := e.trans (by decide)
        obtain ⟨u, rfl, hV⟩ := VI_op hv2 e (by decide) (by decide) (depT_back hT.2.2.2 (i + 1) (by omega))
        refine g_al0n (pc := 47) C dX8_value_47 ?_
        refine g_al0n (pc := 48) C dX8_value_48 ?_
        refine s_getR (pc := 49) C fX8_13 h1 rfl dX8_value_49 ?_
        refine g_il1n (pc := 52) C dX8_value_52 ?_
        refine s_aald (pc := 53) (q := 2) C h2 (by decide) rfl rfl (by decide) dX8_value_53 ?_
        refine g_il7 (pc := 54) C dX8_value_54 ?_
        refine s_ialdv (pc := 56) (q := i) (v := (-162)) C h5 rfl (by omega) (Nat.le_of_ble_eq_true rfl) (by rw [hv 5 (by decide)]; exact ((hT.2.2.1 i (by omega)).2).trans (by rw [e]; decide)) dX8_value_56 ?_
        refine g_il6 (pc := 57) C dX8_value_57 ?_
        refine s_VI (pc := 59) (st := []) C h1 rfl (c_step10104 (d := d - 1) (by omega) τ (t := u) (by omega)) (by omega) lX8_32 dX8_value_59 rfl (Nat.le_of_ble_eq_true rfl) rfl ?_
        refine g_is6 (pc := 62) C dX8_value_62 ?_
        refine g_ii7 (pc := 64) (v := nI (i + 1)) C dX8_value_64 (nI_inc1 _) ?_
        refine g_goto (pc := 67) (tgt := 36) C dX8_value_67 (by decide) ?_
        exact ih (i + 1) _ _ (by omega) (hv.tr (Eqx.up (by decide))) ⟨hn0, hn1, hn2, hn3⟩ hV
      · replace e : cs i = 10105 := e.trans (by decide)
        obtain ⟨u, rfl, hV⟩ := VI_op hv2 e (by decide) (by decide) (depT_back hT.2.2.2 (i + 1) (by omega))
        refine g_al0n (pc := 47) C dX8_value_47 ?_
        refine g_al0n (pc := 48) C dX8_value_48 ?_
        refine s_getR (pc := 49) C fX8_13 h1 rfl dX8_value_49 ?_
        refine g_il1n (pc := 52) C dX8_value_52 ?_
        refine s_aald (pc := 53) (q := 2) C h2 (by decide) rfl rfl (by decide) dX8_value_53 ?_
        refine g_il7 (pc := 54) C dX8_value_54 ?_
        refine s_ialdv (pc := 56) (q := i) (v := (-138)) C h5 rfl (by omega) (Nat.le_of_ble_eq_true rfl) (by rw [hv 5 (by decide)]; exact ((hT.2.2.1 i (by omega)).2).trans (by rw [e]; decide)) dX8_value_56 ?_
        refine g_il6 (pc := 57) C dX8_value_57 ?_
        refine s_VI (pc := 59) (st := []) C h1 rfl (c_step10105 (d := d - 1) (by omega) τ (t := u) (by omega)) (by omega) lX8_32 dX8_value_59 rfl (Nat.le_of_ble_eq_true rfl) rfl ?_
        refine g_is6 (pc := 62) C dX8_value_62 ?_
        refine g_ii7 (pc := 64) (v := nI (i + 1)) C dX8_value_64 (nI_inc1 _) ?_
        refine g_goto (pc := 67) (tgt := 36) C dX8_value_67 (by decide) ?_
        exact ih (i + 1) _ _ (by omega) (hv.tr (Eqx.up (by decide))) ⟨hn0, hn1, hn2, hn3⟩ hV
      · replace e : cs i = 10106 := e.trans (by decide)
        obtain ⟨u, rfl, hV⟩ := VI_op hv2 e (by decide) (by decide) (depT_back hT.2.2.2 (i + 1) (by omega))
        refine g_al0n (pc := 47) C dX8_value_47 ?_
        refine g_al0n (pc := 48) C dX8_value_48 ?_
        refine s_getR (pc := 49) C fX8_13 h1 rfl dX8_value_49 ?_
        refine g_il1n (pc := 52) C dX8_value_52 ?_
        refine s_aald (pc := 53) (q := 2) C h2 (by decide) rfl rfl (by decide) dX8_value_53 ?_
        refine g_il7 (pc := 54) C dX8_value_54 ?_
        refine s_ialdv (pc := 56) (q := i) (v := (-224)) C h5 rfl (by omega) (Nat.le_of_ble_eq_true rfl) (by rw [hv 5 (by decide)]; exact ((hT.2.2.1 i (by omega)).2).trans (by rw [e]; decide)) dX8_value_56 ?_
        refine g_il6 (pc := 57) C dX8_value_57 ?_
        refine s_VI (pc := 59) (st := []) C h1 rfl (c_step10106 (d := d - 1) (by omega) τ (t := u) (by omega)) (by omega) lX8_32 dX8_value_59 rfl (Nat.le_of_ble_eq_true rfl) rfl ?_
        refine g_is6 (pc := 62) C dX8_value_62 ?_
        refine g_ii7 (pc := 64) (v := nI (i + 1)) C dX8_value_64 (nI_inc1 _) ?_
        refine g_goto (pc := 67) (tgt := 36) C dX8_value_67 (by decide) ?_
        exact ih (i + 1) _ _ (by omega) (hv.tr (Eqx.up (by decide))) ⟨hn0, hn1, hn2, hn3⟩ hV
      · replace e : cs i = 10107 := e.trans (by decide)
        obtain ⟨u, rfl, hV⟩ := VI_not hv2 e (depT_back hT.2.2.2 (i + 1) (by omega))
        refine g_al0n (pc := 47) C dX8_value_47 ?_
        refine g_al0n (pc := 48) C dX8_value_48 ?_
        refine s_getR (pc := 49) C fX8_13 h1 rfl dX8_value_49 ?_
        refine g_il1n (pc := 52) C dX8_value_52 ?_
        refine s_aald (pc := 53) (q := 2) C h2 (by decide) rfl rfl (by decide) dX8_value_53 ?_
        refine g_il7 (pc := 54) C dX8_value_54 ?_
        refine s_ialdv (pc := 56) (q := i) (v := (-133)) C h5 rfl (by omega) (Nat.le_of_ble_eq_true rfl) (by rw [hv 5 (by decide)]; exact ((hT.2.2.1 i (by omega)).2).trans (by rw [e]; decide)) dX8_value_56 ?_
        refine g_il6 (pc := 57) C dX8_value_57 ?_
        refine s_VI (pc := 59) (st := []) C h1 rfl (c_step10107 (d := d - 1) (by omega) τ (t := u) (by omega)) (by omega) lX8_32 dX8_value_59 rfl (Nat.le_of_ble_eq_true rfl) rfl ?_
        refine g_is6 (pc := 62) C dX8_value_62 ?_
        refine g_ii7 (pc := 64) (v := nI (i + 1)) C dX8_value_64 (nI_inc1 _) ?_
        refine g_goto (pc := 67) (tgt := 36) C dX8_value_67 (by decide) ?_
        exact ih (i + 1) _ _ (by omega) (hv.tr (Eqx.up (by decide))) ⟨hn0, hn1, hn2, hn3⟩ hV
      · replace e : cs i = 10108 := e.trans (by decide)
        obtain ⟨u, rfl, hV⟩ := VI_op hv2 e (by decide) (by decide) (depT_back hT.2.2.2 (i + 1) (by omega))
        refine g_al0n (pc := 47) C dX8_value_47 ?_
        refine g_al0n (pc := 48) C dX8_value_48 ?_
        refine s_getR (pc := 49) C fX8_13 h1 rfl dX8_value_49 ?_
        refine g_il1n (pc := 52) C dX8_value_52 ?_
        refine s_aald (pc := 53) (q := 2) C h2 (by decide) rfl rfl (by decide) dX8_value_53 ?_
        refine g_il7 (pc := 54) C dX8_value_54 ?_
        refine s_ialdv (pc := 56) (q := i) (v := (-142)) C h5 rfl (by omega) (Nat.le_of_ble_eq_true rfl) (by rw [hv 5 (by decide)]; exact ((hT.2.2.1 i (by omega)).2).trans (by rw [e]; decide)) dX8_value_56 ?_
        refine g_il6 (pc := 57) C dX8_value_57 ?_
        refine s_VI (pc := 59) (st := []) C h1 rfl (c_step10108 (d := d - 1) (by omega) τ (t := u) (by omega)) (by omega) lX8_32 dX8_value_59 rfl (Nat.le_of_ble_eq_true rfl) rfl ?_
        refine g_is6 (pc := 62) C dX8_value_62 ?_
        refine g_ii7 (pc := 64) (v := nI (i + 1)) C dX8_value_64 (nI_inc1 _) ?_
        refine g_goto (pc := 67) (tgt := 36) C dX8_value_67 (by decide) ?_
        exact ih (i + 1) _ _ (by omega) (hv.tr (Eqx.up (by decide))) ⟨hn0, hn1, hn2, hn3⟩ hV
      · replace e : cs i = 10109 := e.trans (by decide)
        obtain ⟨u, rfl, hV⟩ := VI_op hv2 e (by decide) (by decide) (depT_back hT.2.2.2 (i + 1) (by omega))
        refine g_al0n (pc := 47) C dX8_value_47 ?_
        refine g_al0n (pc := 48) C dX8_value_48 ?_
        refine s_getR (pc := 49) C fX8_13 h1 rfl dX8_value_49 ?_
        refine g_il1n (pc := 52) C dX8_value_52 ?_
        refine s_aald (pc := 53) (q := 2) C h2 (by decide) rfl rfl (by decide) dX8_value_53 ?_
        refine g_il7 (pc := 54) C dX8_value_54 ?_
        refine s_ialdv (pc := 56) (q := i) (v := (-147)) C h5 rfl (by omega) (Nat.le_of_ble_eq_true rfl) (by rw [hv 5 (by decide)]; exact ((hT.2.2.1 i (by omega)).2).trans (by rw [e]; decide)) dX8_value_56 ?_
        refine g_il6 (pc := 57) C dX8_value_57 ?_
        refine s_VI (pc := 59) (st := []) C h1 rfl (c_step10109 (d := d - 1) (by omega) τ (t := u) (by omega)) (by omega) lX8_32 dX8_value_59 rfl (Nat.le_of_ble_eq_true rfl) rfl ?_
        refine g_is6 (pc := 62) C dX8_value_62 ?_
        refine g_ii7 (pc := 64) (v := nI (i + 1)) C dX8_value_64 (nI_inc1 _) ?_
        refine g_goto (pc := 67) (tgt := 36) C dX8_value_67 (by decide) ?_
        exact ih (i + 1) _ _ (by omega) (hv.tr (Eqx.up (by decide))) ⟨hn0, hn1, hn2, hn3⟩ hV

theorem c_value2 {d : Nat} (hd : 3 ≤ d) (σ : Sg) {cs : Nu} {len : Nat} (hT : RT1 σ cs len 2) (h m k w : Int32) : CP d mX8_value [.ref 1, .int 2, .int h, .int m, .int k, .int w] σ (fun v τ' => v = (runT cs h m k w len).headD 0 ∧ Eqx [10, 11] σ τ') := by
  refine con_of (by decide) (catL rfl) (Nat.le_of_ble_eq_true rfl) ?_
  intro μ ω C hr
  have C : Cx μ ω "TowField$Texts" cX8_value 8 d := C
  have hr : (mH μ).sig.returnType = some .int := hr
  show G μ ω (RQ μ ω (pP (fun v τ' => v = (runT cs h m k w len).headD 0 ∧ Eqx [10, 11] σ τ'))) 0 [some (.ref 1), some (.int 2), some (.int h), some (.int m), some (.int k), some (.int w), none, none] [] (mk σ) 0 0
  refine g_al0n (pc := 0) C dX8_value_0 ?_
  refine s_getR (pc := 1) C fX8_20 h1 rfl dX8_value_1 ?_
  refine g_iconst (pc := 4) (v := 0) C dX8_value_4 (by decide) ?_
  refine g_il2n (pc := 5) C dX8_value_5 ?_
  refine s_iast (pc := 6) (q := 0) C h10 rfl (by omega) (Nat.le_of_ble_eq_true rfl) dX8_value_6 ?_
  refine g_al0n (pc := 7) C dX8_value_7 ?_
  refine s_getR (pc := 8) C fX8_20 h1 rfl dX8_value_8 ?_
  refine g_iconst (pc := 11) (v := 1) C dX8_value_11 (by decide) ?_
  refine g_il3n (pc := 12) C dX8_value_12 ?_
  refine s_iast (pc := 13) (q := 1) C h10 rfl (by omega) (Nat.le_of_ble_eq_true rfl) dX8_value_13 ?_
  refine g_al0n (pc := 14) C dX8_value_14 ?_
  refine s_getR (pc := 15) C fX8_20 h1 rfl dX8_value_15 ?_
  refine g_iconst (pc := 18) (v := 2) C dX8_value_18 (by decide) ?_
  refine g_il4 (pc := 19) C dX8_value_19 ?_
  refine s_iast (pc := 21) (q := 2) C h10 rfl (by omega) (Nat.le_of_ble_eq_true rfl) dX8_value_21 ?_
  refine g_al0n (pc := 22) C dX8_value_22 ?_
  refine s_getR (pc := 23) C fX8_20 h1 rfl dX8_value_23 ?_
  refine g_iconst (pc := 26) (v := 3) C dX8_value_26 (by decide) ?_
  refine g_il5 (pc := 27) C dX8_value_27 ?_
  refine s_iast (pc := 29) (q := 3) C h10 rfl (by omega) (Nat.le_of_ble_eq_true rfl) dX8_value_29 ?_
  refine g_iconst (pc := 30) (v := 0) C dX8_value_30 (by decide) ?_
  refine g_is6 (pc := 31) C dX8_value_31 ?_
  refine g_iconst (pc := 33) (v := 0) C dX8_value_33 (by decide) ?_
  refine g_is7 (pc := 34) C dX8_value_34 ?_
  exact lp_value2 hd C hr σ hT h m k w len 0 0 _ (by omega) (fun z hz => by simp at hz; simp only [up_ne _ _ _ hz.1]) ⟨rfl, rfl, rfl, rfl⟩ ⟨rfl, trivial, rfl⟩

theorem lp_value3 {μ : Mx} {ω : Om} {d : Nat} (hd : 3 ≤ d) (C : Cx μ ω "TowField$Texts" cX8_value 8 d) (hr : (mH μ).sig.returnType = some .int) (σ : Sg) {cs : Nu} {len : Nat} (hT : RT1 σ cs len 3) (h m k w : Int32) : ∀ (f i : Nat) (q : Nat) (τ : Sg), i + f = len → (Eqx [10, 11] σ τ) → (τ 10 0 = h ∧ τ 10 1 = m ∧ τ 10 2 = k ∧ τ 10 3 = w) → (VI cs h m k w i q (τ 11)) → G μ ω (RQ μ ω (pP (fun v τ' => v = (runT cs h m k w len).headD 0 ∧ Eqx [10, 11] σ τ'))) 36 [some (.ref 1), some (.int 3), some (.int h), some (.int m), some (.int k), some (.int w), some (.int (nI q)), some (.int (nI i))] [] (mk τ) 0 0 := by
  intro f
  induction f with
  | zero =>
    intro i q τ hif hv hv1 hv2
    have hin : i = len := by omega
    have hl := hT.1
    refine g_il7 (pc := 36) C dX8_value_36 ?_
    refine g_al0n (pc := 38) C dX8_value_38 ?_
    refine s_getR (pc := 39) C fX8_16 h1 rfl dX8_value_39 ?_
    refine g_il1n (pc := 42) C dX8_value_42 ?_
    refine s_ialdv (pc := 43) (q := 3) (v := nI len) C h9 rfl (by omega) (Nat.le_of_ble_eq_true rfl) (by rw [hv 9 (by decide)]; exact hT.2.1) dX8_value_43 ?_
    refine g_icmp_geL (pc := 44) (tgt := 70) C dX8_value_44 (by decide) (fun c_44 => ?_) (fun c_44 => absurd c_44 (nI_nlt (by omega) (by omega)))
    refine g_al0n (pc := 70) C dX8_value_70 ?_
    refine s_getR (pc := 71) C fX8_23 h1 rfl dX8_value_71 ?_
    refine g_iconst (pc := 74) (v := 0) C dX8_value_74 (by decide) ?_
    refine s_iald (pc := 75) (q := 0) C h11 rfl (by omega) (Nat.le_of_ble_eq_true rfl) dX8_value_75 ?_
    subst hin
    have hq : q = 1 := Option.some.inj (hv2.1.symm.trans hT.2.2.2)
    subst hq
    obtain ⟨x, hL⟩ : ∃ x, runT cs h m k w i = [x] := List.length_eq_one_iff.mp hv2.2.2
    have hp := hv2.2.1
    rw [hL] at hp
    exact r_P C hr dX8_value_76 ⟨by rw [hL]; exact hp.1, hv⟩
  | succ f ih =>
    intro i q τ hif hv hv1 hv2
    have hl := hT.1
    obtain ⟨hn0, hn1, hn2, hn3⟩ := hv1
    have hqi := VI_le hv2
    refine g_il7 (pc := 36) C dX8_value_36 ?_
    refine g_al0n (pc := 38) C dX8_value_38 ?_
    refine s_getR (pc := 39) C fX8_16 h1 rfl dX8_value_39 ?_
    refine g_il1n (pc := 42) C dX8_value_42 ?_
    refine s_ialdv (pc := 43) (q := 3) (v := nI len) C h9 rfl (by omega) (Nat.le_of_ble_eq_true rfl) (by rw [hv 9 (by decide)]; exact hT.2.1) dX8_value_43 ?_
    refine g_icmp_geL (pc := 44) (tgt := 70) C dX8_value_44 (by decide) (fun c_44 => absurd (nI_lt (by omega) (by omega)) c_44) (fun c_44 => ?_)
    rcases (hT.2.2.1 i (by omega)).1 with ⟨j, hj, e⟩ | ⟨j, hj, e⟩ | ⟨j, hj, e⟩
    · refine g_al0n (pc := 47) C dX8_value_47 ?_
      refine g_al0n (pc := 48) C dX8_value_48 ?_
      refine s_getR (pc := 49) C fX8_13 h1 rfl dX8_value_49 ?_
      refine g_il1n (pc := 52) C dX8_value_52 ?_
      refine s_aald (pc := 53) (q := 3) C h2 (by decide) rfl rfl (by decide) dX8_value_53 ?_
      refine g_il7 (pc := 54) C dX8_value_54 ?_
      refine s_ialdv (pc := 56) (q := i) (v := nI j) C h6 rfl (by omega) (Nat.le_of_ble_eq_true rfl) (by rw [hv 6 (by decide)]; exact ((hT.2.2.1 i (by omega)).2).trans (by rw [e]; exact clC_num hj)) dX8_value_56 ?_
      refine g_il6 (pc := 57) C dX8_value_57 ?_
      refine s_VI (pc := 59) (st := []) C h1 rfl (c_stepN (d := d - 1) (by omega) τ (k := j) hj (t := q) (by omega)) (by omega) lX8_32 dX8_value_59 rfl (Nat.le_of_ble_eq_true rfl) rfl ?_
      refine g_is6 (pc := 62) C dX8_value_62 ?_
      refine g_ii7 (pc := 64) (v := nI (i + 1)) C dX8_value_64 (nI_inc1 _) ?_
      refine g_goto (pc := 67) (tgt := 36) C dX8_value_67 (by decide) ?_
      exact ih (i + 1) _ _ (by omega) (hv.tr (Eqx.up (by decide))) ⟨hn0, hn1, hn2, hn3⟩ (VI_num hv2 hj e)
    · rcases (show j = 0 ∨ j = 1 ∨ j = 2 ∨ j = 3 by omega) with rfl | rfl | rfl | rfl
      · refine g_al0n (pc := 47) C dX8_value_47 ?_
        refine g_al0n (pc := 48) C dX8_value_48 ?_
        refine s_getR (pc := 49) C fX8_13 h1 rfl dX8_value_49 ?_
        refine g_il1n (pc := 52) C dX8_value_52 ?_
        refine s_aald (pc := 53) (q := 3) C h2 (by decide) rfl rfl (by decide) dX8_value_53 ?_
        refine g_il7 (pc := 54) C dX8_value_54 ?_
        refine s_ialdv (pc := 56) (q := i) (v := (-1)) C h6 rfl (by omega) (Nat.le_of_ble_eq_true rfl) (by rw [hv 6 (by decide)]; exact ((hT.2.2.1 i (by omega)).2).trans (by rw [e]; decide)) dX8_value_56 ?_
        refine g_il6 (pc := 57) C dX8_value_57 ?_
        refine s_VI (pc := 59) (st := []) C h1 rfl (c_stepV0 (d := d - 1) (by omega) τ (t := q) (by omega)) (by omega) lX8_32 dX8_value_59 rfl (Nat.le_of_ble_eq_true rfl) rfl ?_
        refine g_is6 (pc := 62) C dX8_value_62 ?_
        refine g_ii7 (pc := 64) (v := nI (i + 1)) C dX8_value_64 (nI_inc1 _) ?_
        refine g_goto (pc := 67) (tgt := 36) C dX8_value_67 (by decide) ?_
        exact ih (i + 1) _ _ (by omega) (hv.tr (Eqx.up (by decide))) ⟨hn0, hn1, hn2, hn3⟩ (VI_name hv2 hj e (by rw [e]; exact hn0.symm))
      · refine g_al0n (pc := 47) C dX8_value_47 ?_
        refine g_al0n (pc := 48) C dX8_value_48 ?_
        refine s_getR (pc := 49) C fX8_13 h1 rfl dX8_value_49 ?_
        refine g_il1n (pc := 52) C dX8_value_52 ?_
        refine s_aald (pc := 53) (q := 3) C h2 (by decide) rfl rfl (by decide) dX8_value_53 ?_
        refine g_il7 (pc := 54) C dX8_value_54 ?_
        refine s_ialdv (pc := 56) (q := i) (v := (-2)) C h6 rfl (by omega) (Nat.le_of_ble_eq_true rfl) (by rw [hv 6 (by decide)]; exact ((hT.2.2.1 i (by omega)).2).trans (by rw [e]; decide)) dX8_value_56 ?_
        refine g_il6 (pc := 57) C dX8_value_57 ?_
        refine s_VI (pc := 59) (st := []) C h1 rfl (c_stepV1 (d := d - 1) (by omega) τ (t := q) (by omega)) (by omega) lX8_32 dX8_value_59 rfl (Nat.le_of_ble_eq_true rfl) rfl ?_
        refine g_is6 (pc := 62) C dX8_value_62 ?_
        refine g_ii7 (pc := 64) (v := nI (i + 1)) C dX8_value_64 (nI_inc1 _) ?_
        refine g_goto (pc := 67) (tgt := 36) C dX8_value_67 (by decide) ?_
        exact ih (i + 1) _ _ (by omega) (hv.tr (Eqx.up (by decide))) ⟨hn0, hn1, hn2, hn3⟩ (VI_name hv2 hj e (by rw [e]; exact hn1.symm))
      · refine g_al0n (pc := 47) C dX8_value_47 ?_
        refine g_al0n (pc := 48) C dX8_value_48 ?_
        refine s_getR (pc := 49) C fX8_13 h1 rfl dX8_value_49 ?_
        refine g_il1n (pc := 52) C dX8_value_52 ?_
        refine s_aald (pc := 53) (q := 3) C h2 (by decide) rfl rfl (by decide) dX8_value_53 ?_
        refine g_il7 (pc := 54) C dX8_value_54 ?_
        refine s_ialdv (pc := 56) (q := i) (v := (-3)) C h6 rfl (by omega) (Nat.le_of_ble_eq_true rfl) (by rw [hv 6 (by decide)]; exact ((hT.2.2.1 i (by omega)).2).trans (by rw [e]; decide)) dX8_value_56 ?_
        refine g_il6 (pc := 57) C dX8_value_57 ?_
        refine s_VI (pc := 59) (st := []) C h1 rfl (c_stepV2 (d := d - 1) (by omega) τ (t := q) (by omega)) (by omega) lX8_32 dX8_value_59 rfl (Nat.le_of_ble_eq_true rfl) rfl ?_
        refine g_is6 (pc := 62) C dX8_value_62 ?_
        refine g_ii7 (pc := 64) (v := nI (i + 1)) C dX8_value_64 (nI_inc1 _) ?_
        refine g_goto (pc := 67) (tgt := 36) C dX8_value_67 (by decide) ?_
        exact ih (i + 1) _ _ (by omega) (hv.tr (Eqx.up (by decide))) ⟨hn0, hn1, hn2, hn3⟩ (VI_name hv2 hj e (by rw [e]; exact hn2.symm))
      · refine g_al0n (pc := 47) C dX8_value_47 ?_
        refine g_al0n (pc := 48) C dX8_value_48 ?_
        refine s_getR (pc := 49) C fX8_13 h1 rfl dX8_value_49 ?_
        refine g_il1n (pc := 52) C dX8_value_52 ?_
        refine s_aald (pc := 53) (q := 3) C h2 (by decide) rfl rfl (by decide) dX8_value_53 ?_
        refine g_il7 (pc := 54) C dX8_value_54 ?_
        refine s_ialdv (pc := 56) (q := i) (v := (-4)) C h6 rfl (by omega) (Nat.le_of_ble_eq_true rfl) (by rw [hv 6 (by decide)]; exact ((hT.2.2.1 i (by omega)).2).trans (by rw [e]; decide)) dX8_value_56 ?_
        refine g_il6 (pc := 57) C dX8_value_57 ?_
        refine s_VI (pc := 59) (st := []) C h1 rfl (c_stepV3 (d := d - 1) (by omega) τ (t := q) (by omega)) (by omega) lX8_32 dX8_value_59 rfl (Nat.le_of_ble_eq_true rfl) rfl ?_
        refine g_is6 (pc := 62) C dX8_value_62 ?_
        refine g_ii7 (pc := 64) (v := nI (i + 1)) C dX8_value_64 (nI_inc1 _) ?_
        refine g_goto (pc := 67) (tgt := 36) C dX8_value_67 (by decide) ?_
        exact ih (i + 1) _ _ (by omega) (hv.tr (Eqx.up (by decide))) ⟨hn0, hn1, hn2, hn3⟩ (VI_name hv2 hj e (by rw [e]; exact hn3.symm))
    · rcases (show j = 0 ∨ j = 1 ∨ j = 2 ∨ j = 3 ∨ j = 4 ∨ j = 5 ∨ j = 6 ∨ j = 7 ∨ j = 8 ∨ j = 9 by omega) with rfl | rfl | rfl | rfl | rfl | rfl | rfl | rfl | rfl | rfl
      · replace e : cs i = 10100 := e.trans (by decide)
        obtain ⟨u, rfl, hV⟩ := VI_op hv2 e (by decide) (by decide) (depT_back hT.2.2.2 (i + 1) (by omega))
        refine g_al0n (pc := 47) C dX8_value_47 ?_
        refine g_al0n (pc := 48) C dX8_value_48 ?_
        refine s_getR (pc := 49) C fX8_13 h1 rfl dX8_value_49 ?_
        refine g_il1n (pc := 52) C dX8_value_52 ?_
        refine s_aald (pc := 53) (q := 3) C h2 (by decide) rfl rfl (by decide) dX8_value_53 ?_
        refine g_il7 (pc := 54) C dX8_value_54 ?_
        refine s_ialdv (pc := 56) (q := i) (v := (-143)) C h6 rfl (by omega) (Nat.le_of_ble_eq_true rfl) (by rw [hv 6 (by decide)]; exact ((hT.2.2.1 i (by omega)).2).trans (by rw [e]; decide)) dX8_value_56 ?_
        refine g_il6 (pc := 57) C dX8_value_57 ?_
        refine s_VI (pc := 59) (st := []) C h1 rfl (c_step10100 (d := d - 1) (by omega) τ (t := u) (by omega)) (by omega) lX8_32 dX8_value_59 rfl (Nat.le_of_ble_eq_true rfl) rfl ?_
        refine g_is6 (pc := 62) C dX8_value_62 ?_
        refine g_ii7 (pc := 64) (v := nI (i + 1)) C dX8_value_64 (nI_inc1 _) ?_
        refine g_goto (pc := 67) (tgt := 36) C dX8_value_67 (by decide) ?_
        exact ih (i + 1) _ _ (by omega) (hv.tr (Eqx.up (by decide))) ⟨hn0, hn1, hn2, hn3⟩ hV
      · replace e : cs i = 10101 := e.trans (by decide)
        obtain ⟨u, rfl, hV⟩ := VI_op hv2 e (by decide) (by decide) (depT_back hT.2.2.2 (i + 1) (by omega))
        refine g_al0n (pc := 47) C dX8_value_47 ?_
        refine g_al0n (pc := 48) C dX8_value_48 ?_
        refine s_getR (pc := 49) C fX8_13 h1 rfl dX8_value_49 ?_
        refine g_il1n (pc := 52) C dX8_value_52 ?_
        refine s_aald (pc := 53) (q := 3) C h2 (by decide) rfl rfl (by decide) dX8_value_53 ?_
        refine g_il7 (pc := 54) C dX8_value_54 ?_
        refine s_ialdv (pc := 56) (q := i) (v := (-145)) C h6 rfl (by omega) (Nat.le_of_ble_eq_true rfl) (by rw [hv 6 (by decide)]; exact ((hT.2.2.1 i (by omega)).2).trans (by rw [e]; decide)) dX8_value_56 ?_
        refine g_il6 (pc := 57) C dX8_value_57 ?_
        refine s_VI (pc := 59) (st := []) C h1 rfl (c_step10101 (d := d - 1) (by omega) τ (t := u) (by omega)) (by omega) lX8_32 dX8_value_59 rfl (Nat.le_of_ble_eq_true rfl) rfl ?_
        refine g_is6 (pc := 62) C dX8_value_62 ?_
        refine g_ii7 (pc := 64) (v := nI (i + 1)) C dX8_value_64 (nI_inc1 _) ?_
        refine g_goto (pc := 67) (tgt := 36) C dX8_value_67 (by decide) ?_
        exact ih (i + 1) _ _ (by omega) (hv.tr (Eqx.up (by decide))) ⟨hn0, hn1, hn2, hn3⟩ hV
      · replace e : cs i = 10102 := e.trans (by decide)
        obtain ⟨u, rfl, hV⟩ := VI_op hv2 e (by decide) (by decide) (depT_back hT.2.2.2 (i + 1) (by omega))
        refine g_al0n (pc := 47) C dX8_value_47 ?_
        refine g_al0n (pc := 48) C dX8_value_48 ?_
        refine s_getR (pc := 49) C fX8_13 h1 rfl dX8_value_49 ?_
        refine g_il1n (pc := 52) C dX8_value_52 ?_
        refine s_aald (pc := 53) (q := 3) C h2 (by decide) rfl rfl (by decide) dX8_value_53 ?_
        refine g_il7 (pc := 54) C dX8_value_54 ?_
        refine s_ialdv (pc := 56) (q := i) (v := (-160)) C h6 rfl (by omega) (Nat.le_of_ble_eq_true rfl) (by rw [hv 6 (by decide)]; exact ((hT.2.2.1 i (by omega)).2).trans (by rw [e]; decide)) dX8_value_56 ?_
        refine g_il6 (pc := 57) C dX8_value_57 ?_
        refine s_VI (pc := 59) (st := []) C h1 rfl (c_step10102 (d := d - 1) (by omega) τ (t := u) (by omega)) (by omega) lX8_32 dX8_value_59 rfl (Nat.le_of_ble_eq_true rfl) rfl ?_
        refine g_is6 (pc := 62) C dX8_value_62 ?_
        refine g_ii7 (pc := 64) (v := nI (i + 1)) C dX8_value_64 (nI_inc1 _) ?_
        refine g_goto (pc := 67) (tgt := 36) C dX8_value_67 (by decide) ?_
        exact ih (i + 1) _ _ (by omega) (hv.tr (Eqx.up (by decide))) ⟨hn0, hn1, hn2, hn3⟩ hV
      · replace e : cs i = 10103 := e.trans (by decide)
        obtain ⟨u, rfl, hV⟩ := VI_op hv2 e (by decide) (by decide) (depT_back hT.2.2.2 (i + 1) (by omega))
        refine g_al0n (pc := 47) C dX8_value_47 ?_
        refine g_al0n (pc := 48) C dX8_value_48 ?_
        refine s_getR (pc := 49) C fX8_13 h1 rfl dX8_value_49 ?_
        refine g_il1n (pc := 52) C dX8_value_52 ?_
        refine s_aald (pc := 53) (q := 3) C h2 (by decide) rfl rfl (by decide) dX8_value_53 ?_
        refine g_il7 (pc := 54) C dX8_value_54 ?_
        refine s_ialdv (pc := 56) (q := i) (v := (-161)) C h6 rfl (by omega) (Nat.le_of_ble_eq_true rfl) (by rw [hv 6 (by decide)]; exact ((hT.2.2.1 i (by omega)).2).trans (by rw [e]; decide)) dX8_value_56 ?_
        refine g_il6 (pc := 57) C dX8_value_57 ?_
        refine s_VI (pc := 59) (st := []) C h1 rfl (c_step10103 (d := d - 1) (by omega) τ (t := u) (by omega)) (by omega) lX8_32 dX8_value_59 rfl (Nat.le_of_ble_eq_true rfl) rfl ?_
        refine g_is6 (pc := 62) C dX8_value_62 ?_
        refine g_ii7 (pc := 64) (v := nI (i + 1)) C dX8_value_64 (nI_inc1 _) ?_
        refine g_goto (pc := 67) (tgt := 36) C dX8_value_67 (by decide) ?_
        exact ih (i + 1) _ _ (by omega) (hv.tr (Eqx.up (by decide))) ⟨hn0, hn1, hn2, hn3⟩ hV
      · replace e : cs i = 10104 := e.trans (by decide)
        obtain ⟨u, rfl, hV⟩ := VI_op hv2 e (by decide) (by decide) (depT_back hT.2.2.2 (i + 1) (by omega))
        refine g_al0n (pc := 47) C dX8_value_47 ?_
        refine g_al0n (pc := 48) C dX8_value_48 ?_
        refine s_getR (pc := 49) C fX8_13 h1 rfl dX8_value_49 ?_
        refine g_il1n (pc := 52) C dX8_value_52 ?_
        refine s_aald (pc := 53) (q := 3) C h2 (by decide) rfl rfl (by decide) dX8_value_53 ?_
        refine g_il7 (pc := 54) C dX8_value_54 ?_
        refine s_ialdv (pc := 56) (q := i) (v := (-162)) C h6 rfl (by omega) (Nat.le_of_ble_eq_true rfl) (by rw [hv 6 (by decide)]; exact ((hT.2.2.1 i (by omega)).2).trans (by rw [e]; decide)) dX8_value_56 ?_
        refine g_il6 (pc := 57) C dX8_value_57 ?_
        refine s_VI (pc := 59) (st := []) C h1 rfl (c_step10104 (d := d - 1) (by omega) τ (t := u) (by omega)) (by omega) lX8_32 dX8_value_59 rfl (Nat.le_of_ble_eq_true rfl) rfl ?_
        refine g_is6 (pc := 62) C dX8_value_62 ?_
        refine g_ii7 (pc := 64) (v := nI (i + 1)) C dX8_value_64 (nI_inc1 _) ?_
        refine g_goto (pc := 67) (tgt := 36) C dX8_value_67 (by decide) ?_
        exact ih (i + 1) _ _ (by omega) (hv.tr (Eqx.up (by decide))) ⟨hn0, hn1, hn2, hn3⟩ hV
      · replace e : cs i = 10105 := e.trans (by decide)
        obtain ⟨u, rfl, hV⟩ := VI_op hv2 e (by decide) (by decide) (depT_back hT.2.2.2 (i + 1) (by omega))
        refine g_al0n (pc := 47) C dX8_value_47 ?_
        refine g_al0n (pc := 48) C dX8_value_48 ?_
        refine s_getR (pc := 49) C fX8_13 h1 rfl dX8_value_49 ?_
        refine g_il1n (pc := 52) C dX8_value_52 ?_
        refine s_aald (pc := 53) (q := 3) C h2 (by decide) rfl rfl (by decide) dX8_value_53 ?_
        refine g_il7 (pc := 54) C dX8_value_54 ?_
        refine s_ialdv (pc := 56) (q := i) (v := (-138)) C h6 rfl (by omega) (Nat.le_of_ble_eq_true rfl) (by rw [hv 6 (by decide)]; exact ((hT.2.2.1 i (by omega)).2).trans (by rw [e]; decide)) dX8_value_56 ?_
        refine g_il6 (pc := 57) C dX8_value_57 ?_
        refine s_VI (pc := 59) (st := []) C h1 rfl (c_step10105 (d := d - 1) (by omega) τ (t := u) (by omega)) (by omega) lX8_32 dX8_value_59 rfl (Nat.le_of_ble_eq_true rfl) rfl ?_
        refine g_is6 (pc := 62) C dX8_value_62 ?_
        refine g_ii7 (pc := 64) (v := nI (i + 1)) C dX8_value_64 (nI_inc1 _) ?_
        refine g_goto (pc := 67) (tgt := 36) C dX8_value_67 (by decide) ?_
        exact ih (i + 1) _ _ (by omega) (hv.tr (Eqx.up (by decide))) ⟨hn0, hn1, hn2, hn3⟩ hV
      · replace e : cs i = 10106 := e.trans (by decide)
        obtain ⟨u, rfl, hV⟩ := VI_op hv2 e (by decide) (by decide) (depT_back hT.2.2.2 (i + 1) (by omega))
        refine g_al0n (pc := 47) C dX8_value_47 ?_
        refine g_al0n (pc := 48) C dX8_value_48 ?_
        refine s_getR (pc := 49) C fX8_13 h1 rfl dX8_value_49 ?_
        refine g_il1n (pc := 52) C dX8_value_52 ?_
        refine s_aald (pc := 53) (q := 3) C h2 (by decide) rfl rfl (by decide) dX8_value_53 ?_
        refine g_il7 (pc := 54) C dX8_value_54 ?_
        refine s_ialdv (pc := 56) (q := i) (v := (-224)) C h6 rfl (by omega) (Nat.le_of_ble_eq_true rfl) (by rw [hv 6 (by decide)]; exact ((hT.2.2.1 i (by omega)).2).trans (by rw [e]; decide)) dX8_value_56 ?_
        refine g_il6 (pc := 57) C dX8_value_57 ?_
        refine s_VI (pc := 59) (st := []) C h1 rfl (c_step10106 (d := d - 1) (by omega) τ (t := u) (by omega)) (by omega) lX8_32 dX8_value_59 rfl (Nat.le_of_ble_eq_true rfl) rfl ?_
        refine g_is6 (pc := 62) C dX8_value_62 ?_
        refine g_ii7 (pc := 64) (v := nI (i + 1)) C dX8_value_64 (nI_inc1 _) ?_
        refine g_goto (pc := 67) (tgt := 36) C dX8_value_67 (by decide) ?_
        exact ih (i + 1) _ _ (by omega) (hv.tr (Eqx.up (by decide))) ⟨hn0, hn1, hn2, hn3⟩ hV
      · replace e : cs i = 10107 := e.trans (by decide)
        obtain ⟨u, rfl, hV⟩ := VI_not hv2 e (depT_back hT.2.2.2 (i + 1) (by omega))
        refine g_al0n (pc := 47) C dX8_value_47 ?_
        refine g_al0n (pc := 48) C dX8_value_48 ?_
        refine s_getR (pc := 49) C fX8_13 h1 rfl dX8_value_49 ?_
        refine g_il1n (pc := 52) C dX8_value_52 ?_
        refine s_aald (pc := 53) (q := 3) C h2 (by decide) rfl rfl (by decide) dX8_value_53 ?_
        refine g_il7 (pc := 54) C dX8_value_54 ?_
        refine s_ialdv (pc := 56) (q := i) (v := (-133)) C h6 rfl (by omega) (Nat.le_of_ble_eq_true rfl) (by rw [hv 6 (by decide)]; exact ((hT.2.2.1 i (by omega)).2).trans (by rw [e]; decide)) dX8_value_56 ?_
        refine g_il6 (pc := 57) C dX8_value_57 ?_
        refine s_VI (pc := 59) (st := []) C h1 rfl (c_step10107 (d := d - 1) (by omega) τ (t := u) (by omega)) (by omega) lX8_32 dX8_value_59 rfl (Nat.le_of_ble_eq_true rfl) rfl ?_
        refine g_is6 (pc := 62) C dX8_value_62 ?_
        refine g_ii7 (pc := 64) (v := nI (i + 1)) C dX8_value_64 (nI_inc1 _) ?_
        refine g_goto (pc := 67) (tgt := 36) C dX8_value_67 (by decide) ?_
        exact ih (i + 1) _ _ (by omega) (hv.tr (Eqx.up (by decide))) ⟨hn0, hn1, hn2, hn3⟩ hV
      · replace e : cs i = 10108 := e.trans (by decide)
        obtain ⟨u, rfl, hV⟩ := VI_op hv2 e (by decide) (by decide) (depT_back hT.2.2.2 (i + 1) (by omega))
        refine g_al0n (pc := 47) C dX8_value_47 ?_
        refine g_al0n (pc := 48) C dX8_value_48 ?_
        refine s_getR (pc := 49) C fX8_13 h1 rfl dX8_value_49 ?_
        refine g_il1n (pc := 52) C dX8_value_52 ?_
        refine s_aald (pc := 53) (q := 3) C h2 (by decide) rfl rfl (by decide) dX8_value_53 ?_
        refine g_il7 (pc := 54) C dX8_value_54 ?_
        refine s_ialdv (pc := 56) (q := i) (v := (-142)) C h6 rfl (by omega) (Nat.le_of_ble_eq_true rfl) (by rw [hv 6 (by decide)]; exact ((hT.2.2.1 i (by omega)).2).trans (by rw [e]; decide)) dX8_value_56 ?_
        refine g_il6 (pc := 57) C dX8_value_57 ?_
        refine s_VI (pc := 59) (st := []) C h1 rfl (c_step10108 (d := d - 1) (by omega) τ (t := u) (by omega)) (by omega) lX8_32 dX8_value_59 rfl (Nat.le_of_ble_eq_true rfl) rfl ?_
        refine g_is6 (pc := 62) C dX8_value_62 ?_
        refine g_ii7 (pc := 64) (v := nI (i + 1)) C dX8_value_64 (nI_inc1 _) ?_
        refine g_goto (pc := 67) (tgt := 36) C dX8_value_67 (by decide) ?_
        exact ih (i + 1) _ _ (by omega) (hv.tr (Eqx.up (by decide))) ⟨hn0, hn1, hn2, hn3⟩ hV
      · replace e : cs i = 10109 := e.trans (by decide)
        obtain ⟨u, rfl, hV⟩ := VI_op hv2 e (by decide) (by decide) (depT_back hT.2.2.2 (i + 1) (by omega))
        refine g_al0n (pc := 47) C dX8_value_47 ?_
        refine g_al0n (pc := 48) C dX8_value_48 ?_
        refine s_getR (pc := 49) C fX8_13 h1 rfl dX8_value_49 ?_
        refine g_il1n (pc := 52) C dX8_value_52 ?_
        refine s_aald (pc := 53) (q := 3) C h2 (by decide) rfl rfl (by decide) dX8_value_53 ?_
        refine g_il7 (pc := 54) C dX8_value_54 ?_
        refine s_ialdv (pc := 56) (q := i) (v := (-147)) C h6 rfl (by omega) (Nat.le_of_ble_eq_true rfl) (by rw [hv 6 (by decide)]; exact ((hT.2.2.1 i (by omega)).2).trans (by rw [e]; decide)) dX8_value_56 ?_
        refine g_il6 (pc := 57) C dX8_value_57 ?_
        refine s_VI (pc := 59) (st := []) C h1 rfl (c_step10109 (d := d - 1) (by omega) τ (t := u) (by omega)) (by omega) lX8_32 dX8_value_59 rfl (Nat.le_of_ble_eq_true rfl) rfl ?_
        refine g_is6 (pc := 62) C dX8_value_62 ?_
        refine g_ii7 (pc := 64) (v := nI (i + 1)) C dX8_value_64 (nI_inc1 _) ?_
        refine g_goto (pc := 67) (tgt := 36) C dX8_value_67 (by decide) ?_
        exact ih (i + 1) _ _ (by omega) (hv.tr (Eqx.up (by decide))) ⟨hn0, hn1, hn2, hn3⟩ hV

theorem c_value3 {d : Nat} (hd : 3 ≤ d) (σ : Sg) {cs : Nu} {len : Nat} (hT : RT1 σ cs len 3) (h m k w : Int32) : CP d mX8_value [.ref 1, .int 3, .int h, .int m, .int k, .int w] σ (fun v τ' => v = (runT cs h m k w len).headD 0 ∧ Eqx [10, 11] σ τ') := by
  refine con_of (by decide) (catL rfl) (Nat.le_of_ble_eq_true rfl) ?_
  intro μ ω C hr
  have C : Cx μ ω "TowField$Texts" cX8_value 8 d := C
  have hr : (mH μ).sig.returnType = some .int := hr
  show G μ ω (RQ μ ω (pP (fun v τ' => v = (runT cs h m k w len).headD 0 ∧ Eqx [10, 11] σ τ'))) 0 [some (.ref 1), some (.int 3), some (.int h), some (.int m), some (.int k), some (.int w), none, none] [] (mk σ) 0 0
  refine g_al0n (pc := 0) C dX8_value_0 ?_
  refine s_getR (pc := 1) C fX8_20 h1 rfl dX8_value_1 ?_
  refine g_iconst (pc := 4) (v := 0) C dX8_value_4 (by decide) ?_
  refine g_il2n (pc := 5) C dX8_value_5 ?_
  refine s_iast (pc := 6) (q := 0) C h10 rfl (by omega) (Nat.le_of_ble_eq_true rfl) dX8_value_6 ?_
  refine g_al0n (pc := 7) C dX8_value_7 ?_
  refine s_getR (pc := 8) C fX8_20 h1 rfl dX8_value_8 ?_
  refine g_iconst (pc := 11) (v := 1) C dX8_value_11 (by decide) ?_
  refine g_il3n (pc := 12) C dX8_value_12 ?_
  refine s_iast (pc := 13) (q := 1) C h10 rfl (by omega) (Nat.le_of_ble_eq_true rfl) dX8_value_13 ?_
  refine g_al0n (pc := 14) C dX8_value_14 ?_
  refine s_getR (pc := 15) C fX8_20 h1 rfl dX8_value_15 ?_
  refine g_iconst (pc := 18) (v := 2) C dX8_value_18 (by decide) ?_
  refine g_il4 (pc := 19) C dX8_value_19 ?_
  refine s_iast (pc := 21) (q := 2) C h10 rfl (by omega) (Nat.le_of_ble_eq_true rfl) dX8_value_21 ?_
  refine g_al0n (pc := 22) C dX8_value_22 ?_
  refine s_getR (pc := 23) C fX8_20 h1 rfl dX8_value_23 ?_
  refine g_iconst (pc := 26) (v := 3) C dX8_value_26 (by decide) ?_
  refine g_il5 (pc := 27) C dX8_value_27 ?_
  refine s_iast (pc := 29) (q := 3) C h10 rfl (by omega) (Nat.le_of_ble_eq_true rfl) dX8_value_29 ?_
  refine g_iconst (pc := 30) (v := 0) C dX8_value_30 (by decide) ?_
  refine g_is6 (pc := 31) C dX8_value_31 ?_
  refine g_iconst (pc := 33) (v := 0) C dX8_value_33 (by decide) ?_
  refine g_is7 (pc := 34) C dX8_value_34 ?_
  exact lp_value3 hd C hr σ hT h m k w len 0 0 _ (by omega) (fun z hz => by simp at hz; simp only [up_ne _ _ _ hz.1]) ⟨rfl, rfl, rfl, rfl⟩ ⟨rfl, trivial, rfl⟩

theorem lp_value4 {μ : Mx} {ω : Om} {d : Nat} (hd : 3 ≤ d) (C : Cx μ ω "TowField$Texts" cX8_value 8 d) (hr : (mH μ).sig.returnType = some .int) (σ : Sg) {cs : Nu} {len : Nat} (hT : RT1 σ cs len 4) (h m k w : Int32) : ∀ (f i : Nat) (q : Nat) (τ : Sg), i + f = len → (Eqx [10, 11] σ τ) → (τ 10 0 = h ∧ τ 10 1 = m ∧ τ 10 2 = k ∧ τ 10 3 = w) → (VI cs h m k w i q (τ 11)) → G μ ω (RQ μ ω (pP (fun v τ' => v = (runT cs h m k w len).headD 0 ∧ Eqx [10, 11] σ τ'))) 36 [some (.ref 1), some (.int 4), some (.int h), some (.int m), some (.int k), some (.int w), some (.int (nI q)), some (.int (nI i))] [] (mk τ) 0 0 := by
  intro f
  induction f with
  | zero =>
    intro i q τ hif hv hv1 hv2
    have hin : i = len := by omega
    have hl := hT.1
    refine g_il7 (pc := 36) C dX8_value_36 ?_
    refine g_al0n (pc := 38) C dX8_value_38 ?_
    refine s_getR (pc := 39) C fX8_16 h1 rfl dX8_value_39 ?_
    refine g_il1n (pc := 42) C dX8_value_42 ?_
    refine s_ialdv (pc := 43) (q := 4) (v := nI len) C h9 rfl (by omega) (Nat.le_of_ble_eq_true rfl) (by rw [hv 9 (by decide)]; exact hT.2.1) dX8_value_43 ?_
    refine g_icmp_geL (pc := 44) (tgt := 70) C dX8_value_44 (by decide) (fun c_44 => ?_) (fun c_44 => absurd c_44 (nI_nlt (by omega) (by omega)))
    refine g_al0n (pc := 70) C dX8_value_70 ?_
    refine s_getR (pc := 71) C fX8_23 h1 rfl dX8_value_71 ?_
    refine g_iconst (pc := 74) (v := 0) C dX8_value_74 (by decide) ?_
    refine s_iald (pc := 75) (q := 0) C h11 rfl (by omega) (Nat.le_of_ble_eq_true rfl) dX8_value_75 ?_
    subst hin
    have hq : q = 1 := Option.some.inj (hv2.1.symm.trans hT.2.2.2)
    subst hq
    obtain ⟨x, hL⟩ : ∃ x, runT cs h m k w i = [x] := List.length_eq_one_iff.mp hv2.2.2
    have hp := hv2.2.1
    rw [hL] at hp
    exact r_P C hr dX8_value_76 ⟨by rw [hL]; exact hp.1, hv⟩
  | succ f ih =>
    intro i q τ hif hv hv1 hv2
    have hl := hT.1
    obtain ⟨hn0, hn1, hn2, hn3⟩ := hv1
    have hqi := VI_le hv2
    refine g_il7 (pc := 36) C dX8_value_36 ?_
    refine g_al0n (pc := 38) C dX8_value_38 ?_
    refine s_getR (pc := 39) C fX8_16 h1 rfl dX8_value_39 ?_
    refine g_il1n (pc := 42) C dX8_value_42 ?_
    refine s_ialdv (pc := 43) (q := 4) (v := nI len) C h9 rfl (by omega) (Nat.le_of_ble_eq_true rfl) (by rw [hv 9 (by decide)]; exact hT.2.1) dX8_value_43 ?_
    refine g_icmp_geL (pc := 44) (tgt := 70) C dX8_value_44 (by decide) (fun c_44 => absurd (nI_lt (by omega) (by omega)) c_44) (fun c_44 => ?_)
    rcases (hT.2.2.1 i (by omega)).1 with ⟨j, hj, e⟩ | ⟨j, hj, e⟩ | ⟨j, hj, e⟩
    · refine g_al0n (pc := 47) C dX8_value_47 ?_
      refine g_al0n (pc := 48) C dX8_value_48 ?_
      refine s_getR (pc := 49) C fX8_13 h1 rfl dX8_value_49 ?_
      refine g_il1n (pc := 52) C dX8_value_52 ?_
      refine s_aald (pc := 53) (q := 4) C h2 (by decide) rfl rfl (by decide) dX8_value_53 ?_
      refine g_il7 (pc := 54) C dX8_value_54 ?_
      refine s_ialdv (pc := 56) (q := i) (v := nI j) C h7 rfl (by omega) (Nat.le_of_ble_eq_true rfl) (by rw [hv 7 (by decide)]; exact ((hT.2.2.1 i (by omega)).2).trans (by rw [e]; exact clC_num hj)) dX8_value_56 ?_
      refine g_il6 (pc := 57) C dX8_value_57 ?_
      refine s_VI (pc := 59) (st := []) C h1 rfl (c_stepN (d := d - 1) (by omega) τ (k := j) hj (t := q) (by omega)) (by omega) lX8_32 dX8_value_59 rfl (Nat.le_of_ble_eq_true rfl) rfl ?_
      refine g_is6 (pc := 62) C dX8_value_62 ?_
      refine g_ii7 (pc := 64) (v := nI (i + 1)) C dX8_value_64 (nI_inc1 _) ?_
      refine g_goto (pc := 67) (tgt := 36) C dX8_value_67 (by decide) ?_
      exact ih (i + 1) _ _ (by omega) (hv.tr (Eqx.up (by decide))) ⟨hn0, hn1, hn2, hn3⟩ (VI_num hv2 hj e)
    · rcases (show j = 0 ∨ j = 1 ∨ j = 2 ∨ j = 3 by omega) with rfl | rfl | rfl | rfl
      · refine g_al0n (pc := 47) C dX8_value_47 ?_
        refine g_al0n (pc := 48) C dX8_value_48 ?_
        refine s_getR (pc := 49) C fX8_13 h1 rfl dX8_value_49 ?_
        refine g_il1n (pc := 52) C dX8_value_52 ?_
        refine s_aald (pc := 53) (q := 4) C h2 (by decide) rfl rfl (by decide) dX8_value_53 ?_
        refine g_il7 (pc := 54) C dX8_value_54 ?_
        refine s_ialdv (pc := 56) (q := i) (v := (-1)) C h7 rfl (by omega) (Nat.le_of_ble_eq_true rfl) (by rw [hv 7 (by decide)]; exact ((hT.2.2.1 i (by omega)).2).trans (by rw [e]; decide)) dX8_value_56 ?_
        refine g_il6 (pc := 57) C dX8_value_57 ?_
        refine s_VI (pc := 59) (st := []) C h1 rfl (c_stepV0 (d := d - 1) (by omega) τ (t := q) (by omega)) (by omega) lX8_32 dX8_value_59 rfl (Nat.le_of_ble_eq_true rfl) rfl ?_
        refine g_is6 (pc := 62) C dX8_value_62 ?_
        refine g_ii7 (pc := 64) (v := nI (i + 1)) C dX8_value_64 (nI_inc1 _) ?_
        refine g_goto (pc := 67) (tgt := 36) C dX8_value_67 (by decide) ?_
        exact ih (i + 1) _ _ (by omega) (hv.tr (Eqx.up (by decide))) ⟨hn0, hn1, hn2, hn3⟩ (VI_name hv2 hj e (by rw [e]; exact hn0.symm))
      · refine g_al0n (pc := 47) C dX8_value_47 ?_
        refine g_al0n (pc := 48) C dX8_value_48 ?_
        refine s_getR (pc := 49) C fX8_13 h1 rfl dX8_value_49 ?_
        refine g_il1n (pc := 52) C dX8_value_52 ?_
        refine s_aald (pc := 53) (q := 4) C h2 (by decide) rfl rfl (by decide) dX8_value_53 ?_
        refine g_il7 (pc := 54) C dX8_value_54 ?_
        refine s_ialdv (pc := 56) (q := i) (v := (-2)) C h7 rfl (by omega) (Nat.le_of_ble_eq_true rfl) (by rw [hv 7 (by decide)]; exact ((hT.2.2.1 i (by omega)).2).trans (by rw [e]; decide)) dX8_value_56 ?_
        refine g_il6 (pc := 57) C dX8_value_57 ?_
        refine s_VI (pc := 59) (st := []) C h1 rfl (c_stepV1 (d := d - 1) (by omega) τ (t := q) (by omega)) (by omega) lX8_32 dX8_value_59 rfl (Nat.le_of_ble_eq_true rfl) rfl ?_
        refine g_is6 (pc := 62) C dX8_value_62 ?_
        refine g_ii7 (pc := 64) (v := nI (i + 1)) C dX8_value_64 (nI_inc1 _) ?_
        refine g_goto (pc := 67) (tgt := 36) C dX8_value_67 (by decide) ?_
        exact ih (i + 1) _ _ (by omega) (hv.tr (Eqx.up (by decide))) ⟨hn0, hn1, hn2, hn3⟩ (VI_name hv2 hj e (by rw [e]; exact hn1.symm))
      · refine g_al0n (pc := 47) C dX8_value_47 ?_
        refine g_al0n (pc := 48) C dX8_value_48 ?_
        refine s_getR (pc := 49) C fX8_13 h1 rfl dX8_value_49 ?_
        refine g_il1n (pc := 52) C dX8_value_52 ?_
        refine s_aald (pc := 53) (q := 4) C h2 (by decide) rfl rfl (by decide) dX8_value_53 ?_
        refine g_il7 (pc := 54) C dX8_value_54 ?_
        refine s_ialdv (pc := 56) (q := i) (v := (-3)) C h7 rfl (by omega) (Nat.le_of_ble_eq_true rfl) (by rw [hv 7 (by decide)]; exact ((hT.2.2.1 i (by omega)).2).trans (by rw [e]; decide)) dX8_value_56 ?_
        refine g_il6 (pc := 57) C dX8_value_57 ?_
        refine s_VI (pc := 59) (st := []) C h1 rfl (c_stepV2 (d := d - 1) (by omega) τ (t := q) (by omega)) (by omega) lX8_32 dX8_value_59 rfl (Nat.le_of_ble_eq_true rfl) rfl ?_
        refine g_is6 (pc := 62) C dX8_value_62 ?_
        refine g_ii7 (pc := 64) (v := nI (i + 1)) C dX8_value_64 (nI_inc1 _) ?_
        refine g_goto (pc := 67) (tgt := 36) C dX8_value_67 (by decide) ?_
        exact ih (i + 1) _ _ (by omega) (hv.tr (Eqx.up (by decide))) ⟨hn0, hn1, hn2, hn3⟩ (VI_name hv2 hj e (by rw [e]; exact hn2.symm))
      · refine g_al0n (pc := 47) C dX8_value_47 ?_
        refine g_al0n (pc := 48) C dX8_value_48 ?_
        refine s_getR (pc := 49) C fX8_13 h1 rfl dX8_value_49 ?_
        refine g_il1n (pc := 52) C dX8_value_52 ?_
        refine s_aald (pc := 53) (q := 4) C h2 (by decide) rfl rfl (by decide) dX8_value_53 ?_
        refine g_il7 (pc := 54) C dX8_value_54 ?_
        refine s_ialdv (pc := 56) (q := i) (v := (-4)) C h7 rfl (by omega) (Nat.le_of_ble_eq_true rfl) (by rw [hv 7 (by decide)]; exact ((hT.2.2.1 i (by omega)).2).trans (by rw [e]; decide)) dX8_value_56 ?_
        refine g_il6 (pc := 57) C dX8_value_57 ?_
        refine s_VI (pc := 59) (st := []) C h1 rfl (c_stepV3 (d := d - 1) (by omega) τ (t := q) (by omega)) (by omega) lX8_32 dX8_value_59 rfl (Nat.le_of_ble_eq_true rfl) rfl ?_
        refine g_is6 (pc := 62) C dX8_value_62 ?_
        refine g_ii7 (pc := 64) (v := nI (i + 1)) C dX8_value_64 (nI_inc1 _) ?_
        refine g_goto (pc := 67) (tgt := 36) C dX8_value_67 (by decide) ?_
        exact ih (i + 1) _ _ (by omega) (hv.tr (Eqx.up (by decide))) ⟨hn0, hn1, hn2, hn3⟩ (VI_name hv2 hj e (by rw [e]; exact hn3.symm))
    · rcases (show j = 0 ∨ j = 1 ∨ j = 2 ∨ j = 3 ∨ j = 4 ∨ j = 5 ∨ j = 6 ∨ j = 7 ∨ j = 8 ∨ j = 9 by omega) with rfl | rfl | rfl | rfl | rfl | rfl | rfl | rfl | rfl | rfl
      · replace e : cs i = 10100 := e.trans (by decide)
        obtain ⟨u, rfl, hV⟩ := VI_op hv2 e (by decide) (by decide) (depT_back hT.2.2.2 (i + 1) (by omega))
        refine g_al0n (pc := 47) C dX8_value_47 ?_
        refine g_al0n (pc := 48) C dX8_value_48 ?_
        refine s_getR (pc := 49) C fX8_13 h1 rfl dX8_value_49 ?_
        refine g_il1n (pc := 52) C dX8_value_52 ?_
        refine s_aald (pc := 53) (q := 4) C h2 (by decide) rfl rfl (by decide) dX8_value_53 ?_
        refine g_il7 (pc := 54) C dX8_value_54 ?_
        refine s_ialdv (pc := 56) (q := i) (v := (-143)) C h7 rfl (by omega) (Nat.le_of_ble_eq_true rfl) (by rw [hv 7 (by decide)]; exact ((hT.2.2.1 i (by omega)).2).trans (by rw [e]; decide)) dX8_value_56 ?_
        refine g_il6 (pc := 57) C dX8_value_57 ?_
        refine s_VI (pc := 59) (st := []) C h1 rfl (c_step10100 (d := d - 1) (by omega) τ (t := u) (by omega)) (by omega) lX8_32 dX8_value_59 rfl (Nat.le_of_ble_eq_true rfl) rfl ?_
        refine g_is6 (pc := 62) C dX8_value_62 ?_
        refine g_ii7 (pc := 64) (v := nI (i + 1)) C dX8_value_64 (nI_inc1 _) ?_
        refine g_goto (pc := 67) (tgt := 36) C dX8_value_67 (by decide) ?_
        exact ih (i + 1) _ _ (by omega) (hv.tr (Eqx.up (by decide))) ⟨hn0, hn1, hn2, hn3⟩ hV
      · replace e : cs i = 10101 := e.trans (by decide)
        obtain ⟨u, rfl, hV⟩ := VI_op hv2 e (by decide) (by decide) (depT_back hT.2.2.2 (i + 1) (by omega))
        refine g_al0n (pc := 47) C dX8_value_47 ?_
        refine g_al0n (pc := 48) C dX8_value_48 ?_
        refine s_getR (pc := 49) C fX8_13 h1 rfl dX8_value_49 ?_
        refine g_il1n (pc := 52) C dX8_value_52 ?_
        refine s_aald (pc := 53) (q := 4) C h2 (by decide) rfl rfl (by decide) dX8_value_53 ?_
        refine g_il7 (pc := 54) C dX8_value_54 ?_
        refine s_ialdv (pc := 56) (q := i) (v := (-145)) C h7 rfl (by omega) (Nat.le_of_ble_eq_true rfl) (by rw [hv 7 (by decide)]; exact ((hT.2.2.1 i (by omega)).2).trans (by rw [e]; decide)) dX8_value_56 ?_
        refine g_il6 (pc := 57) C dX8_value_57 ?_
        refine s_VI (pc := 59) (st := []) C h1 rfl (c_step10101 (d := d - 1) (by omega) τ (t := u) (by omega)) (by omega) lX8_32 dX8_value_59 rfl (Nat.le_of_ble_eq_true rfl) rfl ?_
        refine g_is6 (pc := 62) C dX8_value_62 ?_
        refine g_ii7 (pc := 64) (v := nI (i + 1)) C dX8_value_64 (nI_inc1 _) ?_
        refine g_goto (pc := 67) (tgt := 36) C dX8_value_67 (by decide) ?_
        exact ih (i + 1) _ _ (by omega) (hv.tr (Eqx.up (by decide))) ⟨hn0, hn1, hn2, hn3⟩ hV
      · replace e : cs i = 10102 := e.trans (by decide)
        obtain ⟨u, rfl, hV⟩ := VI_op hv2 e (by decide) (by decide) (depT_back hT.2.2.2 (i + 1) (by omega))
        refine g_al0n (pc := 47) C dX8_value_47 ?_
        refine g_al0n (pc := 48) C dX8_value_48 ?_
        refine s_getR (pc := 49) C fX8_13 h1 rfl dX8_value_49 ?_
        refine g_il1n (pc := 52) C dX8_value_52 ?_
        refine s_aald (pc := 53) (q := 4) C h2 (by decide) rfl rfl (by decide) dX8_value_53 ?_
        refine g_il7 (pc := 54) C dX8_value_54 ?_
        refine s_ialdv (pc := 56) (q := i) (v := (-160)) C h7 rfl (by omega) (Nat.le_of_ble_eq_true rfl) (by rw [hv 7 (by decide)]; exact ((hT.2.2.1 i (by omega)).2).trans (by rw [e]; decide)) dX8_value_56 ?_
        refine g_il6 (pc := 57) C dX8_value_57 ?_
        refine s_VI (pc := 59) (st := []) C h1 rfl (c_step10102 (d := d - 1) (by omega) τ (t := u) (by omega)) (by omega) lX8_32 dX8_value_59 rfl (Nat.le_of_ble_eq_true rfl) rfl ?_
        refine g_is6 (pc := 62) C dX8_value_62 ?_
        refine g_ii7 (pc := 64) (v := nI (i + 1)) C dX8_value_64 (nI_inc1 _) ?_
        refine g_goto (pc := 67) (tgt := 36) C dX8_value_67 (by decide) ?_
        exact ih (i + 1) _ _ (by omega) (hv.tr (Eqx.up (by decide))) ⟨hn0, hn1, hn2, hn3⟩ hV
      · replace e : cs i = 10103 := e.trans (by decide)
        obtain ⟨u, rfl, hV⟩ := VI_op hv2 e (by decide) (by decide) (depT_back hT.2.2.2 (i + 1) (by omega))
        refine g_al0n (pc := 47) C dX8_value_47 ?_
        refine g_al0n (pc := 48) C dX8_value_48 ?_
        refine s_getR (pc := 49) C fX8_13 h1 rfl dX8_value_49 ?_
        refine g_il1n (pc := 52) C dX8_value_52 ?_
        refine s_aald (pc := 53) (q := 4) C h2 (by decide) rfl rfl (by decide) dX8_value_53 ?_
        refine g_il7 (pc := 54) C dX8_value_54 ?_
        refine s_ialdv (pc := 56) (q := i) (v := (-161)) C h7 rfl (by omega) (Nat.le_of_ble_eq_true rfl) (by rw [hv 7 (by decide)]; exact ((hT.2.2.1 i (by omega)).2).trans (by rw [e]; decide)) dX8_value_56 ?_
        refine g_il6 (pc := 57) C dX8_value_57 ?_
        refine s_VI (pc := 59) (st := []) C h1 rfl (c_step10103 (d := d - 1) (by omega) τ (t := u) (by omega)) (by omega) lX8_32 dX8_value_59 rfl (Nat.le_of_ble_eq_true rfl) rfl ?_
        refine g_is6 (pc := 62) C dX8_value_62 ?_
        refine g_ii7 (pc := 64) (v := nI (i + 1)) C dX8_value_64 (nI_inc1 _) ?_
        refine g_goto (pc := 67) (tgt := 36) C dX8_value_67 (by decide) ?_
        exact ih (i + 1) _ _ (by omega) (hv.tr (Eqx.up (by decide))) ⟨hn0, hn1, hn2, hn3⟩ hV
      · replace e : cs i = 10104 := e.trans (by decide)
        obtain ⟨u, rfl, hV⟩ := VI_op hv2 e (by decide) (by decide) (depT_back hT.2.2.2 (i + 1) (by omega))
        refine g_al0n (pc := 47) C dX8_value_47 ?_
        refine g_al0n (pc := 48) C dX8_value_48 ?_
        refine s_getR (pc := 49) C fX8_13 h1 rfl dX8_value_49 ?_
        refine g_il1n (pc := 52) C dX8_value_52 ?_
        refine s_aald (pc := 53) (q := 4) C h2 (by decide) rfl rfl (by decide) dX8_value_53 ?_
        refine g_il7 (pc := 54) C dX8_value_54 ?_
        refine s_ialdv (pc := 56) (q := i) (v := (-162)) C h7 rfl (by omega) (Nat.le_of_ble_eq_true rfl) (by rw [hv 7 (by decide)]; exact ((hT.2.2.1 i (by omega)).2).trans (by rw [e]; decide)) dX8_value_56 ?_
        refine g_il6 (pc := 57) C dX8_value_57 ?_
        refine s_VI (pc := 59) (st := []) C h1 rfl (c_step10104 (d := d - 1) (by omega) τ (t := u) (by omega)) (by omega) lX8_32 dX8_value_59 rfl (Nat.le_of_ble_eq_true rfl) rfl ?_
        refine g_is6 (pc := 62) C dX8_value_62 ?_
        refine g_ii7 (pc := 64) (v := nI (i + 1)) C dX8_value_64 (nI_inc1 _) ?_
        refine g_goto (pc := 67) (tgt := 36) C dX8_value_67 (by decide) ?_
        exact ih (i + 1) _ _ (by omega) (hv.tr (Eqx.up (by decide))) ⟨hn0, hn1, hn2, hn3⟩ hV
      · replace e : cs i = 10105 := e.trans (by decide)
        obtain ⟨u, rfl, hV⟩ := VI_op hv2 e (by decide) (by decide) (depT_back hT.2.2.2 (i + 1) (by omega))
        refine g_al0n (pc := 47) C dX8_value_47 ?_
        refine g_al0n (pc := 48) C dX8_value_48 ?_
        refine s_getR (pc := 49) C fX8_13 h1 rfl dX8_value_49 ?_
        refine g_il1n (pc := 52) C dX8_value_52 ?_
        refine s_aald (pc := 53) (q := 4) C h2 (by decide) rfl rfl (by decide) dX8_value_53 ?_
        refine g_il7 (pc := 54) C dX8_value_54 ?_
        refine s_ialdv (pc := 56) (q := i) (v := (-138)) C h7 rfl (by omega) (Nat.le_of_ble_eq_true rfl) (by rw [hv 7 (by decide)]; exact ((hT.2.2.1 i (by omega)).2).trans (by rw [e]; decide)) dX8_value_56 ?_
        refine g_il6 (pc := 57) C dX8_value_57 ?_
        refine s_VI (pc := 59) (st := []) C h1 rfl (c_step10105 (d := d - 1) (by omega) τ (t := u) (by omega)) (by omega) lX8_32 dX8_value_59 rfl (Nat.le_of_ble_eq_true rfl) rfl ?_
        refine g_is6 (pc := 62) C dX8_value_62 ?_
        refine g_ii7 (pc := 64) (v := nI (i + 1)) C dX8_value_64 (nI_inc1 _) ?_
        refine g_goto (pc := 67) (tgt := 36) C dX8_value_67 (by decide) ?_
        exact ih (i + 1) _ _ (by omega) (hv.tr (Eqx.up (by decide))) ⟨hn0, hn1, hn2, hn3⟩ hV
      · replace e : cs i = 10106 := e.trans (by decide)
        obtain ⟨u, rfl, hV⟩ := VI_op hv2 e (by decide) (by decide) (depT_back hT.2.2.2 (i + 1) (by omega))
        refine g_al0n (pc := 47) C dX8_value_47 ?_
        refine g_al0n (pc := 48) C dX8_value_48 ?_
        refine s_getR (pc := 49) C fX8_13 h1 rfl dX8_value_49 ?_
        refine g_il1n (pc := 52) C dX8_value_52 ?_
        refine s_aald (pc := 53) (q := 4) C h2 (by decide) rfl rfl (by decide) dX8_value_53 ?_
        refine g_il7 (pc := 54) C dX8_value_54 ?_
        refine s_ialdv (pc := 56) (q := i) (v := (-224)) C h7 rfl (by omega) (Nat.le_of_ble_eq_true rfl) (by rw [hv 7 (by decide)]; exact ((hT.2.2.1 i (by omega)).2).trans (by rw [e]; decide)) dX8_value_56 ?_
        refine g_il6 (pc := 57) C dX8_value_57 ?_
        refine s_VI (pc := 59) (st := []) C h1 rfl (c_step10106 (d := d - 1) (by omega) τ (t := u) (by omega)) (by omega) lX8_32 dX8_value_59 rfl (Nat.le_of_ble_eq_true rfl) rfl ?_
        refine g_is6 (pc := 62) C dX8_value_62 ?_
        refine g_ii7 (pc := 64) (v := nI (i + 1)) C dX8_value_64 (nI_inc1 _) ?_
        refine g_goto (pc := 67) (tgt := 36) C dX8_value_67 (by decide) ?_
        exact ih (i + 1) _ _ (by omega) (hv.tr (Eqx.up (by decide))) ⟨hn0, hn1, hn2, hn3⟩ hV
      · replace e : cs i = 10107 := e.trans (by decide)
        obtain ⟨u, rfl, hV⟩ := VI_not hv2 e (depT_back hT.2.2.2 (i + 1) (by omega))
        refine g_al0n (pc := 47) C dX8_value_47 ?_
        refine g_al0n (pc := 48) C dX8_value_48 ?_
        refine s_getR (pc := 49) C fX8_13 h1 rfl dX8_value_49 ?_
        refine g_il1n (pc := 52) C dX8_value_52 ?_
        refine s_aald (pc := 53) (q := 4) C h2 (by decide) rfl rfl (by decide) dX8_value_53 ?_
        refine g_il7 (pc := 54) C dX8_value_54 ?_
        refine s_ialdv (pc := 56) (q := i) (v := (-133)) C h7 rfl (by omega) (Nat.le_of_ble_eq_true rfl) (by rw [hv 7 (by decide)]; exact ((hT.2.2.1 i (by omega)).2).trans (by rw [e]; decide)) dX8_value_56 ?_
        refine g_il6 (pc := 57) C dX8_value_57 ?_
        refine s_VI (pc := 59) (st := []) C h1 rfl (c_step10107 (d := d - 1) (by omega) τ (t := u) (by omega)) (by omega) lX8_32 dX8_value_59 rfl (Nat.le_of_ble_eq_true rfl) rfl ?_
        refine g_is6 (pc := 62) C dX8_value_62 ?_
        refine g_ii7 (pc := 64) (v := nI (i + 1)) C dX8_value_64 (nI_inc1 _) ?_
        refine g_goto (pc := 67) (tgt := 36) C dX8_value_67 (by decide) ?_
        exact ih (i + 1) _ _ (by omega) (hv.tr (Eqx.up (by decide))) ⟨hn0, hn1, hn2, hn3⟩ hV
      · replace e : cs i = 10108 := e.trans (by decide)
        obtain ⟨u, rfl, hV⟩ := VI_op hv2 e (by decide) (by decide) (depT_back hT.2.2.2 (i + 1) (by omega))
        refine g_al0n (pc := 47) C dX8_value_47 ?_
        refine g_al0n (pc := 48) C dX8_value_48 ?_
        refine s_getR (pc := 49) C fX8_13 h1 rfl dX8_value_49 ?_
        refine g_il1n (pc := 52) C dX8_value_52 ?_
        refine s_aald (pc := 53) (q := 4) C h2 (by decide) rfl rfl (by decide) dX8_value_53 ?_
        refine g_il7 (pc := 54) C dX8_value_54 ?_
        refine s_ialdv (pc := 56) (q := i) (v := (-142)) C h7 rfl (by omega) (Nat.le_of_ble_eq_true rfl) (by rw [hv 7 (by decide)]; exact ((hT.2.2.1 i (by omega)).2).trans (by rw [e]; decide)) dX8_value_56 ?_
        refine g_il6 (pc := 57) C dX8_value_57 ?_
        refine s_VI (pc := 59) (st := []) C h1 rfl (c_step10108 (d := d - 1) (by omega) τ (t := u) (by omega)) (by omega) lX8_32 dX8_value_59 rfl (Nat.le_of_ble_eq_true rfl) rfl ?_
        refine g_is6 (pc := 62) C dX8_value_62 ?_
        refine g_ii7 (pc := 64) (v := nI (i + 1)) C dX8_value_64 (nI_inc1 _) ?_
        refine g_goto (pc := 67) (tgt := 36) C dX8_value_67 (by decide) ?_
        exact ih (i + 1) _ _ (by omega) (hv.tr (Eqx.up (by decide))) ⟨hn0, hn1, hn2, hn3⟩ hV
      · replace e : cs i = 10109 := e.trans (by decide)
        obtain ⟨u, rfl, hV⟩ := VI_op hv2 e (by decide) (by decide) (depT_back hT.2.2.2 (i + 1) (by omega))
        refine g_al0n (pc := 47) C dX8_value_47 ?_
        refine g_al0n (pc := 48) C dX8_value_48 ?_
        refine s_getR (pc := 49) C fX8_13 h1 rfl dX8_value_49 ?_
        refine g_il1n (pc := 52) C dX8_value_52 ?_
        refine s_aald (pc := 53) (q := 4) C h2 (by decide) rfl rfl (by decide) dX8_value_53 ?_
        refine g_il7 (pc := 54) C dX8_value_54 ?_
        refine s_ialdv (pc := 56) (q := i) (v := (-147)) C h7 rfl (by omega) (Nat.le_of_ble_eq_true rfl) (by rw [hv 7 (by decide)]; exact ((hT.2.2.1 i (by omega)).2).trans (by rw [e]; decide)) dX8_value_56 ?_
        refine g_il6 (pc := 57) C dX8_value_57 ?_
        refine s_VI (pc := 59) (st := []) C h1 rfl (c_step10109 (d := d - 1) (by omega) τ (t := u) (by omega)) (by omega) lX8_32 dX8_value_59 rfl (Nat.le_of_ble_eq_true rfl) rfl ?_
        refine g_is6 (pc := 62) C dX8_value_62 ?_
        refine g_ii7 (pc := 64) (v := nI (i + 1)) C dX8_value_64 (nI_inc1 _) ?_
        refine g_goto (pc := 67) (tgt := 36) C dX8_value_67 (by decide) ?_
        exact ih (i + 1) _ _ (by omega) (hv.tr (Eqx.up (by decide))) ⟨hn0, hn1, hn2, hn3⟩ hV

theorem c_value4 {d : Nat} (hd : 3 ≤ d) (σ : Sg) {cs : Nu} {len : Nat} (hT : RT1 σ cs len 4) (h m k w : Int32) : CP d mX8_value [.ref 1, .int 4, .int h, .int m, .int k, .int w] σ (fun v τ' => v = (runT cs h m k w len).headD 0 ∧ Eqx [10, 11] σ τ') := by
  refine con_of (by decide) (catL rfl) (Nat.le_of_ble_eq_true rfl) ?_
  intro μ ω C hr
  have C : Cx μ ω "TowField$Texts" cX8_value 8 d := C
  have hr : (mH μ).sig.returnType = some .int := hr
  show G μ ω (RQ μ ω (pP (fun v τ' => v = (runT cs h m k w len).headD 0 ∧ Eqx [10, 11] σ τ'))) 0 [some (.ref 1), some (.int 4), some (.int h), some (.int m), some (.int k), some (.int w), none, none] [] (mk σ) 0 0
  refine g_al0n (pc := 0) C dX8_value_0 ?_
  refine s_getR (pc := 1) C fX8_20 h1 rfl dX8_value_1 ?_
  refine g_iconst (pc := 4) (v := 0) C dX8_value_4 (by decide) ?_
  refine g_il2n (pc := 5) C dX8_value_5 ?_
  refine s_iast (pc := 6) (q := 0) C h10 rfl (by omega) (Nat.le_of_ble_eq_true rfl) dX8_value_6 ?_
  refine g_al0n (pc := 7) C dX8_value_7 ?_
  refine s_getR (pc := 8) C fX8_20 h1 rfl dX8_value_8 ?_
  refine g_iconst (pc := 11) (v := 1) C dX8_value_11 (by decide) ?_
  refine g_il3n (pc := 12) C dX8_value_12 ?_
  refine s_iast (pc := 13) (q := 1) C h10 rfl (by omega) (Nat.le_of_ble_eq_true rfl) dX8_value_13 ?_
  refine g_al0n (pc := 14) C dX8_value_14 ?_
  refine s_getR (pc := 15) C fX8_20 h1 rfl dX8_value_15 ?_
  refine g_iconst (pc := 18) (v := 2) C dX8_value_18 (by decide) ?_
  refine g_il4 (pc := 19) C dX8_value_19 ?_
  refine s_iast (pc := 21) (q := 2) C h10 rfl (by omega) (Nat.le_of_ble_eq_true rfl) dX8_value_21 ?_
  refine g_al0n (pc := 22) C dX8_value_22 ?_
  refine s_getR (pc := 23) C fX8_20 h1 rfl dX8_value_23 ?_
  refine g_iconst (pc := 26) (v := 3) C dX8_value_26 (by decide) ?_
  refine g_il5 (pc := 27) C dX8_value_27 ?_
  refine s_iast (pc := 29) (q := 3) C h10 rfl (by omega) (Nat.le_of_ble_eq_true rfl) dX8_value_29 ?_
  refine g_iconst (pc := 30) (v := 0) C dX8_value_30 (by decide) ?_
  refine g_is6 (pc := 31) C dX8_value_31 ?_
  refine g_iconst (pc := 33) (v := 0) C dX8_value_33 (by decide) ?_
  refine g_is7 (pc := 34) C dX8_value_34 ?_
  exact lp_value4 hd C hr σ hT h m k w len 0 0 _ (by omega) (fun z hz => by simp at hz; simp only [up_ne _ _ _ hz.1]) ⟨rfl, rfl, rfl, rfl⟩ ⟨rfl, trivial, rfl⟩

theorem lp_value5 {μ : Mx} {ω : Om} {d : Nat} (hd : 3 ≤ d) (C : Cx μ ω "TowField$Texts" cX8_value 8 d) (hr : (mH μ).sig.returnType = some .int) (σ : Sg) {cs : Nu} {len : Nat} (hT : RT1 σ cs len 5) (h m k w : Int32) : ∀ (f i : Nat) (q : Nat) (τ : Sg), i + f = len → (Eqx [10, 11] σ τ) → (τ 10 0 = h ∧ τ 10 1 = m ∧ τ 10 2 = k ∧ τ 10 3 = w) → (VI cs h m k w i q (τ 11)) → G μ ω (RQ μ ω (pP (fun v τ' => v = (runT cs h m k w len).headD 0 ∧ Eqx [10, 11] σ τ'))) 36 [some (.ref 1), some (.int 5), some (.int h), some (.int m), some (.int k), some (.int w), some (.int (nI q)), some (.int (nI i))] [] (mk τ) 0 0 := by
  intro f
  induction f with
  | zero =>
    intro i q τ hif hv hv1 hv2
    have hin : i = len := by omega
    have hl := hT.1
    refine g_il7 (pc := 36) C dX8_value_36 ?_
    refine g_al0n (pc := 38) C dX8_value_38 ?_
    refine s_getR (pc := 39) C fX8_16 h1 rfl dX8_value_39 ?_
    refine g_il1n (pc := 42) C dX8_value_42 ?_
    refine s_ialdv (pc := 43) (q := 5) (v := nI len) C h9 rfl (by omega) (Nat.le_of_ble_eq_true rfl) (by rw [hv 9 (by decide)]; exact hT.2.1) dX8_value_43 ?_
    refine g_icmp_geL (pc := 44) (tgt := 70) C dX8_value_44 (by decide) (fun c_44 => ?_) (fun c_44 => absurd c_44 (nI_nlt (by omega) (by omega)))
    refine g_al0n (pc := 70) C dX8_value_70 ?_
    refine s_getR (pc := 71) C fX8_23 h1 rfl dX8_value_71 ?_
    refine g_iconst (pc := 74) (v := 0) C dX8_value_74 (by decide) ?_
    refine s_iald (pc := 75) (q := 0) C h11 rfl (by omega) (Nat.le_of_ble_eq_true rfl) dX8_value_75 ?_
    subst hin
    have hq : q = 1 := Option.some.inj (hv2.1.symm.trans hT.2.2.2)
    subst hq
    obtain ⟨x, hL⟩ : ∃ x, runT cs h m k w i = [x] := List.length_eq_one_iff.mp hv2.2.2
    have hp := hv2.2.1
    rw [hL] at hp
    exact r_P C hr dX8_value_76 ⟨by rw [hL]; exact hp.1, hv⟩
  | succ f ih =>
    intro i q τ hif hv hv1 hv2
    have hl := hT.1
    obtain ⟨hn0, hn1, hn2, hn3⟩ := hv1
    have hqi := VI_le hv2
    refine g_il7 (pc := 36) C dX8_value_36 ?_
    refine g_al0n (pc := 38) C dX8_value_38 ?_
    refine s_getR (pc := 39) C fX8_16 h1 rfl dX8_value_39 ?_
    refine g_il1n (pc := 42) C dX8_value_42 ?_
    refine s_ialdv (pc := 43) (q := 5) (v := nI len) C h9 rfl (by omega) (Nat.le_of_ble_eq_true rfl) (by rw [hv 9 (by decide)]; exact hT.2.1) dX8_value_43 ?_
    refine g_icmp_geL (pc := 44) (tgt := 70) C dX8_value_44 (by decide) (fun c_44 => absurd (nI_lt (by omega) (by omega)) c_44) (fun c_44 => ?_)
    rcases (hT.2.2.1 i (by omega)).1 with ⟨j, hj, e⟩ | ⟨j, hj, e⟩ | ⟨j, hj, e⟩
    · refine g_al0n (pc := 47) C dX8_value_47 ?_
      refine g_al0n (pc := 48) C dX8_value_48 ?_
      refine s_getR (pc := 49) C fX8_13 h1 rfl dX8_value_49 ?_
      refine g_il1n (pc := 52) C dX8_value_52 ?_
      refine s_aald (pc := 53) (q := 5) C h2 (by decide) rfl rfl (by decide) dX8_value_53 ?_
      refine g_il7 (pc := 54) C dX8_value_54 ?_
      refine s_ialdv (pc := 56) (q := i) (v := nI j) C h8 rfl (by omega) (Nat.le_of_ble_eq_true rfl) (by rw [hv 8 (by decide)]; exact ((hT.2.2.1 i (by omega)).2).trans (by rw [e]; exact clC_num hj)) dX8_value_56 ?_
      refine g_il6 (pc := 57) C dX8_value_57 ?_
      refine s_VI (pc := 59) (st := []) C h1 rfl (c_stepN (d := d - 1) (by omega) τ (k := j) hj (t := q) (by omega)) (by omega) lX8_32 dX8_value_59 rfl (Nat.le_of_ble_eq_true rfl) rfl ?_
      refine g_is6 (pc := 62) C dX8_value_62 ?_
      refine g_ii7 (pc := 64) (v := nI (i + 1)) C dX8_value_64 (nI_inc1 _) ?_
      refine g_goto (pc := 67) (tgt := 36) C dX8_value_67 (by decide) ?_
      exact ih (i + 1) _ _ (by omega) (hv.tr (Eqx.up (by decide))) ⟨hn0, hn1, hn2, hn3⟩ (VI_num hv2 hj e)
    · rcases (show j = 0 ∨ j = 1 ∨ j = 2 ∨ j = 3 by omega) with rfl | rfl | rfl | rfl
      · refine g_al0n (pc := 47) C dX8_value_47 ?_
        refine g_al0n (pc := 48) C dX8_value_48 ?_
        refine s_getR (pc := 49) C fX8_13 h1 rfl dX8_value_49 ?_
        refine g_il1n (pc := 52) C dX8_value_52 ?_
        refine s_aald (pc := 53) (q := 5) C h2 (by decide) rfl rfl (by decide) dX8_value_53 ?_
        refine g_il7 (pc := 54) C dX8_value_54 ?_
        refine s_ialdv (pc := 56) (q := i) (v := (-1)) C h8 rfl (by omega) (Nat.le_of_ble_eq_true rfl) (by rw [hv 8 (by decide)]; exact ((hT.2.2.1 i (by omega)).2).trans (by rw [e]; decide)) dX8_value_56 ?_
        refine g_il6 (pc := 57) C dX8_value_57 ?_
        refine s_VI (pc := 59) (st := []) C h1 rfl (c_stepV0 (d := d - 1) (by omega) τ (t := q) (by omega)) (by omega) lX8_32 dX8_value_59 rfl (Nat.le_of_ble_eq_true rfl) rfl ?_
        refine g_is6 (pc := 62) C dX8_value_62 ?_
        refine g_ii7 (pc := 64) (v := nI (i + 1)) C dX8_value_64 (nI_inc1 _) ?_
        refine g_goto (pc := 67) (tgt := 36) C dX8_value_67 (by decide) ?_
        exact ih (i + 1) _ _ (by omega) (hv.tr (Eqx.up (by decide))) ⟨hn0, hn1, hn2, hn3⟩ (VI_name hv2 hj e (by rw [e]; exact hn0.symm))
      · refine g_al0n (pc := 47) C dX8_value_47 ?_
        refine g_al0n (pc := 48) C dX8_value_48 ?_
        refine s_getR (pc := 49) C fX8_13 h1 rfl dX8_value_49 ?_
        refine g_il1n (pc := 52) C dX8_value_52 ?_
        refine s_aald (pc := 53) (q := 5) C h2 (by decide) rfl rfl (by decide) dX8_value_53 ?_
        refine g_il7 (pc := 54) C dX8_value_54 ?_
        refine s_ialdv (pc := 56) (q := i) (v := (-2)) C h8 rfl (by omega) (Nat.le_of_ble_eq_true rfl) (by rw [hv 8 (by decide)]; exact ((hT.2.2.1 i (by omega)).2).trans (by rw [e]; decide)) dX8_value_56 ?_
        refine g_il6 (pc := 57) C dX8_value_57 ?_
        refine s_VI (pc := 59) (st := []) C h1 rfl (c_stepV1 (d := d - 1) (by omega) τ (t := q) (by omega)) (by omega) lX8_32 dX8_value_59 rfl (Nat.le_of_ble_eq_true rfl) rfl ?_
        refine g_is6 (pc := 62) C dX8_value_62 ?_
        refine g_ii7 (pc := 64) (v := nI (i + 1)) C dX8_value_64 (nI_inc1 _) ?_
        refine g_goto (pc := 67) (tgt := 36) C dX8_value_67 (by decide) ?_
        exact ih (i + 1) _ _ (by omega) (hv.tr (Eqx.up (by decide))) ⟨hn0, hn1, hn2, hn3⟩ (VI_name hv2 hj e (by rw [e]; exact hn1.symm))
      · refine g_al0n (pc := 47) C dX8_value_47 ?_
        refine g_al0n (pc := 48) C dX8_value_48 ?_
        refine s_getR (pc := 49) C fX8_13 h1 rfl dX8_value_49 ?_
        refine g_il1n (pc := 52) C dX8_value_52 ?_
        refine s_aald (pc := 53) (q := 5) C h2 (by decide) rfl rfl (by decide) dX8_value_53 ?_
        refine g_il7 (pc := 54) C dX8_value_54 ?_
        refine s_ialdv (pc := 56) (q := i) (v := (-3)) C h8 rfl (by omega) (Nat.le_of_ble_eq_true rfl) (by rw [hv 8 (by decide)]; exact ((hT.2.2.1 i (by omega)).2).trans (by rw [e]; decide)) dX8_value_56 ?_
        refine g_il6 (pc := 57) C dX8_value_57 ?_
        refine s_VI (pc := 59) (st := []) C h1 rfl (c_stepV2 (d := d - 1) (by omega) τ (t := q) (by omega)) (by omega) lX8_32 dX8_value_59 rfl (Nat.le_of_ble_eq_true rfl) rfl ?_
        refine g_is6 (pc := 62) C dX8_value_62 ?_
        refine g_ii7 (pc := 64) (v := nI (i + 1)) C dX8_value_64 (nI_inc1 _) ?_
        refine g_goto (pc := 67) (tgt := 36) C dX8_value_67 (by decide) ?_
        exact ih (i + 1) _ _ (by omega) (hv.tr (Eqx.up (by decide))) ⟨hn0, hn1, hn2, hn3⟩ (VI_name hv2 hj e (by rw [e]; exact hn2.symm))
      · refine g_al0n (pc := 47) C dX8_value_47 ?_
        refine g_al0n (pc := 48) C dX8_value_48 ?_
        refine s_getR (pc := 49) C fX8_13 h1 rfl dX8_value_49 ?_
        refine g_il1n (pc := 52) C dX8_value_52 ?_
        refine s_aald (pc := 53) (q := 5) C h2 (by decide) rfl rfl (by decide) dX8_value_53 ?_
        refine g_il7 (pc := 54) C dX8_value_54 ?_
        refine s_ialdv (pc := 56) (q := i) (v := (-4)) C h8 rfl (by omega) (Nat.le_of_ble_eq_true rfl) (by rw [hv 8 (by decide)]; exact ((hT.2.2.1 i (by omega)).2).trans (by rw [e]; decide)) dX8_value_56 ?_
        refine g_il6 (pc := 57) C dX8_value_57 ?_
        refine s_VI (pc := 59) (st := []) C h1 rfl (c_stepV3 (d := d - 1) (by omega) τ (t := q) (by omega)) (by omega) lX8_32 dX8_value_59 rfl (Nat.le_of_ble_eq_true rfl) rfl ?_
        refine g_is6 (pc := 62) C dX8_value_62 ?_
        refine g_ii7 (pc := 64) (v := nI (i + 1)) C dX8_value_64 (nI_inc1 _) ?_
        refine g_goto (pc := 67) (tgt := 36) C dX8_value_67 (by decide) ?_
        exact ih (i + 1) _ _ (by omega) (hv.tr (Eqx.up (by decide))) ⟨hn0, hn1, hn2, hn3⟩ (VI_name hv2 hj e (by rw [e]; exact hn3.symm))
    · rcases (show j = 0 ∨ j = 1 ∨ j = 2 ∨ j = 3 ∨ j = 4 ∨ j = 5 ∨ j = 6 ∨ j = 7 ∨ j = 8 ∨ j = 9 by omega) with rfl | rfl | rfl | rfl | rfl | rfl | rfl | rfl | rfl | rfl
      · replace e : cs i = 10100 := e.trans (by decide)
        obtain ⟨u, rfl, hV⟩ := VI_op hv2 e (by decide) (by decide) (depT_back hT.2.2.2 (i + 1) (by omega))
        refine g_al0n (pc := 47) C dX8_value_47 ?_
        refine g_al0n (pc := 48) C dX8_value_48 ?_
        refine s_getR (pc := 49) C fX8_13 h1 rfl dX8_value_49 ?_
        refine g_il1n (pc := 52) C dX8_value_52 ?_
        refine s_aald (pc := 53) (q := 5) C h2 (by decide) rfl rfl (by decide) dX8_value_53 ?_
        refine g_il7 (pc := 54) C dX8_value_54 ?_
        refine s_ialdv (pc := 56) (q := i) (v := (-143)) C h8 rfl (by omega) (Nat.le_of_ble_eq_true rfl) (by rw [hv 8 (by decide)]; exact ((hT.2.2.1 i (by omega)).2).trans (by rw [e]; decide)) dX8_value_56 ?_
        refine g_il6 (pc := 57) C dX8_value_57 ?_
        refine s_VI (pc := 59) (st := []) C h1 rfl (c_step10100 (d := d - 1) (by omega) τ (t := u) (by omega)) (by omega) lX8_32 dX8_value_59 rfl (Nat.le_of_ble_eq_true rfl) rfl ?_
        refine g_is6 (pc := 62) C dX8_value_62 ?_
        refine g_ii7 (pc := 64) (v := nI (i + 1)) C dX8_value_64 (nI_inc1 _) ?_
        refine g_goto (pc := 67) (tgt := 36) C dX8_value_67 (by decide) ?_
        exact ih (i + 1) _ _ (by omega) (hv.tr (Eqx.up (by decide))) ⟨hn0, hn1, hn2, hn3⟩ hV
      · replace e : cs i = 10101 := e.trans (by decide)
        obtain ⟨u, rfl, hV⟩ := VI_op hv2 e (by decide) (by decide) (depT_back hT.2.2.2 (i + 1) (by omega))
        refine g_al0n (pc := 47) C dX8_value_47 ?_
        refine g_al0n (pc := 48) C dX8_value_48 ?_
        refine s_getR (pc := 49) C fX8_13 h1 rfl dX8_value_49 ?_
        refine g_il1n (pc := 52) C dX8_value_52 ?_
        refine s_aald (pc := 53) (q := 5) C h2 (by decide) rfl rfl (by decide) dX8_value_53 ?_
        refine g_il7 (pc := 54) C dX8_value_54 ?_
        refine s_ialdv (pc := 56) (q := i) (v := (-145)) C h8 rfl (by omega) (Nat.le_of_ble_eq_true rfl) (by rw [hv 8 (by decide)]; exact ((hT.2.2.1 i (by omega)).2).trans (by rw [e]; decide)) dX8_value_56 ?_
        refine g_il6 (pc := 57) C dX8_value_57 ?_
        refine s_VI (pc := 59) (st := []) C h1 rfl (c_step10101 (d := d - 1) (by omega) τ (t := u) (by omega)) (by omega) lX8_32 dX8_value_59 rfl (Nat.le_of_ble_eq_true rfl) rfl ?_
        refine g_is6 (pc := 62) C dX8_value_62 ?_
        refine g_ii7 (pc := 64) (v := nI (i + 1)) C dX8_value_64 (nI_inc1 _) ?_
        refine g_goto (pc := 67) (tgt := 36) C dX8_value_67 (by decide) ?_
        exact ih (i + 1) _ _ (by omega) (hv.tr (Eqx.up (by decide))) ⟨hn0, hn1, hn2, hn3⟩ hV
      · replace e : cs i = 10102 := e.trans (by decide)
        obtain ⟨u, rfl, hV⟩ := VI_op hv2 e (by decide) (by decide) (depT_back hT.2.2.2 (i + 1) (by omega))
        refine g_al0n (pc := 47) C dX8_value_47 ?_
        refine g_al0n (pc := 48) C dX8_value_48 ?_
        refine s_getR (pc := 49) C fX8_13 h1 rfl dX8_value_49 ?_
        refine g_il1n (pc := 52) C dX8_value_52 ?_
        refine s_aald (pc := 53) (q := 5) C h2 (by decide) rfl rfl (by decide) dX8_value_53 ?_
        refine g_il7 (pc := 54) C dX8_value_54 ?_
        refine s_ialdv (pc := 56) (q := i) (v := (-160)) C h8 rfl (by omega) (Nat.le_of_ble_eq_true rfl) (by rw [hv 8 (by decide)]; exact ((hT.2.2.1 i (by omega)).2).trans (by rw [e]; decide)) dX8_value_56 ?_
        refine g_il6 (pc := 57) C dX8_value_57 ?_
        refine s_VI (pc := 59) (st := []) C h1 rfl (c_step10102 (d := d - 1) (by omega) τ (t := u) (by omega)) (by omega) lX8_32 dX8_value_59 rfl (Nat.le_of_ble_eq_true rfl) rfl ?_
        refine g_is6 (pc := 62) C dX8_value_62 ?_
        refine g_ii7 (pc := 64) (v := nI (i + 1)) C dX8_value_64 (nI_inc1 _) ?_
        refine g_goto (pc := 67) (tgt := 36) C dX8_value_67 (by decide) ?_
        exact ih (i + 1) _ _ (by omega) (hv.tr (Eqx.up (by decide))) ⟨hn0, hn1, hn2, hn3⟩ hV
      · replace e : cs i = 10103 := e.trans (by decide)
        obtain ⟨u, rfl, hV⟩ := VI_op hv2 e (by decide) (by decide) (depT_back hT.2.2.2 (i + 1) (by omega))
        refine g_al0n (pc := 47) C dX8_value_47 ?_
        refine g_al0n (pc := 48) C dX8_value_48 ?_
        refine s_getR (pc := 49) C fX8_13 h1 rfl dX8_value_49 ?_
        refine g_il1n (pc := 52) C dX8_value_52 ?_
        refine s_aald (pc := 53) (q := 5) C h2 (by decide) rfl rfl (by decide) dX8_value_53 ?_
        refine g_il7 (pc := 54) C dX8_value_54 ?_
        refine s_ialdv (pc := 56) (q := i) (v := (-161)) C h8 rfl (by omega) (Nat.le_of_ble_eq_true rfl) (by rw [hv 8 (by decide)]; exact ((hT.2.2.1 i (by omega)).2).trans (by rw [e]; decide)) dX8_value_56 ?_
        refine g_il6 (pc := 57) C dX8_value_57 ?_
        refine s_VI (pc := 59) (st := []) C h1 rfl (c_step10103 (d := d - 1) (by omega) τ (t := u) (by omega)) (by omega) lX8_32 dX8_value_59 rfl (Nat.le_of_ble_eq_true rfl) rfl ?_
        refine g_is6 (pc := 62) C dX8_value_62 ?_
        refine g_ii7 (pc := 64) (v := nI (i + 1)) C dX8_value_64 (nI_inc1 _) ?_
        refine g_goto (pc := 67) (tgt := 36) C dX8_value_67 (by decide) ?_
        exact ih (i + 1) _ _ (by omega) (hv.tr (Eqx.up (by decide))) ⟨hn0, hn1, hn2, hn3⟩ hV
      · replace e : cs i = 10104 := e.trans (by decide)
        obtain ⟨u, rfl, hV⟩ := VI_op hv2 e (by decide) (by decide) (depT_back hT.2.2.2 (i + 1) (by omega))
        refine g_al0n (pc := 47) C dX8_value_47 ?_
        refine g_al0n (pc := 48) C dX8_value_48 ?_
        refine s_getR (pc := 49) C fX8_13 h1 rfl dX8_value_49 ?_
        refine g_il1n (pc := 52) C dX8_value_52 ?_
        refine s_aald (pc := 53) (q := 5) C h2 (by decide) rfl rfl (by decide) dX8_value_53 ?_
        refine g_il7 (pc := 54) C dX8_value_54 ?_
        refine s_ialdv (pc := 56) (q := i) (v := (-162)) C h8 rfl (by omega) (Nat.le_of_ble_eq_true rfl) (by rw [hv 8 (by decide)]; exact ((hT.2.2.1 i (by omega)).2).trans (by rw [e]; decide)) dX8_value_56 ?_
        refine g_il6 (pc := 57) C dX8_value_57 ?_
        refine s_VI (pc := 59) (st := []) C h1 rfl (c_step10104 (d := d - 1) (by omega) τ (t := u) (by omega)) (by omega) lX8_32 dX8_value_59 rfl (Nat.le_of_ble_eq_true rfl) rfl ?_
        refine g_is6 (pc := 62) C dX8_value_62 ?_
        refine g_ii7 (pc := 64) (v := nI (i + 1)) C dX8_value_64 (nI_inc1 _) ?_
        refine g_goto (pc := 67) (tgt := 36) C dX8_value_67 (by decide) ?_
        exact ih (i + 1) _ _ (by omega) (hv.tr (Eqx.up (by decide))) ⟨hn0, hn1, hn2, hn3⟩ hV
      · replace e : cs i = 10105 := e.trans (by decide)
        obtain ⟨u, rfl, hV⟩ := VI_op hv2 e (by decide) (by decide) (depT_back hT.2.2.2 (i + 1) (by omega))
        refine g_al0n (pc := 47) C dX8_value_47 ?_
        refine g_al0n (pc := 48) C dX8_value_48 ?_
        refine s_getR (pc := 49) C fX8_13 h1 rfl dX8_value_49 ?_
        refine g_il1n (pc := 52) C dX8_value_52 ?_
        refine s_aald (pc := 53) (q := 5) C h2 (by decide) rfl rfl (by decide) dX8_value_53 ?_
        refine g_il7 (pc := 54) C dX8_value_54 ?_
        refine s_ialdv (pc := 56) (q := i) (v := (-138)) C h8 rfl (by omega) (Nat.le_of_ble_eq_true rfl) (by rw [hv 8 (by decide)]; exact ((hT.2.2.1 i (by omega)).2).trans (by rw [e]; decide)) dX8_value_56 ?_
        refine g_il6 (pc := 57) C dX8_value_57 ?_
        refine s_VI (pc := 59) (st := []) C h1 rfl (c_step10105 (d := d - 1) (by omega) τ (t := u) (by omega)) (by omega) lX8_32 dX8_value_59 rfl (Nat.le_of_ble_eq_true rfl) rfl ?_
        refine g_is6 (pc := 62) C dX8_value_62 ?_
        refine g_ii7 (pc := 64) (v := nI (i + 1)) C dX8_value_64 (nI_inc1 _) ?_
        refine g_goto (pc := 67) (tgt := 36) C dX8_value_67 (by decide) ?_
        exact ih (i + 1) _ _ (by omega) (hv.tr (Eqx.up (by decide))) ⟨hn0, hn1, hn2, hn3⟩ hV
      · replace e : cs i = 10106 := e.trans (by decide)
        obtain ⟨u, rfl, hV⟩ := VI_op hv2 e (by decide) (by decide) (depT_back hT.2.2.2 (i + 1) (by omega))
        refine g_al0n (pc := 47) C dX8_value_47 ?_
        refine g_al0n (pc := 48) C dX8_value_48 ?_
        refine s_getR (pc := 49) C fX8_13 h1 rfl dX8_value_49 ?_
        refine g_il1n (pc := 52) C dX8_value_52 ?_
        refine s_aald (pc := 53) (q := 5) C h2 (by decide) rfl rfl (by decide) dX8_value_53 ?_
        refine g_il7 (pc := 54) C dX8_value_54 ?_
        refine s_ialdv (pc := 56) (q := i) (v := (-224)) C h8 rfl (by omega) (Nat.le_of_ble_eq_true rfl) (by rw [hv 8 (by decide)]; exact ((hT.2.2.1 i (by omega)).2).trans (by rw [e]; decide)) dX8_value_56 ?_
        refine g_il6 (pc := 57) C dX8_value_57 ?_
        refine s_VI (pc := 59) (st := []) C h1 rfl (c_step10106 (d := d - 1) (by omega) τ (t := u) (by omega)) (by omega) lX8_32 dX8_value_59 rfl (Nat.le_of_ble_eq_true rfl) rfl ?_
        refine g_is6 (pc := 62) C dX8_value_62 ?_
        refine g_ii7 (pc := 64) (v := nI (i + 1)) C dX8_value_64 (nI_inc1 _) ?_
        refine g_goto (pc := 67) (tgt := 36) C dX8_value_67 (by decide) ?_
        exact ih (i + 1) _ _ (by omega) (hv.tr (Eqx.up (by decide))) ⟨hn0, hn1, hn2, hn3⟩ hV
      · replace e : cs i = 10107 := e.trans (by decide)
        obtain ⟨u, rfl, hV⟩ := VI_not hv2 e (depT_back hT.2.2.2 (i + 1) (by omega))
        refine g_al0n (pc := 47) C dX8_value_47 ?_
        refine g_al0n (pc := 48) C dX8_value_48 ?_
        refine s_getR (pc := 49) C fX8_13 h1 rfl dX8_value_49 ?_
        refine g_il1n (pc := 52) C dX8_value_52 ?_
        refine s_aald (pc := 53) (q := 5) C h2 (by decide) rfl rfl (by decide) dX8_value_53 ?_
        refine g_il7 (pc := 54) C dX8_value_54 ?_
        refine s_ialdv (pc := 56) (q := i) (v := (-133)) C h8 rfl (by omega) (Nat.le_of_ble_eq_true rfl) (by rw [hv 8 (by decide)]; exact ((hT.2.2.1 i (by omega)).2).trans (by rw [e]; decide)) dX8_value_56 ?_
        refine g_il6 (pc := 57) C dX8_value_57 ?_
        refine s_VI (pc := 59) (st := []) C h1 rfl (c_step10107 (d := d - 1) (by omega) τ (t := u) (by omega)) (by omega) lX8_32 dX8_value_59 rfl (Nat.le_of_ble_eq_true rfl) rfl ?_
        refine g_is6 (pc := 62) C dX8_value_62 ?_
        refine g_ii7 (pc := 64) (v := nI (i + 1)) C dX8_value_64 (nI_inc1 _) ?_
        refine g_goto (pc := 67) (tgt := 36) C dX8_value_67 (by decide) ?_
        exact ih (i + 1) _ _ (by omega) (hv.tr (Eqx.up (by decide))) ⟨hn0, hn1, hn2, hn3⟩ hV
      · replace e : cs i = 10108 := e.trans (by decide)
        obtain ⟨u, rfl, hV⟩ := VI_op hv2 e (by decide) (by decide) (depT_back hT.2.2.2 (i + 1) (by omega))
        refine g_al0n (pc := 47) C dX8_value_47 ?_
        refine g_al0n (pc := 48) C dX8_value_48 ?_
        refine s_getR (pc := 49) C fX8_13 h1 rfl dX8_value_49 ?_
        refine g_il1n (pc := 52) C dX8_value_52 ?_
        refine s_aald (pc := 53) (q := 5) C h2 (by decide) rfl rfl (by decide) dX8_value_53 ?_
        refine g_il7 (pc := 54) C dX8_value_54 ?_
        refine s_ialdv (pc := 56) (q := i) (v := (-142)) C h8 rfl (by omega) (Nat.le_of_ble_eq_true rfl) (by rw [hv 8 (by decide)]; exact ((hT.2.2.1 i (by omega)).2).trans (by rw [e]; decide)) dX8_value_56 ?_
        refine g_il6 (pc := 57) C dX8_value_57 ?_
        refine s_VI (pc := 59) (st := []) C h1 rfl (c_step10108 (d := d - 1) (by omega) τ (t := u) (by omega)) (by omega) lX8_32 dX8_value_59 rfl (Nat.le_of_ble_eq_true rfl) rfl ?_
        refine g_is6 (pc := 62) C dX8_value_62 ?_
        refine g_ii7 (pc := 64) (v := nI (i + 1)) C dX8_value_64 (nI_inc1 _) ?_
        refine g_goto (pc := 67) (tgt := 36) C dX8_value_67 (by decide) ?_
        exact ih (i + 1) _ _ (by omega) (hv.tr (Eqx.up (by decide))) ⟨hn0, hn1, hn2, hn3⟩ hV
      · replace e : cs i = 10109 := e.trans (by decide)
        obtain ⟨u, rfl, hV⟩ := VI_op hv2 e (by decide) (by decide) (depT_back hT.2.2.2 (i + 1) (by omega))
        refine g_al0n (pc := 47) C dX8_value_47 ?_
        refine g_al0n (pc := 48) C dX8_value_48 ?_
        refine s_getR (pc := 49) C fX8_13 h1 rfl dX8_value_49 ?_
        refine g_il1n (pc := 52) C dX8_value_52 ?_
        refine s_aald (pc := 53) (q := 5) C h2 (by decide) rfl rfl (by decide) dX8_value_53 ?_
        refine g_il7 (pc := 54) C dX8_value_54 ?_
        refine s_ialdv (pc := 56) (q := i) (v := (-147)) C h8 rfl (by omega) (Nat.le_of_ble_eq_true rfl) (by rw [hv 8 (by decide)]; exact ((hT.2.2.1 i (by omega)).2).trans (by rw [e]; decide)) dX8_value_56 ?_
        refine g_il6 (pc := 57) C dX8_value_57 ?_
        refine s_VI (pc := 59) (st := []) C h1 rfl (c_step10109 (d := d - 1) (by omega) τ (t := u) (by omega)) (by omega) lX8_32 dX8_value_59 rfl (Nat.le_of_ble_eq_true rfl) rfl ?_
        refine g_is6 (pc := 62) C dX8_value_62 ?_
        refine g_ii7 (pc := 64) (v := nI (i + 1)) C dX8_value_64 (nI_inc1 _) ?_
        refine g_goto (pc := 67) (tgt := 36) C dX8_value_67 (by decide) ?_
        exact ih (i + 1) _ _ (by omega) (hv.tr (Eqx.up (by decide))) ⟨hn0, hn1, hn2, hn3⟩ hV

theorem c_value5 {d : Nat} (hd : 3 ≤ d) (σ : Sg) {cs : Nu} {len : Nat} (hT : RT1 σ cs len 5) (h m k w : Int32) : CP d mX8_value [.ref 1, .int 5, .int h, .int m, .int k, .int w] σ (fun v τ' => v = (runT cs h m k w len).headD 0 ∧ Eqx [10, 11] σ τ') := by
  refine con_of (by decide) (catL rfl) (Nat.le_of_ble_eq_true rfl) ?_
  intro μ ω C hr
  have C : Cx μ ω "TowField$Texts" cX8_value 8 d := C
  have hr : (mH μ).sig.returnType = some .int := hr
  show G μ ω (RQ μ ω (pP (fun v τ' => v = (runT cs h m k w len).headD 0 ∧ Eqx [10, 11] σ τ'))) 0 [some (.ref 1), some (.int 5), some (.int h), some (.int m), some (.int k), some (.int w), none, none] [] (mk σ) 0 0
  refine g_al0n (pc := 0) C dX8_value_0 ?_
  refine s_getR (pc := 1) C fX8_20 h1 rfl dX8_value_1 ?_
  refine g_iconst (pc := 4) (v := 0) C dX8_value_4 (by decide) ?_
  refine g_il2n (pc := 5) C dX8_value_5 ?_
  refine s_iast (pc := 6) (q := 0) C h10 rfl (by omega) (Nat.le_of_ble_eq_true rfl) dX8_value_6 ?_
  refine g_al0n (pc := 7) C dX8_value_7 ?_
  refine s_getR (pc := 8) C fX8_20 h1 rfl dX8_value_8 ?_
  refine g_iconst (pc := 11) (v := 1) C dX8_value_11 (by decide) ?_
  refine g_il3n (pc := 12) C dX8_value_12 ?_
  refine s_iast (pc := 13) (q := 1) C h10 rfl (by omega) (Nat.le_of_ble_eq_true rfl) dX8_value_13 ?_
  refine g_al0n (pc := 14) C dX8_value_14 ?_
  refine s_getR (pc := 15) C fX8_20 h1 rfl dX8_value_15 ?_
  refine g_iconst (pc := 18) (v := 2) C dX8_value_18 (by decide) ?_
  refine g_il4 (pc := 19) C dX8_value_19 ?_
  refine s_iast (pc := 21) (q := 2) C h10 rfl (by omega) (Nat.le_of_ble_eq_true rfl) dX8_value_21 ?_
  refine g_al0n (pc := 22) C dX8_value_22 ?_
  refine s_getR (pc := 23) C fX8_20 h1 rfl dX8_value_23 ?_
  refine g_iconst (pc := 26) (v := 3) C dX8_value_26 (by decide) ?_
  refine g_il5 (pc := 27) C dX8_value_27 ?_
  refine s_iast (pc := 29) (q := 3) C h10 rfl (by omega) (Nat.le_of_ble_eq_true rfl) dX8_value_29 ?_
  refine g_iconst (pc := 30) (v := 0) C dX8_value_30 (by decide) ?_
  refine g_is6 (pc := 31) C dX8_value_31 ?_
  refine g_iconst (pc := 33) (v := 0) C dX8_value_33 (by decide) ?_
  refine g_is7 (pc := 34) C dX8_value_34 ?_
  exact lp_value5 hd C hr σ hT h m k w len 0 0 _ (by omega) (fun z hz => by simp at hz; simp only [up_ne _ _ _ hz.1]) ⟨rfl, rfl, rfl, rfl⟩ ⟨rfl, trivial, rfl⟩

theorem c_value {d : Nat} (hd : 3 ≤ d) (σ : Sg) {cs : Nu} {len t : Nat} (ht : t < 6) (hT : RT1 σ cs len t) (h m k w : Int32) : CP d mX8_value [.ref 1, .int (nI t), .int h, .int m, .int k, .int w] σ (fun v τ' => v = (runT cs h m k w len).headD 0 ∧ Eqx [10, 11] σ τ') := by
  rcases (show t = 0 ∨ t = 1 ∨ t = 2 ∨ t = 3 ∨ t = 4 ∨ t = 5 by omega) with rfl | rfl | rfl | rfl | rfl | rfl
  · exact c_value0 hd σ hT h m k w
  · exact c_value1 hd σ hT h m k w
  · exact c_value2 hd σ hT h m k w
  · exact c_value3 hd σ hT h m k w
  · exact c_value4 hd σ hT h m k w
  · exact c_value5 hd σ hT h m k w
