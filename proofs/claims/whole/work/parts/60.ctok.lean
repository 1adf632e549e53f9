/-! ===== the class reads a token ===== -/
def sgB (c : Int32) : Bool := wSigns.any (fun x => decide (x = c))
theorem sgB_iff {c : Int32} : (∃ j, j < 12 ∧ wSigns.getD j 0 = c) ↔ sgB c = true := by
  constructor
  · rintro ⟨j, hj, rfl⟩
    rcases (show j = 0 ∨ j = 1 ∨ j = 2 ∨ j = 3 ∨ j = 4 ∨ j = 5 ∨ j = 6 ∨ j = 7 ∨ j = 8 ∨ j = 9 ∨ j = 10 ∨ j = 11 by omega) with rfl | rfl | rfl | rfl | rfl | rfl | rfl | rfl | rfl | rfl | rfl | rfl <;> decide
  · intro h
    unfold sgB wSigns at h
    simp only [List.any_cons, List.any_nil, Bool.or_false, Bool.or_eq_true, decide_eq_true_eq] at h
    rcases h with h | h | h | h | h | h | h | h | h | h | h | h
    · exact ⟨0, by decide, h⟩
    · exact ⟨1, by decide, h⟩
    · exact ⟨2, by decide, h⟩
    · exact ⟨3, by decide, h⟩
    · exact ⟨4, by decide, h⟩
    · exact ⟨5, by decide, h⟩
    · exact ⟨6, by decide, h⟩
    · exact ⟨7, by decide, h⟩
    · exact ⟨8, by decide, h⟩
    · exact ⟨9, by decide, h⟩
    · exact ⟨10, by decide, h⟩
    · exact ⟨11, by decide, h⟩
/-- the class's word for the token that is read from q on -/
def tokS (t : Nu) (n q : Nat) : Int32 := if sortS t n q = 0 then 258 else if sortS t n q = 1 then (if (nameS t n q).isSome = true then 257 else 259) else if sortS t n q = 2 then (if isNum t n q = true then 256 else 259) else if sgB (t (stS t n q)) = true then t (stS t n q) else 259
def BY (t : Nu) (n : Nat) : Prop := ∀ i, i < n → ∃ b, b < 256 ∧ t i = nI b
section TOK
variable {t : Nu} {n q : Nat}
theorem sort4 (t : Nu) (n q : Nat) : sortS t n q = 0 ∨ sortS t n q = 1 ∨ sortS t n q = 2 ∨ sortS t n q = 3 := by
  unfold sortS
  split
  · exact Or.inl rfl
  · split
    · exact Or.inr (Or.inl rfl)
    · split
      · exact Or.inr (Or.inr (Or.inl rfl))
      · exact Or.inr (Or.inr (Or.inr rfl))
theorem tok0 (h : sortS t n q = 0) : tokS t n q = 258 := if_pos h
theorem tok1 (h : sortS t n q = 1) : tokS t n q = if (nameS t n q).isSome = true then 257 else 259 := by unfold tokS; rw [h, if_neg (by decide), if_pos rfl]
theorem tok2 (h : sortS t n q = 2) : tokS t n q = if isNum t n q = true then 256 else 259 := by unfold tokS; rw [h, if_neg (by decide), if_neg (by decide), if_pos rfl]
theorem tok3 (h : sortS t n q = 3) : tokS t n q = if sgB (t (stS t n q)) = true then t (stS t n q) else 259 := by unfold tokS; rw [h, if_neg (by decide), if_neg (by decide), if_neg (by decide)]
theorem name_no (h : sortS t n q ≠ 1) : nameS t n q = none := by
  cases e : nameS t n q with
  | none => rfl
  | some i => exact absurd (name_sort e).1 h
theorem num_no (h : sortS t n q ≠ 2) : ¬ isNum t n q = true := fun z => h (isNum_i.mp z).1
theorem sgn_big {c : Int32} (h : sgB c = true) : c ≠ -1 ∧ c ≠ 256 ∧ c ≠ 257 ∧ c ≠ 258 ∧ c ≠ 259 := by
  refine ⟨?_, ?_, ?_, ?_, ?_⟩ <;> (rintro rfl; exact absurd h (by decide))
theorem tok_sign {c : Int32} (hc : sgB c = true) : tokS t n q = c ↔ sg t n q = c := by
  obtain ⟨b1, b2, b3, b4, b5⟩ := sgn_big hc
  unfold sg
  rcases sort4 t n q with h | h | h | h
  · rw [tok0 h, h, if_neg (by decide)]; exact ⟨fun e => absurd e.symm b4, fun e => absurd e.symm b1⟩
  · rw [tok1 h, h, if_neg (show ¬ (1 : Int32) = 3 by decide)]
    refine ⟨fun e => ?_, fun e => absurd e.symm b1⟩
    split at e
    · exact absurd e.symm b3
    · exact absurd e.symm b5
  · rw [tok2 h, h, if_neg (show ¬ (2 : Int32) = 3 by decide)]
    refine ⟨fun e => ?_, fun e => absurd e.symm b1⟩
    split at e
    · exact absurd e.symm b2
    · exact absurd e.symm b5
  · rw [tok3 h, if_pos h]
    constructor
    · intro e
      split at e
      · exact e
      · exact absurd e.symm b5
    · intro e
      rw [e, if_pos hc]
theorem by_big (hb : BY t n) (hq : q ≤ n) (h : sortS t n q = 3) : t (stS t n q) ≠ 256 ∧ t (stS t n q) ≠ 257 ∧ t (stS t n q) ≠ 258 ∧ t (stS t n q) ≠ 259 := by
  obtain ⟨b, hb1, e⟩ := hb _ (sort_lt hq (by rw [h]; decide))
  rw [e]
  exact ⟨nI_ne (b := 256) (by omega) (by decide) (by omega), nI_ne (b := 257) (by omega) (by decide) (by omega), nI_ne (b := 258) (by omega) (by decide) (by omega), nI_ne (b := 259) (by omega) (by decide) (by omega)⟩
theorem tok_num (hb : BY t n) (hq : q ≤ n) : tokS t n q = 256 ↔ isNum t n q = true := by
  rcases sort4 t n q with h | h | h | h
  · rw [tok0 h]; exact ⟨fun e => absurd e (by decide), fun e => absurd e (num_no (by rw [h]; decide))⟩
  · rw [tok1 h]
    refine ⟨fun e => ?_, fun e => absurd e (num_no (by rw [h]; decide))⟩
    split at e <;> exact absurd e (by decide)
  · rw [tok2 h]
    constructor
    · intro e
      split at e
      · assumption
      · exact absurd e (by decide)
    · intro e; rw [if_pos e]
  · rw [tok3 h]
    refine ⟨fun e => ?_, fun e => absurd e (num_no (by rw [h]; decide))⟩
    split at e
    · exact absurd e (by_big hb hq h).1
    · exact absurd e (by decide)
theorem tok_name (hb : BY t n) (hq : q ≤ n) : tokS t n q = 257 ↔ (nameS t n q).isSome = true := by
  rcases sort4 t n q with h | h | h | h
  · rw [tok0 h, name_no (by rw [h]; decide)]; exact ⟨fun e => absurd e (by decide), fun e => absurd e (by decide)⟩
  · rw [tok1 h]
    constructor
    · intro e
      split at e
      · assumption
      · exact absurd e (by decide)
    · intro e; rw [if_pos e]
  · rw [tok2 h, name_no (by rw [h]; decide)]
    refine ⟨fun e => ?_, fun e => absurd e (by decide)⟩
    split at e <;> exact absurd e (by decide)
  · rw [tok3 h, name_no (by rw [h]; decide)]
    refine ⟨fun e => ?_, fun e => absurd e (by decide)⟩
    split at e
    · exact absurd e (by_big hb hq h).2.1
    · exact absurd e (by decide)
theorem tok_end (hb : BY t n) (hq : q ≤ n) : tokS t n q = 258 ↔ sortS t n q = 0 := by
  rcases sort4 t n q with h | h | h | h
  · rw [tok0 h, h]; exact ⟨fun _ => rfl, fun _ => rfl⟩
  · rw [tok1 h, h]
    refine ⟨fun e => ?_, fun e => absurd e (by decide)⟩
    split at e <;> exact absurd e (by decide)
  · rw [tok2 h, h]
    refine ⟨fun e => ?_, fun e => absurd e (by decide)⟩
    split at e <;> exact absurd e (by decide)
  · rw [tok3 h, h]
    refine ⟨fun e => ?_, fun e => absurd e (by decide)⟩
    split at e
    · exact absurd e (by_big hb hq h).2.2.1
    · exact absurd e (by decide)
theorem en_w (h : sortS t n q = 1) (hq : q ≤ n) : enS t n q = bhA t n 97 122 (stS t n q) ∧ stS t n q < n := by
  have hl := sort_lt hq (by rw [h]; decide)
  unfold sortS at h
  rw [if_neg (by omega)] at h
  by_cases e1 : 97 ≤ t (stS t n q) ∧ t (stS t n q) ≤ 122
  · unfold enS
    rw [if_neg (by omega), if_pos e1, bhA_y (p := stS t n q) ⟨hl, e1⟩]; exact ⟨rfl, hl⟩
  · rw [if_neg e1] at h
    split at h <;> exact absurd h (by decide)
theorem en_d (h : sortS t n q = 2) (hq : q ≤ n) : enS t n q = bhA t n 48 57 (stS t n q) ∧ stS t n q < n := by
  have hl := sort_lt hq (by rw [h]; decide)
  unfold sortS at h
  rw [if_neg (by omega)] at h
  by_cases e1 : 97 ≤ t (stS t n q) ∧ t (stS t n q) ≤ 122
  · rw [if_pos e1] at h; exact absurd h (by decide)
  · rw [if_neg e1] at h
    by_cases e2 : 48 ≤ t (stS t n q) ∧ t (stS t n q) ≤ 57
    · unfold enS
      rw [if_neg (by omega), if_neg e1, if_pos e2, bhA_y (p := stS t n q) ⟨hl, e2⟩]; exact ⟨rfl, hl⟩
    · rw [if_neg e2] at h; exact absurd h (by decide)
end TOK
theorem lp_behind {μ : Mx} {ω : Om} {d : Nat} (hd : 2 ≤ d) (C : Cx μ ω "TowField$Tape" cX7_behindAll 5 d) (hr : (mH μ).sig.returnType = some .int) (σ : Sg) {n : Nat} (hn : σ 131 2 = nI n) (hn1 : n ≤ 100) (lo hi : Int32) {p : Nat} {x : Int32} : ∀ (f i : Nat), i + f = n → (bhA (σ 132) n lo hi i = bhA (σ 132) n lo hi p) → G μ ω (RQ μ ω (pI (nI (bhA (σ 132) n lo hi p)) σ)) 3 [some (.ref 131), some (.int x), some (.int lo), some (.int hi), some (.int (nI i))] [] (mk σ) 0 0 := by
  intro f
  induction f with
  | zero =>
    intro i hif hv
    have hin : i = n := by omega
    refine g_il4 (pc := 3) C dX7_behindAll_3 ?_
    refine g_al0n (pc := 5) C dX7_behindAll_5 ?_
    refine s_getIv (pc := 6) (v := nI n) C fX7_18 h131 rfl hn dX7_behindAll_6 ?_
    refine g_icmp_geL (pc := 9) (tgt := 33) C dX7_behindAll_9 (by decide) (fun c_9 => ?_) (fun c_9 => absurd c_9 (nI_nlt (by omega) (by omega)))
    refine g_il4 (pc := 33) C dX7_behindAll_33 ?_
    exact r_I C hr dX7_behindAll_35 (by rw [← hv, bhA_n (by omega)]) rfl
  | succ f ih =>
    intro i hif hv
    refine g_il4 (pc := 3) C dX7_behindAll_3 ?_
    refine g_al0n (pc := 5) C dX7_behindAll_5 ?_
    refine s_getIv (pc := 6) (v := nI n) C fX7_18 h131 rfl hn dX7_behindAll_6 ?_
    refine g_icmp_geL (pc := 9) (tgt := 33) C dX7_behindAll_9 (by decide) (fun c_9 => absurd (nI_lt (by omega) (by omega)) c_9) (fun c_9 => ?_)
    refine g_al0n (pc := 12) C dX7_behindAll_12 ?_
    refine s_getR (pc := 13) C fX7_9 h131 rfl dX7_behindAll_13 ?_
    refine g_il4 (pc := 16) C dX7_behindAll_16 ?_
    refine s_iald (pc := 18) (q := i) C h132 rfl (by omega) (Nat.le_of_ble_eq_true rfl) dX7_behindAll_18 ?_
    refine g_il2n (pc := 19) C dX7_behindAll_19 ?_
    refine g_il3n (pc := 20) C dX7_behindAll_20 ?_
    refine s_NB (pc := 21) (st := []) C (c_X11_within (d := d - 1) (by omega) σ (σ 132 i) lo hi) (by omega) lX7_75 dX7_behindAll_21 rfl (Nat.le_of_ble_eq_true rfl) rfl (fun b_21 => ?_) (fun b_21 => ?_)
    · refine g_if_eq (pc := 24) (tgt := 33) C dX7_behindAll_24 (by decide) (fun c => absurd c (by decide)) (fun _ => ?_)
      refine g_ii4 (pc := 27) (v := nI (i + 1)) C dX7_behindAll_27 (nI_inc1 _) ?_
      refine g_goto (pc := 30) (tgt := 3) C dX7_behindAll_30 (by decide) ?_
      exact ih (i + 1) (by omega) (by rw [← hv]; exact (bhA_y ⟨by omega, b_21⟩).symm)
    · refine g_if_eq (pc := 24) (tgt := 33) C dX7_behindAll_24 (by decide) (fun _ => ?_) (fun c => absurd c (by decide))
      refine g_il4 (pc := 33) C dX7_behindAll_33 ?_
      exact r_I C hr dX7_behindAll_35 (by rw [← hv, bhA_n (t := σ 132) (fun z => b_21 z.2)]) rfl

theorem c_behind {d : Nat} (hd : 2 ≤ d) (σ : Sg) {n : Nat} (hn : σ 131 2 = nI n) (hn1 : n ≤ 100) (lo hi : Int32) {p : Nat} (hp : p ≤ n) : CI d mX7_behindAll [.ref 131, .int (nI p), .int lo, .int hi] σ (nI (bhA (σ 132) n lo hi p)) σ := by
  refine con_of (by decide) (catL rfl) (Nat.le_of_ble_eq_true rfl) ?_
  intro μ ω C hr
  have C : Cx μ ω "TowField$Tape" cX7_behindAll 5 d := C
  have hr : (mH μ).sig.returnType = some .int := hr
  show G μ ω (RQ μ ω (pI (nI (bhA (σ 132) n lo hi p)) σ)) 0 [some (.ref 131), some (.int (nI p)), some (.int lo), some (.int hi), none] [] (mk σ) 0 0
  refine g_il1n (pc := 0) C dX7_behindAll_0 ?_
  refine g_is4 (pc := 1) C dX7_behindAll_1 ?_
  exact lp_behind hd C hr σ hn hn1 lo hi (n - p) p (by omega) rfl

theorem lp_isWordX {μ : Mx} {ω : Om} {d : Nat} (hd : 5 ≤ d) (C : Cx μ ω "TowField$Tape" cX7_isWord 4 d) (hr : (mH μ).sig.returnType = some .boolean) (σ : Sg) {n q : Nat} (hn1 : n ≤ 100) (hq : q ≤ n) (h4 : σ 131 4 = nI (enS (σ 132) n q)) (h5 : σ 131 5 = nI (stS (σ 132) n q)) (hs : sortS (σ 132) n q = 1) {x : String × Nat × String × List Int32} {j : Nat} (hx : sxL[j]? = some x) (hlen : enS (σ 132) n q - stS (σ 132) n q = x.2.2.2.length) : ∀ (f i : Nat), i + f = x.2.2.2.length → (∀ k, k < i → σ 132 (stS (σ 132) n q + k) = x.2.2.2.getD k 0) → G μ ω (RQ μ ω (pB (isWd (σ 132) n q x.2.2.2 = true) σ)) 22 [some (.ref 131), some (.ref (100100 + j)), some (.int (nI x.2.2.2.length)), some (.int (nI i))] [] (mk σ) 0 0 := by
  intro f
  induction f with
  | zero =>
    intro i hif hv
    have hin : i = x.2.2.2.length := by omega
    have hxl := sx_len x (List.mem_of_getElem? hx)
    have he1 := enS_le (t := σ 132) hq
    have hs1 := stS_le (t := σ 132) hq
    refine g_il3n (pc := 22) C dX7_isWord_22 ?_
    refine g_il2n (pc := 23) C dX7_isWord_23 ?_
    refine g_icmp_geL (pc := 24) (tgt := 54) C dX7_isWord_24 (by decide) (fun c_24 => ?_) (fun c_24 => absurd c_24 (nI_nlt (by omega) (by omega)))
    refine g_iconst (pc := 54) (v := 1) C dX7_isWord_54 (by decide) ?_
    exact r_B1 C hr dX7_isWord_55 (isWd_i.mpr ⟨hs, hlen, (wdB_iff _ _ _).mpr (fun k hk => hv k (by omega))⟩) rfl
  | succ f ih =>
    intro i hif hv
    have hxl := sx_len x (List.mem_of_getElem? hx)
    have he1 := enS_le (t := σ 132) hq
    have hs1 := stS_le (t := σ 132) hq
    refine g_il3n (pc := 22) C dX7_isWord_22 ?_
    refine g_il2n (pc := 23) C dX7_isWord_23 ?_
    refine g_icmp_geL (pc := 24) (tgt := 54) C dX7_isWord_24 (by decide) (fun c_24 => absurd (nI_lt (by omega) (by omega)) c_24) (fun c_24 => ?_)
    refine g_al0n (pc := 27) C dX7_isWord_27 ?_
    refine s_getR (pc := 28) C fX7_9 h131 rfl dX7_isWord_28 ?_
    refine g_al0n (pc := 31) C dX7_isWord_31 ?_
    refine s_getIv (pc := 32) (v := nI ((stS (σ 132) n q))) C fX7_28 h131 rfl h5 dX7_isWord_32 ?_
    refine g_il3n (pc := 35) C dX7_isWord_35 ?_
    refine g_iadd (pc := 36) C dX7_isWord_36 ?_
    refine s_iald (pc := 37) (q := ((stS (σ 132) n q)) + i) C h132 (by first | (simp only [ixl, nI_add, pk_mul]; done) | rfl | decide) (by omega) (Nat.le_of_ble_eq_true rfl) dX7_isWord_37 ?_
    refine g_al1n (pc := 38) C dX7_isWord_38 ?_
    refine g_il3n (pc := 39) C dX7_isWord_39 ?_
    refine s_XI (pc := 40) (st := [(.int (σ 132 (((stS (σ 132) n q)) + i)))]) C hx rfl (c_charAt (d := d - 1) (by omega) σ hx (i := i) (by omega)) (by omega) lX7_108 dX7_isWord_40 rfl (Nat.le_of_ble_eq_true rfl) rfl ?_
    refine g_icmp_eq (pc := 43) (tgt := 48) C dX7_isWord_43 (by decide) (fun c_43 => ?_) (fun c_43 => ?_)
    · refine g_ii3 (pc := 48) (v := nI (i + 1)) C dX7_isWord_48 (nI_inc1 _) ?_
      refine g_goto (pc := 51) (tgt := 22) C dX7_isWord_51 (by decide) ?_
      exact ih (i + 1) (by omega) (alls hv c_43)
    · refine g_iconst (pc := 46) (v := 0) C dX7_isWord_46 (by decide) ?_
      exact r_B0 C hr dX7_isWord_47 (fun z => c_43 ((wdB_iff _ _ _).mp (isWd_i.mp z).2.2 i (by omega))) rfl

theorem c_isWordX {d : Nat} (hd : 5 ≤ d) (σ : Sg) {n q : Nat} (hn1 : n ≤ 100) (hq : q ≤ n) (h4 : σ 131 4 = nI (enS (σ 132) n q)) (h5 : σ 131 5 = nI (stS (σ 132) n q)) (hs : sortS (σ 132) n q = 1) {x : String × Nat × String × List Int32} {j : Nat} (hx : sxL[j]? = some x) : CB d mX7_isWord [.ref 131, .ref (100100 + j)] σ (isWd (σ 132) n q x.2.2.2 = true) σ := by
  have hxl := sx_len x (List.mem_of_getElem? hx)
  have he1 := enS_le (t := σ 132) hq
  have hs1 := stS_le (t := σ 132) hq
  have hl : nI (enS (σ 132) n q) - nI (stS (σ 132) n q) = nI (enS (σ 132) n q - stS (σ 132) n q) := nI_sub he1.1
  refine con_of (by decide) (catL rfl) (Nat.le_of_ble_eq_true rfl) ?_
  intro μ ω C hr
  have C : Cx μ ω "TowField$Tape" cX7_isWord 4 d := C
  have hr : (mH μ).sig.returnType = some .boolean := hr
  show G μ ω (RQ μ ω (pB (isWd (σ 132) n q x.2.2.2 = true) σ)) 0 [some (.ref 131), some (.ref (100100 + j)), none, none] [] (mk σ) 0 0
  refine g_al1n (pc := 0) C dX7_isWord_0 ?_
  refine s_XI (pc := 1) (st := []) C hx rfl (c_length (d := d - 1) (by omega) σ hx) (by omega) lX7_105 dX7_isWord_1 rfl (Nat.le_of_ble_eq_true rfl) rfl ?_
  refine g_is2n (pc := 4) C dX7_isWord_4 ?_
  refine g_al0n (pc := 5) C dX7_isWord_5 ?_
  refine s_getIv (pc := 6) (v := nI ((enS (σ 132) n q))) C fX7_25 h131 rfl h4 dX7_isWord_6 ?_
  refine g_al0n (pc := 9) C dX7_isWord_9 ?_
  refine s_getIv (pc := 10) (v := nI ((stS (σ 132) n q))) C fX7_28 h131 rfl h5 dX7_isWord_10 ?_
  refine g_isub (pc := 13) C dX7_isWord_13 ?_
  refine g_il2n (pc := 14) C dX7_isWord_14 ?_
  refine g_icmp_eq (pc := 15) (tgt := 20) C dX7_isWord_15 (by decide) (fun c_15 => ?_) (fun c_15 => ?_)
  · refine g_iconst (pc := 20) (v := 0) C dX7_isWord_20 (by decide) ?_
    refine g_is3n (pc := 21) C dX7_isWord_21 ?_
    exact lp_isWordX hd C hr σ hn1 hq h4 h5 hs hx (by rw [hl] at c_15; exact (nI_eq (by omega) (by omega)).mp c_15) x.2.2.2.length 0 (by omega) (fun k hk => by omega)
  · refine g_iconst (pc := 18) (v := 0) C dX7_isWord_18 (by decide) ?_
    exact r_B0 C hr dX7_isWord_19 (fun z => c_15 (by rw [hl, (isWd_i.mp z).2.1])) rfl

/-- a word or a number was taken: at, token, what it told -/
def TKn (σ : Sg) (n q : Nat) (τ : Sg) : Prop := τ 131 4 = nI (enS (σ 132) n q) ∧ τ 131 6 = tokS (σ 132) n q ∧ (isNum (σ 132) n q = true → τ 131 7 = numS (σ 132) n q) ∧ (∀ i, nameS (σ 132) n q = some i → τ 131 7 = nI i) ∧ (∀ j, j ≠ 4 → j ≠ 6 → j ≠ 7 → τ 131 j = σ 131 j) ∧ Eqx [131] σ τ
theorem c_takeWord {d : Nat} (hd : 6 ≤ d) (σ : Sg) {n q : Nat} (hn : σ 131 2 = nI n) (hn1 : n ≤ 100) (hq : q ≤ n) (h5 : σ 131 5 = nI (stS (σ 132) n q)) (hs : sortS (σ 132) n q = 1) : CQ d mX7_takeWord [.ref 131] σ (TKn σ n q) := by
  have hs1 := stS_le (t := σ 132) hq
  have hen := (en_w hs hq).1
  refine con_of (by decide) (catL rfl) (Nat.le_of_ble_eq_true rfl) ?_
  intro μ ω C hr
  have C : Cx μ ω "TowField$Tape" cX7_takeWord 1 d := C
  have hr : (mH μ).sig.returnType = none := hr
  show G μ ω (RQ μ ω (pQ (TKn σ n q))) 0 [some (.ref 131)] [] (mk σ) 0 0
  refine g_al0n (pc := 0) C dX7_takeWord_0 ?_
  refine g_al0n (pc := 1) C dX7_takeWord_1 ?_
  refine g_al0n (pc := 2) C dX7_takeWord_2 ?_
  refine s_getIv (pc := 3) (v := nI ((stS (σ 132) n q))) C fX7_28 h131 rfl h5 dX7_takeWord_3 ?_
  refine g_bipush (pc := 6) (v := 97) C dX7_takeWord_6 (by decide) ?_
  refine g_bipush (pc := 8) (v := 122) C dX7_takeWord_8 (by decide) ?_
  refine s_VI (pc := 10) (st := [(.ref 131)]) C h131 rfl (by have := c_behind (d := d - 1) (by omega) σ (n := n) hn hn1 97 122 (p := (stS (σ 132) n q)) (by omega); exact this) (by omega) lX7_71 dX7_takeWord_10 rfl (Nat.le_of_ble_eq_true rfl) rfl ?_
  refine s_putI (pc := 13) C pX7_25 h131 rfl dX7_takeWord_13 ?_
  refine g_al0n (pc := 16) C dX7_takeWord_16 ?_
  refine g_sipush (pc := 17) (v := 257) C dX7_takeWord_17 (by decide) ?_
  refine s_putI (pc := 20) C pX7_31 h131 rfl dX7_takeWord_20 ?_
  refine g_al0n (pc := 23) C dX7_takeWord_23 ?_
  refine g_ldcS (pc := 24) (j := 0) C dX7_takeWord_24 rfl rfl rfl ?_
  refine s_VB (pc := 26) (st := []) C h131 rfl (c_isWordX (d := d - 1) (by omega) ((up (up σ 131 4 (nI ((bhA (σ 132) n 97 122 ((stS (σ 132) n q)))))) 131 6 257)) (n := n) (q := q) hn1 hq (show (up (up σ 131 4 (nI ((bhA (σ 132) n 97 122 ((stS (σ 132) n q)))))) 131 6 257) 131 4 = nI (enS (σ 132) n q) by rw [hen]; rfl) h5 hs (j := 0) rfl) (by omega) lX7_95 dX7_takeWord_26 rfl (Nat.le_of_ble_eq_true rfl) rfl (fun b_26 => ?_) (fun b_26 => ?_)
  · refine g_if_eq (pc := 29) (tgt := 40) C dX7_takeWord_29 (by decide) (fun c => absurd c (by decide)) (fun _ => ?_)
    refine g_al0n (pc := 32) C dX7_takeWord_32 ?_
    refine g_iconst (pc := 33) (v := 0) C dX7_takeWord_33 (by decide) ?_
    refine s_putI (pc := 34) C pX7_34 h131 rfl dX7_takeWord_34 ?_
    refine g_goto (pc := 37) (tgt := 98) C dX7_takeWord_37 (by decide) ?_
    have hnm : nameS (σ 132) n q = some 0 := by unfold nameS; rw [if_pos (show isWd (σ 132) n q wHeight = true from b_26)]
    refine r_Q C hr dX7_takeWord_98 ⟨by rw [hen]; rfl, by rw [tok1 hs, hnm]; rfl, fun z => absurd z (num_no (by rw [hs]; decide)), fun i hi => ?_, fun j h1 h2 h3 => by simp only [up_at, upd_apply, h1, h2, h3, if_false], fun k hk => by simp only [up_ne _ _ _ (show k ≠ 131 by simpa using hk)]⟩
    rw [hnm] at hi
    cases hi; rfl
  · refine g_if_eq (pc := 29) (tgt := 40) C dX7_takeWord_29 (by decide) (fun _ => ?_) (fun c => absurd c (by decide))
    refine g_al0n (pc := 40) C dX7_takeWord_40 ?_
    refine g_ldcS (pc := 41) (j := 1) C dX7_takeWord_41 rfl rfl rfl ?_
    refine s_VB (pc := 43) (st := []) C h131 rfl (c_isWordX (d := d - 1) (by omega) ((up (up σ 131 4 (nI ((bhA (σ 132) n 97 122 ((stS (σ 132) n q)))))) 131 6 257)) (n := n) (q := q) hn1 hq (show (up (up σ 131 4 (nI ((bhA (σ 132) n 97 122 ((stS (σ 132) n q)))))) 131 6 257) 131 4 = nI (enS (σ 132) n q) by rw [hen]; rfl) h5 hs (j := 1) rfl) (by omega) lX7_95 dX7_takeWord_43 rfl (Nat.le_of_ble_eq_true rfl) rfl (fun b_43 => ?_) (fun b_43 => ?_)
    · refine g_if_eq (pc := 46) (tgt := 57) C dX7_takeWord_46 (by decide) (fun c => absurd c (by decide)) (fun _ => ?_)
      refine g_al0n (pc := 49) C dX7_takeWord_49 ?_
      refine g_iconst (pc := 50) (v := 1) C dX7_takeWord_50 (by decide) ?_
      refine s_putI (pc := 51) C pX7_34 h131 rfl dX7_takeWord_51 ?_
      refine g_goto (pc := 54) (tgt := 98) C dX7_takeWord_54 (by decide) ?_
      have hnm : nameS (σ 132) n q = some 1 := by unfold nameS; rw [if_neg (show ¬ isWd (σ 132) n q wHeight = true from b_26), if_pos (show isWd (σ 132) n q wMinutes = true from b_43)]
      refine r_Q C hr dX7_takeWord_98 ⟨by rw [hen]; rfl, by rw [tok1 hs, hnm]; rfl, fun z => absurd z (num_no (by rw [hs]; decide)), fun i hi => ?_, fun j h1 h2 h3 => by simp only [up_at, upd_apply, h1, h2, h3, if_false], fun k hk => by simp only [up_ne _ _ _ (show k ≠ 131 by simpa using hk)]⟩
      rw [hnm] at hi
      cases hi; rfl
    · refine g_if_eq (pc := 46) (tgt := 57) C dX7_takeWord_46 (by decide) (fun _ => ?_) (fun c => absurd c (by decide))
      refine g_al0n (pc := 57) C dX7_takeWord_57 ?_
      refine g_ldcS (pc := 58) (j := 2) C dX7_takeWord_58 rfl rfl rfl ?_
      refine s_VB (pc := 60) (st := []) C h131 rfl (c_isWordX (d := d - 1) (by omega) ((up (up σ 131 4 (nI ((bhA (σ 132) n 97 122 ((stS (σ 132) n q)))))) 131 6 257)) (n := n) (q := q) hn1 hq (show (up (up σ 131 4 (nI ((bhA (σ 132) n 97 122 ((stS (σ 132) n q)))))) 131 6 257) 131 4 = nI (enS (σ 132) n q) by rw [hen]; rfl) h5 hs (j := 2) rfl) (by omega) lX7_95 dX7_takeWord_60 rfl (Nat.le_of_ble_eq_true rfl) rfl (fun b_60 => ?_) (fun b_60 => ?_)
      · refine g_if_eq (pc := 63) (tgt := 74) C dX7_takeWord_63 (by decide) (fun c => absurd c (by decide)) (fun _ => ?_)
        refine g_al0n (pc := 66) C dX7_takeWord_66 ?_
        refine g_iconst (pc := 67) (v := 2) C dX7_takeWord_67 (by decide) ?_
        refine s_putI (pc := 68) C pX7_34 h131 rfl dX7_takeWord_68 ?_
        refine g_goto (pc := 71) (tgt := 98) C dX7_takeWord_71 (by decide) ?_
        have hnm : nameS (σ 132) n q = some 2 := by unfold nameS; rw [if_neg (show ¬ isWd (σ 132) n q wHeight = true from b_26), if_neg (show ¬ isWd (σ 132) n q wMinutes = true from b_43), if_pos (show isWd (σ 132) n q wKind = true from b_60)]
        refine r_Q C hr dX7_takeWord_98 ⟨by rw [hen]; rfl, by rw [tok1 hs, hnm]; rfl, fun z => absurd z (num_no (by rw [hs]; decide)), fun i hi => ?_, fun j h1 h2 h3 => by simp only [up_at, upd_apply, h1, h2, h3, if_false], fun k hk => by simp only [up_ne _ _ _ (show k ≠ 131 by simpa using hk)]⟩
        rw [hnm] at hi
        cases hi; rfl
      · refine g_if_eq (pc := 63) (tgt := 74) C dX7_takeWord_63 (by decide) (fun _ => ?_) (fun c => absurd c (by decide))
        refine g_al0n (pc := 74) C dX7_takeWord_74 ?_
        refine g_ldcS (pc := 75) (j := 3) C dX7_takeWord_75 rfl rfl rfl ?_
        refine s_VB (pc := 77) (st := []) C h131 rfl (c_isWordX (d := d - 1) (by omega) ((up (up σ 131 4 (nI ((bhA (σ 132) n 97 122 ((stS (σ 132) n q)))))) 131 6 257)) (n := n) (q := q) hn1 hq (show (up (up σ 131 4 (nI ((bhA (σ 132) n 97 122 ((stS (σ 132) n q)))))) 131 6 257) 131 4 = nI (enS (σ 132) n q) by rw [hen]; rfl) h5 hs (j := 3) rfl) (by omega) lX7_95 dX7_takeWord_77 rfl (Nat.le_of_ble_eq_true rfl) rfl (fun b_77 => ?_) (fun b_77 => ?_)
        · refine g_if_eq (pc := 80) (tgt := 91) C dX7_takeWord_80 (by decide) (fun c => absurd c (by decide)) (fun _ => ?_)
          refine g_al0n (pc := 83) C dX7_takeWord_83 ?_
          refine g_iconst (pc := 84) (v := 3) C dX7_takeWord_84 (by decide) ?_
          refine s_putI (pc := 85) C pX7_34 h131 rfl dX7_takeWord_85 ?_
          refine g_goto (pc := 88) (tgt := 98) C dX7_takeWord_88 (by decide) ?_
          have hnm : nameS (σ 132) n q = some 3 := by unfold nameS; rw [if_neg (show ¬ isWd (σ 132) n q wHeight = true from b_26), if_neg (show ¬ isWd (σ 132) n q wMinutes = true from b_43), if_neg (show ¬ isWd (σ 132) n q wKind = true from b_60), if_pos (show isWd (σ 132) n q wWind = true from b_77)]
          refine r_Q C hr dX7_takeWord_98 ⟨by rw [hen]; rfl, by rw [tok1 hs, hnm]; rfl, fun z => absurd z (num_no (by rw [hs]; decide)), fun i hi => ?_, fun j h1 h2 h3 => by simp only [up_at, upd_apply, h1, h2, h3, if_false], fun k hk => by simp only [up_ne _ _ _ (show k ≠ 131 by simpa using hk)]⟩
          rw [hnm] at hi
          cases hi; rfl
        · refine g_if_eq (pc := 80) (tgt := 91) C dX7_takeWord_80 (by decide) (fun _ => ?_) (fun c => absurd c (by decide))
          refine g_al0n (pc := 91) C dX7_takeWord_91 ?_
          refine g_sipush (pc := 92) (v := 259) C dX7_takeWord_92 (by decide) ?_
          refine s_putI (pc := 95) C pX7_31 h131 rfl dX7_takeWord_95 ?_
          have hnm : nameS (σ 132) n q = none := by unfold nameS; rw [if_neg (show ¬ isWd (σ 132) n q wHeight = true from b_26), if_neg (show ¬ isWd (σ 132) n q wMinutes = true from b_43), if_neg (show ¬ isWd (σ 132) n q wKind = true from b_60), if_neg (show ¬ isWd (σ 132) n q wWind = true from b_77)]
          refine r_Q C hr dX7_takeWord_98 ⟨by rw [hen]; rfl, by rw [tok1 hs, hnm]; rfl, fun z => absurd z (num_no (by rw [hs]; decide)), fun i hi => ?_, fun j h1 h2 h3 => by simp only [up_at, upd_apply, h1, h2, h3, if_false], fun k hk => by simp only [up_ne _ _ _ (show k ≠ 131 by simpa using hk)]⟩
          rw [hnm] at hi
          cases hi

theorem lp_tnum {μ : Mx} {ω : Om} {d : Nat} (hd : 1 ≤ d) (C : Cx μ ω "TowField$Tape" cX7_takeNumber 2 d) (hr : (mH μ).sig.returnType = none) (σ0 σ : Sg) {n q : Nat} (hn1 : n ≤ 100) (hq : q ≤ n) (h4 : σ 131 4 = nI (enS (σ0 132) n q)) (hby : σ 132 = σ0 132) {Φ : Sg → Prop} (hΦ : ∀ τ, τ 131 7 = numS (σ0 132) n q → (∀ j, j ≠ 7 → τ 131 j = σ 131 j) → Eqx [131] σ τ → Φ τ) : ∀ (f i : Nat) (τ : Sg), i + f = enS (σ0 132) n q → (τ 131 7 = numL (σ0 132) (stS (σ0 132) n q) (i - stS (σ0 132) n q)) → (∀ j, j ≠ 7 → τ 131 j = σ 131 j) → (Eqx [131] σ τ) → (stS (σ0 132) n q ≤ i) → G μ ω (RQ μ ω (pQ Φ)) 52 [some (.ref 131), some (.int (nI i))] [] (mk τ) 0 0 := by
  intro f
  induction f with
  | zero =>
    intro i τ hif hv hv1 hv2 hv3
    have hin : i = enS (σ0 132) n q := by omega
    have he1 := enS_le (t := σ0 132) hq
    refine g_il1n (pc := 52) C dX7_takeNumber_52 ?_
    refine g_al0n (pc := 53) C dX7_takeNumber_53 ?_
    refine s_getIv (pc := 54) (v := nI ((enS (σ0 132) n q))) C fX7_25 h131 rfl ((hv1 4 (by decide)).trans h4) dX7_takeNumber_54 ?_
    refine g_icmp_geL (pc := 57) (tgt := 87) C dX7_takeNumber_57 (by decide) (fun c_57 => ?_) (fun c_57 => absurd c_57 (nI_nlt (by omega) (by omega)))
    exact r_Q C hr dX7_takeNumber_87 (hΦ τ (by rw [hv, hin]; rfl) hv1 hv2)
  | succ f ih =>
    intro i τ hif hv hv1 hv2 hv3
    have he1 := enS_le (t := σ0 132) hq
    refine g_il1n (pc := 52) C dX7_takeNumber_52 ?_
    refine g_al0n (pc := 53) C dX7_takeNumber_53 ?_
    refine s_getIv (pc := 54) (v := nI ((enS (σ0 132) n q))) C fX7_25 h131 rfl ((hv1 4 (by decide)).trans h4) dX7_takeNumber_54 ?_
    refine g_icmp_geL (pc := 57) (tgt := 87) C dX7_takeNumber_57 (by decide) (fun c_57 => absurd (nI_lt (by omega) (by omega)) c_57) (fun c_57 => ?_)
    refine g_al0n (pc := 60) C dX7_takeNumber_60 ?_
    refine g_al0n (pc := 61) C dX7_takeNumber_61 ?_
    refine s_getIv (pc := 62) (v := numL (σ0 132) (stS (σ0 132) n q) (i - stS (σ0 132) n q)) C fX7_34 h131 rfl hv dX7_takeNumber_62 ?_
    refine g_bipush (pc := 65) (v := 10) C dX7_takeNumber_65 (by decide) ?_
    refine g_imul (pc := 67) C dX7_takeNumber_67 ?_
    refine g_al0n (pc := 68) C dX7_takeNumber_68 ?_
    refine s_getR (pc := 69) C fX7_9 h131 rfl dX7_takeNumber_69 ?_
    refine g_il1n (pc := 72) C dX7_takeNumber_72 ?_
    refine s_ialdv (pc := 73) (q := i) (v := σ0 132 i) C h132 rfl (by omega) (Nat.le_of_ble_eq_true rfl) (by rw [hv2 132 (by decide), hby]) dX7_takeNumber_73 ?_
    refine g_iadd (pc := 74) C dX7_takeNumber_74 ?_
    refine g_bipush (pc := 75) (v := 48) C dX7_takeNumber_75 (by decide) ?_
    refine g_isub (pc := 77) C dX7_takeNumber_77 ?_
    refine s_putI (pc := 78) C pX7_34 h131 rfl dX7_takeNumber_78 ?_
    refine g_ii1 (pc := 81) (v := nI (i + 1)) C dX7_takeNumber_81 (nI_inc1 _) ?_
    refine g_goto (pc := 84) (tgt := 52) C dX7_takeNumber_84 (by decide) ?_
    exact ih (i + 1) _ (by omega) (by rw [up_at, upd_at, show i + 1 - stS (σ0 132) n q = i - stS (σ0 132) n q + 1 by omega]; show _ = 10 * numL (σ0 132) (stS (σ0 132) n q) (i - stS (σ0 132) n q) + σ0 132 (stS (σ0 132) n q + (i - stS (σ0 132) n q)) - 48; rw [show stS (σ0 132) n q + (i - stS (σ0 132) n q) = i by omega, Int32.mul_comm]) (fun j hj => by rw [up_at, upd_ne _ _ hj]; exact hv1 j hj) (hv2.tr (Eqx.up (by decide))) (by omega)

theorem c_takeNumber {d : Nat} (hd : 3 ≤ d) (σ : Sg) {n q : Nat} (hn : σ 131 2 = nI n) (hn1 : n ≤ 100) (hq : q ≤ n) (h5 : σ 131 5 = nI (stS (σ 132) n q)) (hs : sortS (σ 132) n q = 2) : CQ d mX7_takeNumber [.ref 131] σ (TKn σ n q) := by
  have hs1 := stS_le (t := σ 132) hq
  have he1 := enS_le (t := σ 132) hq
  have hen := (en_d hs hq).1
  have hl : nI (enS (σ 132) n q) - nI (stS (σ 132) n q) = nI (enS (σ 132) n q - stS (σ 132) n q) := nI_sub he1.1
  refine con_of (by decide) (catL rfl) (Nat.le_of_ble_eq_true rfl) ?_
  intro μ ω C hr
  have C : Cx μ ω "TowField$Tape" cX7_takeNumber 2 d := C
  have hr : (mH μ).sig.returnType = none := hr
  show G μ ω (RQ μ ω (pQ (TKn σ n q))) 0 [some (.ref 131), none] [] (mk σ) 0 0
  refine g_al0n (pc := 0) C dX7_takeNumber_0 ?_
  refine g_al0n (pc := 1) C dX7_takeNumber_1 ?_
  refine g_al0n (pc := 2) C dX7_takeNumber_2 ?_
  refine s_getIv (pc := 3) (v := nI ((stS (σ 132) n q))) C fX7_28 h131 rfl h5 dX7_takeNumber_3 ?_
  refine g_bipush (pc := 6) (v := 48) C dX7_takeNumber_6 (by decide) ?_
  refine g_bipush (pc := 8) (v := 57) C dX7_takeNumber_8 (by decide) ?_
  refine s_VI (pc := 10) (st := [(.ref 131)]) C h131 rfl (by have := c_behind (d := d - 1) (by omega) σ (n := n) hn hn1 48 57 (p := (stS (σ 132) n q)) (by omega); exact this) (by omega) lX7_71 dX7_takeNumber_10 rfl (Nat.le_of_ble_eq_true rfl) rfl ?_
  refine s_putI (pc := 13) C pX7_25 h131 rfl dX7_takeNumber_13 ?_
  refine g_al0n (pc := 16) C dX7_takeNumber_16 ?_
  refine g_al0n (pc := 17) C dX7_takeNumber_17 ?_
  refine s_getIv (pc := 18) (v := nI ((enS (σ 132) n q))) C fX7_25 h131 rfl (by rw [hen]; rfl) dX7_takeNumber_18 ?_
  refine g_al0n (pc := 21) C dX7_takeNumber_21 ?_
  refine s_getIv (pc := 22) (v := nI ((stS (σ 132) n q))) C fX7_28 h131 rfl h5 dX7_takeNumber_22 ?_
  refine g_isub (pc := 25) C dX7_takeNumber_25 ?_
  refine g_iconst (pc := 26) (v := 4) C dX7_takeNumber_26 (by decide) ?_
  refine g_icmp_leL (pc := 27) (tgt := 36) C dX7_takeNumber_27 (by decide) (fun c_27 => ?_) (fun c_27 => ?_)
  · refine g_sipush (pc := 36) (v := 256) C dX7_takeNumber_36 (by decide) ?_
    refine s_putI (pc := 39) C pX7_31 h131 rfl dX7_takeNumber_39 ?_
    refine g_al0n (pc := 42) C dX7_takeNumber_42 ?_
    refine g_iconst (pc := 43) (v := 0) C dX7_takeNumber_43 (by decide) ?_
    refine s_putI (pc := 44) C pX7_34 h131 rfl dX7_takeNumber_44 ?_
    refine g_al0n (pc := 47) C dX7_takeNumber_47 ?_
    refine s_getIv (pc := 48) (v := nI ((stS (σ 132) n q))) C fX7_28 h131 rfl h5 dX7_takeNumber_48 ?_
    refine g_is1n (pc := 51) C dX7_takeNumber_51 ?_
    have hnum : isNum (σ 132) n q = true := isNum_i.mpr ⟨hs, by rw [hl] at c_27; exact (nI_leI (by omega) (by decide)).mp (Int32.not_lt.mp c_27)⟩
    exact lp_tnum (by omega) C hr σ ((up (up (up σ 131 4 (nI ((bhA (σ 132) n 48 57 ((stS (σ 132) n q)))))) 131 6 256) 131 7 0)) hn1 hq (by rw [hen]; rfl) rfl (fun τ h1 h2 h3 => ⟨by rw [h2 4 (by decide), hen]; rfl, by rw [h2 6 (by decide), tok2 hs, if_pos hnum]; rfl, fun _ => h1, fun i hi => absurd (name_sort hi).1 (by rw [hs]; decide), fun j a b c => by rw [h2 j c]; simp only [up_at, upd_apply, a, b, c, if_false], fun k hk => by rw [h3 k hk]; simp only [up_ne _ _ _ (show k ≠ 131 by simpa using hk)]⟩) (enS (σ 132) n q - stS (σ 132) n q) (stS (σ 132) n q) _ (by omega) (by rw [Nat.sub_self]; rfl) (fun _ _ => rfl) Eqx.rf (Nat.le_refl _)
  · refine g_sipush (pc := 30) (v := 259) C dX7_takeNumber_30 (by decide) ?_
    refine g_goto (pc := 33) (tgt := 39) C dX7_takeNumber_33 (by decide) ?_
    refine s_putI (pc := 39) C pX7_31 h131 rfl dX7_takeNumber_39 ?_
    refine g_al0n (pc := 42) C dX7_takeNumber_42 ?_
    refine g_iconst (pc := 43) (v := 0) C dX7_takeNumber_43 (by decide) ?_
    refine s_putI (pc := 44) C pX7_34 h131 rfl dX7_takeNumber_44 ?_
    refine g_al0n (pc := 47) C dX7_takeNumber_47 ?_
    refine s_getIv (pc := 48) (v := nI ((stS (σ 132) n q))) C fX7_28 h131 rfl h5 dX7_takeNumber_48 ?_
    refine g_is1n (pc := 51) C dX7_takeNumber_51 ?_
    have hnum : ¬ isNum (σ 132) n q = true := fun z => by rw [hl] at c_27; have := (nI_ltI (a := 4) (by decide) (by omega)).mp c_27; have := (isNum_i.mp z).2; omega
    exact lp_tnum (by omega) C hr σ ((up (up (up σ 131 4 (nI ((bhA (σ 132) n 48 57 ((stS (σ 132) n q)))))) 131 6 259) 131 7 0)) hn1 hq (by rw [hen]; rfl) rfl (fun τ h1 h2 h3 => ⟨by rw [h2 4 (by decide), hen]; rfl, by rw [h2 6 (by decide), tok2 hs, if_neg hnum]; rfl, fun _ => h1, fun i hi => absurd (name_sort hi).1 (by rw [hs]; decide), fun j a b c => by rw [h2 j c]; simp only [up_at, upd_apply, a, b, c, if_false], fun k hk => by rw [h3 k hk]; simp only [up_ne _ _ _ (show k ≠ 131 by simpa using hk)]⟩) (enS (σ 132) n q - stS (σ 132) n q) (stS (σ 132) n q) _ (by omega) (by rw [Nat.sub_self]; rfl) (fun _ _ => rfl) Eqx.rf (Nat.le_refl _)

def TK (σ : Sg) (n q : Nat) (τ : Sg) : Prop := TKn σ n q τ ∧ τ 131 5 = nI (stS (σ 132) n q)
def TKa (σ : Sg) (n q : Nat) (τ : Sg) : Prop := τ 131 4 = nI (enS (σ 132) n q) ∧ τ 131 5 = nI (stS (σ 132) n q) ∧ τ 131 6 = tokS (σ 132) n q ∧ (isNum (σ 132) n q = true → τ 131 7 = numS (σ 132) n q) ∧ (∀ i, nameS (σ 132) n q = some i → τ 131 7 = nI i) ∧ (∀ j, j ≠ 4 → j ≠ 5 → j ≠ 6 → j ≠ 7 → τ 131 j = σ 131 j) ∧ Eqx [131] σ τ
theorem TKa_of {σ s1 τ : Sg} {n q : Nat} (h : TKn s1 n q τ) (h132 : s1 132 = σ 132) (h5 : s1 131 5 = nI (stS (σ 132) n q)) (ho : ∀ j, j ≠ 4 → j ≠ 5 → s1 131 j = σ 131 j) (hE : Eqx [131] σ s1) : TKa σ n q τ := by
  obtain ⟨a, b, c, d, e, f⟩ := h
  rw [h132] at a b c d
  exact ⟨a, (e 5 (by decide) (by decide) (by decide)).trans h5, b, c, d, fun j h1 h2 h3 h4 => (e j h1 h3 h4).trans (ho j h1 h2), hE.tr f⟩
theorem c_adv {d : Nat} (hd : 7 ≤ d) (σ : Sg) {n q : Nat} (hn : σ 131 2 = nI n) (hn1 : n ≤ 100) (h4 : σ 131 4 = nI q) (hq : q ≤ n) (hb : BY (σ 132) n) : CQ d mX7_advance [.ref 131] σ (TKa σ n q) := by
  have hs1 := stS_le (t := σ 132) hq
  refine con_of (by decide) (catL rfl) (Nat.le_of_ble_eq_true rfl) ?_
  intro μ ω C hr
  have C : Cx μ ω "TowField$Tape" cX7_advance 2 d := C
  have hr : (mH μ).sig.returnType = none := hr
  show G μ ω (RQ μ ω (pQ (TKa σ n q))) 0 [some (.ref 131), none] [] (mk σ) 0 0
  refine g_al0n (pc := 0) C dX7_advance_0 ?_
  refine g_al0n (pc := 1) C dX7_advance_1 ?_
  refine g_al0n (pc := 2) C dX7_advance_2 ?_
  refine s_getIv (pc := 3) (v := nI q) C fX7_25 h131 rfl h4 dX7_advance_3 ?_
  refine g_bipush (pc := 6) (v := 32) C dX7_advance_6 (by decide) ?_
  refine g_bipush (pc := 8) (v := 32) C dX7_advance_8 (by decide) ?_
  refine s_VI (pc := 10) (st := [(.ref 131)]) C h131 rfl (c_behind (d := d - 1) (by omega) σ (n := n) hn hn1 32 32 (p := q) hq) (by omega) lX7_71 dX7_advance_10 rfl (Nat.le_of_ble_eq_true rfl) rfl ?_
  refine s_putI (pc := 13) C pX7_25 h131 rfl dX7_advance_13 ?_
  refine g_al0n (pc := 16) C dX7_advance_16 ?_
  refine g_al0n (pc := 17) C dX7_advance_17 ?_
  refine s_getIv (pc := 18) (v := nI ((stS (σ 132) n q))) C fX7_25 h131 rfl rfl dX7_advance_18 ?_
  refine s_putI (pc := 21) C pX7_28 h131 rfl dX7_advance_21 ?_
  refine g_al0n (pc := 24) C dX7_advance_24 ?_
  refine s_getIv (pc := 25) (v := nI ((stS (σ 132) n q))) C fX7_25 h131 rfl rfl dX7_advance_25 ?_
  refine g_al0n (pc := 28) C dX7_advance_28 ?_
  refine s_getIv (pc := 29) (v := nI n) C fX7_18 h131 rfl hn dX7_advance_29 ?_
  refine g_icmp_lt (pc := 32) (tgt := 43) C dX7_advance_32 (by decide) (fun c_32 => ?_) (fun c_32 => ?_)
  · have hlt : stS (σ 132) n q < n := (nI_ltI (by omega) (by omega)).mp c_32
    have hst : ¬ stS (σ 132) n q = n := by omega
    refine g_al0n (pc := 43) C dX7_advance_43 ?_
    refine s_getR (pc := 44) C fX7_9 h131 rfl dX7_advance_44 ?_
    refine g_al0n (pc := 47) C dX7_advance_47 ?_
    refine s_getIv (pc := 48) (v := nI ((stS (σ 132) n q))) C fX7_25 h131 rfl rfl dX7_advance_48 ?_
    refine s_iald (pc := 51) (q := stS (σ 132) n q) C h132 rfl (by omega) (Nat.le_of_ble_eq_true rfl) dX7_advance_51 ?_
    refine g_is1n (pc := 52) C dX7_advance_52 ?_
    refine g_il1n (pc := 53) C dX7_advance_53 ?_
    refine g_bipush (pc := 54) (v := 97) C dX7_advance_54 (by decide) ?_
    refine g_bipush (pc := 56) (v := 122) C dX7_advance_56 (by decide) ?_
    refine s_NB (pc := 58) (st := []) C (c_X11_within (d := d - 1) (by omega) ((up (up σ 131 4 (nI ((stS (σ 132) n q)))) 131 5 (nI ((stS (σ 132) n q))))) ((up (up σ 131 4 (nI ((stS (σ 132) n q)))) 131 5 (nI ((stS (σ 132) n q)))) 132 (stS (σ 132) n q)) 97 122) (by omega) lX7_75 dX7_advance_58 rfl (Nat.le_of_ble_eq_true rfl) rfl (fun b_58 => ?_) (fun b_58 => ?_)
    · refine g_if_eq (pc := 61) (tgt := 71) C dX7_advance_61 (by decide) (fun c => absurd c (by decide)) (fun _ => ?_)
      have hs : sortS (σ 132) n q = 1 := by unfold sortS; rw [if_neg hst, if_pos (show 97 ≤ σ 132 (stS (σ 132) n q) ∧ σ 132 (stS (σ 132) n q) ≤ 122 from b_58)]
      refine g_al0n (pc := 64) C dX7_advance_64 ?_
      refine s_VQ (pc := 65) (st := []) C h131 rfl (c_takeWord (d := d - 1) (by omega) (up (up σ 131 4 (nI ((stS (σ 132) n q)))) 131 5 (nI ((stS (σ 132) n q)))) (n := n) (q := q) hn hn1 hq rfl hs) (by omega) lX7_79 dX7_advance_65 rfl (Nat.le_of_ble_eq_true rfl) rfl (fun τ hw => ?_)
      refine g_goto (pc := 68) (tgt := 120) C dX7_advance_68 (by decide) ?_
      exact r_Q C hr dX7_advance_120 (TKa_of hw rfl rfl (fun j h1 h2 => by simp only [up_at, upd_apply, h1, h2, if_false]) (fun k hk => by simp only [up_ne _ _ _ (show k ≠ 131 by simpa using hk)]))
    · refine g_if_eq (pc := 61) (tgt := 71) C dX7_advance_61 (by decide) (fun _ => ?_) (fun c => absurd c (by decide))
      refine g_il1n (pc := 71) C dX7_advance_71 ?_
      refine g_bipush (pc := 72) (v := 48) C dX7_advance_72 (by decide) ?_
      refine g_bipush (pc := 74) (v := 57) C dX7_advance_74 (by decide) ?_
      refine s_NB (pc := 76) (st := []) C (c_X11_within (d := d - 1) (by omega) ((up (up σ 131 4 (nI ((stS (σ 132) n q)))) 131 5 (nI ((stS (σ 132) n q))))) ((up (up σ 131 4 (nI ((stS (σ 132) n q)))) 131 5 (nI ((stS (σ 132) n q)))) 132 (stS (σ 132) n q)) 48 57) (by omega) lX7_75 dX7_advance_76 rfl (Nat.le_of_ble_eq_true rfl) rfl (fun b_76 => ?_) (fun b_76 => ?_)
      · refine g_if_eq (pc := 79) (tgt := 89) C dX7_advance_79 (by decide) (fun c => absurd c (by decide)) (fun _ => ?_)
        have hs : sortS (σ 132) n q = 2 := by unfold sortS; rw [if_neg hst, if_neg (show ¬ (97 ≤ σ 132 (stS (σ 132) n q) ∧ σ 132 (stS (σ 132) n q) ≤ 122) from b_58), if_pos (show 48 ≤ σ 132 (stS (σ 132) n q) ∧ σ 132 (stS (σ 132) n q) ≤ 57 from b_76)]
        refine g_al0n (pc := 82) C dX7_advance_82 ?_
        refine s_VQ (pc := 83) (st := []) C h131 rfl (c_takeNumber (d := d - 1) (by omega) (up (up σ 131 4 (nI ((stS (σ 132) n q)))) 131 5 (nI ((stS (σ 132) n q)))) (n := n) (q := q) hn hn1 hq rfl hs) (by omega) lX7_82 dX7_advance_83 rfl (Nat.le_of_ble_eq_true rfl) rfl (fun τ hw => ?_)
        refine g_goto (pc := 86) (tgt := 120) C dX7_advance_86 (by decide) ?_
        exact r_Q C hr dX7_advance_120 (TKa_of hw rfl rfl (fun j h1 h2 => by simp only [up_at, upd_apply, h1, h2, if_false]) (fun k hk => by simp only [up_ne _ _ _ (show k ≠ 131 by simpa using hk)]))
      · refine g_if_eq (pc := 79) (tgt := 89) C dX7_advance_79 (by decide) (fun _ => ?_) (fun c => absurd c (by decide))
        have b1 : ¬ (97 ≤ σ 132 (stS (σ 132) n q) ∧ σ 132 (stS (σ 132) n q) ≤ 122) := b_58
        have b2 : ¬ (48 ≤ σ 132 (stS (σ 132) n q) ∧ σ 132 (stS (σ 132) n q) ≤ 57) := b_76
        have hs : sortS (σ 132) n q = 3 := by unfold sortS; rw [if_neg hst, if_neg b1, if_neg b2]
        have hen : enS (σ 132) n q = stS (σ 132) n q + 1 := by unfold enS; rw [if_neg hst, if_neg b1, if_neg b2]
        obtain ⟨b, hb1, hb2⟩ := hb (stS (σ 132) n q) (by omega)
        have hch : ((σ 132 (stS (σ 132) n q)).toUInt32 % 65536).toInt32 = nI b := by rw [hb2, pk_char, pk_tn (by omega), Nat.mod_eq_of_lt (by omega)]
        refine g_al0n (pc := 89) C dX7_advance_89 ?_
        refine g_ldcS (pc := 90) (j := 4) C dX7_advance_90 rfl rfl rfl ?_
        refine g_il1n (pc := 92) C dX7_advance_92 ?_
        refine g_i2c (pc := 93) C dX7_advance_93 ?_
        refine s_XP (pc := 94) (st := [(.ref 131)]) C rfl rfl (by have := c_indexOf (d := d - 1) (by omega) (up (up σ 131 4 (nI ((stS (σ 132) n q)))) 131 5 (nI ((stS (σ 132) n q)))) (k := b) hb1; rw [← hch] at this; exact this) (by omega) lX7_87 dX7_advance_94 rfl (Nat.le_of_ble_eq_true rfl) rfl (fun v τ hw => ?_)
        obtain ⟨ht, hvi⟩ := hw
        rw [hch] at hvi
        rw [ht]
        refine g_if_lt (pc := 97) (tgt := 104) C dX7_advance_97 (by decide) (fun c_97 => ?_) (fun c_97 => ?_)
        · refine g_sipush (pc := 104) (v := 259) C dX7_advance_104 (by decide) ?_
          refine s_putI (pc := 107) C pX7_31 h131 rfl dX7_advance_107 ?_
          refine g_al0n (pc := 110) C dX7_advance_110 ?_
          refine g_dup (pc := 111) C dX7_advance_111 rfl ?_
          refine s_getIv (pc := 112) (v := nI ((stS (σ 132) n q))) C fX7_25 h131 rfl rfl dX7_advance_112 ?_
          refine g_iconst (pc := 115) (v := 1) C dX7_advance_115 (by decide) ?_
          refine g_iadd (pc := 116) C dX7_advance_116 ?_
          refine s_putI (pc := 117) C pX7_25 h131 rfl dX7_advance_117 ?_
          exact r_Q C hr dX7_advance_120 ⟨by rw [hen]; exact nI_1 _, rfl, by rw [tok3 hs, if_neg (show ¬ sgB (σ 132 (stS (σ 132) n q)) = true from fun z => absurd c_97 (Int32.not_lt.mpr (hvi.mpr (by rw [← hb2]; exact sgB_iff.mpr z))))]; rfl, fun z => absurd z (num_no (by rw [hs]; decide)), fun i hi => absurd (name_sort hi).1 (by rw [hs]; decide), fun j h1 h2 h3 h4 => by simp only [up_at, upd_apply, h1, h2, h3, if_false], fun k hk => by simp only [up_ne _ _ _ (show k ≠ 131 by simpa using hk)]⟩
        · refine g_il1n (pc := 100) C dX7_advance_100 ?_
          refine g_goto (pc := 101) (tgt := 107) C dX7_advance_101 (by decide) ?_
          refine s_putI (pc := 107) C pX7_31 h131 rfl dX7_advance_107 ?_
          refine g_al0n (pc := 110) C dX7_advance_110 ?_
          refine g_dup (pc := 111) C dX7_advance_111 rfl ?_
          refine s_getIv (pc := 112) (v := nI ((stS (σ 132) n q))) C fX7_25 h131 rfl rfl dX7_advance_112 ?_
          refine g_iconst (pc := 115) (v := 1) C dX7_advance_115 (by decide) ?_
          refine g_iadd (pc := 116) C dX7_advance_116 ?_
          refine s_putI (pc := 117) C pX7_25 h131 rfl dX7_advance_117 ?_
          exact r_Q C hr dX7_advance_120 ⟨by rw [hen]; exact nI_1 _, rfl, by rw [tok3 hs, if_pos (show sgB (σ 132 (stS (σ 132) n q)) = true from sgB_iff.mp (by rw [hb2]; exact hvi.mp (Int32.not_lt.mp c_97)))]; rfl, fun z => absurd z (num_no (by rw [hs]; decide)), fun i hi => absurd (name_sort hi).1 (by rw [hs]; decide), fun j h1 h2 h3 h4 => by simp only [up_at, upd_apply, h1, h2, h3, if_false], fun k hk => by simp only [up_ne _ _ _ (show k ≠ 131 by simpa using hk)]⟩
  · refine g_al0n (pc := 35) C dX7_advance_35 ?_
    refine g_sipush (pc := 36) (v := 258) C dX7_advance_36 (by decide) ?_
    refine s_putI (pc := 39) C pX7_31 h131 rfl dX7_advance_39 ?_
    have hst : stS (σ 132) n q = n := by
      rcases Nat.lt_or_ge (stS (σ 132) n q) n with h | h
      · exact absurd (nI_lt h (by omega)) c_32
      · omega
    have hs : sortS (σ 132) n q = 0 := by unfold sortS; rw [if_pos hst]
    have hen : enS (σ 132) n q = n := by unfold enS; rw [if_pos hst]
    exact r_Q C hr dX7_advance_42 ⟨by rw [hen]; exact congrArg nI hst, rfl, by rw [tok0 hs]; rfl, fun z => absurd z (num_no (by rw [hs]; decide)), fun i hi => absurd (name_sort hi).1 (by rw [hs]; decide), fun j h1 h2 h3 h4 => by simp only [up_at, upd_apply, h1, h2, h3, if_false], fun k hk => by simp only [up_ne _ _ _ (show k ≠ 131 by simpa using hk)]⟩

