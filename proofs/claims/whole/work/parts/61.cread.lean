/-! ===== the class reads a text ===== -/
/-- the class as it reads: at the token from q on, with these steps -/
def CS (σ : Sg) (n q : Nat) (s : List Int32) (τ : Sg) : Prop := τ 131 2 = nI n ∧ τ 131 3 = nI s.length ∧ τ 131 4 = nI (enS (σ 132) n q) ∧ τ 131 5 = nI (stS (σ 132) n q) ∧ τ 131 6 = tokS (σ 132) n q ∧ (isNum (σ 132) n q = true → τ 131 7 = numS (σ 132) n q) ∧ (∀ i, nameS (σ 132) n q = some i → τ 131 7 = nI i) ∧ (∀ k, k < s.length → τ 133 k = clC (s.getD k 0)) ∧ Eqx [131, 133] σ τ
/-- the class at a fault -/
def CF (σ : Sg) (n q : Nat) (τ : Sg) : Prop := τ 131 2 = nI n ∧ τ 131 5 = nI (stS (σ 132) n q) ∧ Eqx [131, 133] σ τ
section CSP
variable {σ : Sg} {n q : Nat} {s : List Int32} {τ : Sg}
theorem CS.sz (h : CS σ n q s τ) : τ 131 2 = nI n := h.1
theorem CS.ln (h : CS σ n q s τ) : τ 131 3 = nI s.length := h.2.1
theorem CS.pa (h : CS σ n q s τ) : τ 131 4 = nI (enS (σ 132) n q) := h.2.2.1
theorem CS.st (h : CS σ n q s τ) : τ 131 5 = nI (stS (σ 132) n q) := h.2.2.2.1
theorem CS.tk (h : CS σ n q s τ) : τ 131 6 = tokS (σ 132) n q := h.2.2.2.2.1
theorem CS.nu (h : CS σ n q s τ) : isNum (σ 132) n q = true → τ 131 7 = numS (σ 132) n q := h.2.2.2.2.2.1
theorem CS.nm (h : CS σ n q s τ) : ∀ i, nameS (σ 132) n q = some i → τ 131 7 = nI i := h.2.2.2.2.2.2.1
theorem CS.sp (h : CS σ n q s τ) : ∀ k, k < s.length → τ 133 k = clC (s.getD k 0) := h.2.2.2.2.2.2.2.1
theorem CS.fr (h : CS σ n q s τ) : Eqx [131, 133] σ τ := h.2.2.2.2.2.2.2.2
theorem CF.sz (h : CF σ n q τ) : τ 131 2 = nI n := h.1
theorem CF.st (h : CF σ n q τ) : τ 131 5 = nI (stS (σ 132) n q) := h.2.1
theorem CF.fr (h : CF σ n q τ) : Eqx [131, 133] σ τ := h.2.2
end CSP
theorem CS.cf {σ : Sg} {n q : Nat} {s : List Int32} {τ : Sg} (h : CS σ n q s τ) : CF σ n q τ := ⟨h.sz, h.st, h.fr⟩
def RSx (σ : Sg) (n : Nat) (s : List Int32) (r : PR) (v : Int32) (τ : Sg) : Prop := match r with
  | .inl (q', s') => v = 1 ∧ CS σ n q' (s ++ s') τ
  | .inr q' => v = 0 ∧ CF σ n q' τ
theorem RSx.b {σ : Sg} {n : Nat} {s : List Int32} {r : PR} {v : Int32} {τ : Sg} (h : RSx σ n s r v τ) : v = 0 ∨ v = 1 := by
  match r, h with
  | .inl _, h => exact Or.inr h.1
  | .inr _, h => exact Or.inl h.1
theorem CS.adv {σ : Sg} {n q : Nat} {s : List Int32} {τ υ : Sg} (h : CS σ n q s τ) (h2 : TKa τ n (enS (σ 132) n q) υ) : CS σ n (enS (σ 132) n q) s υ := by
  obtain ⟨a, b, c, d, e, f, g⟩ := h2
  have ht : τ 132 = σ 132 := h.fr 132 (by decide)
  rw [ht] at a b c d e
  exact ⟨(f 2 (by decide) (by decide) (by decide) (by decide)).trans h.sz, (f 3 (by decide) (by decide) (by decide) (by decide)).trans h.ln, a, b, c, d, e, fun k hk => by rw [g 133 (by decide)]; exact h.sp k hk, fun k hk => (g k (fun z => hk (by simp at z; simp [z]))).trans (h.fr k hk)⟩
theorem CS.put {σ : Sg} {n q : Nat} {s : List Int32} {τ : Sg} (h : CS σ n q s τ) {c x : Int32} (hx : x = clC c) : CS σ n q (s ++ [c]) (up (up τ 133 s.length x) 131 3 (nI (s.length + 1))) := by
  refine ⟨?_, ?_, ?_, ?_, ?_, ?_, ?_, ?_, ?_⟩
  · simp only [up_at, upd_ne _ _ (show (2 : Nat) ≠ 3 by decide), up_ne _ _ _ (show (131 : Nat) ≠ 133 by decide)]; exact h.sz
  · simp only [up_at, upd_at, List.length_append, List.length_singleton]
  · simp only [up_at, upd_ne _ _ (show (4 : Nat) ≠ 3 by decide), up_ne _ _ _ (show (131 : Nat) ≠ 133 by decide)]; exact h.pa
  · simp only [up_at, upd_ne _ _ (show (5 : Nat) ≠ 3 by decide), up_ne _ _ _ (show (131 : Nat) ≠ 133 by decide)]; exact h.st
  · simp only [up_at, upd_ne _ _ (show (6 : Nat) ≠ 3 by decide), up_ne _ _ _ (show (131 : Nat) ≠ 133 by decide)]; exact h.tk
  · simp only [up_at, upd_ne _ _ (show (7 : Nat) ≠ 3 by decide), up_ne _ _ _ (show (131 : Nat) ≠ 133 by decide)]; exact h.nu
  · simp only [up_at, upd_ne _ _ (show (7 : Nat) ≠ 3 by decide), up_ne _ _ _ (show (131 : Nat) ≠ 133 by decide)]; exact h.nm
  · intro k hk
    rw [List.length_append, List.length_singleton] at hk
    rw [up_ne _ _ _ (show (133 : Nat) ≠ 131 by decide), up_at, upd_apply]
    by_cases e : k = s.length
    · rw [if_pos e, e, hx]; simp [List.getD]
    · rw [if_neg e, h.sp k (by omega)]; simp only [List.getD, List.getElem?_append_left (show k < s.length by omega)]
  · intro k hk
    have h1 : k ≠ 131 := fun z => hk (by simp [z])
    have h2 : k ≠ 133 := fun z => hk (by simp [z])
    rw [up_ne _ _ _ h1, up_ne _ _ _ h2]; exact h.fr k hk
theorem clC_nm {i : Nat} (h : i < 4) : (-1 : Int32) - nI i = clC (10000 + nI i) := by
  rcases (show i = 0 ∨ i = 1 ∨ i = 2 ∨ i = 3 by omega) with rfl | rfl | rfl | rfl <;> decide
theorem c_advS {d : Nat} (hd : 7 ≤ d) {σ τ : Sg} {n q : Nat} {s : List Int32} (hn1 : n ≤ 100) (hb : BY (σ 132) n) (hq : q ≤ n) (h : CS σ n q s τ) : CQ d mX7_advance [.ref 131] τ (CS σ n (enS (σ 132) n q) s) :=
  (c_adv hd τ (n := n) (q := enS (σ 132) n q) h.sz hn1 h.pa (enS_le (t := σ 132) hq).2.1 (by rw [h.fr 132 (by decide)]; exact hb)).imp (fun _ _ ⟨σ', e1, e2, e3⟩ => ⟨σ', e1, e2, h.adv e3⟩)
theorem c_putS {d : Nat} (hd : 1 ≤ d) {σ τ : Sg} {n q : Nat} {s : List Int32} {c x : Int32} (hx : x = clC c) (hl : s.length < 100) (hS : CS σ n q s τ) : CQ d mX7_put [.ref 131, .int x] τ (CS σ n q (s ++ [c])) := by
  refine con_of (by decide) (catL rfl) (Nat.le_of_ble_eq_true rfl) ?_
  intro μ ω C hr
  have C : Cx μ ω "TowField$Tape" cX7_put 2 d := C
  have hr : (mH μ).sig.returnType = none := hr
  show G μ ω (RQ μ ω (pQ (CS σ n q (s ++ [c])))) 0 [some (.ref 131), some (.int x)] [] (mk τ) 0 0
  refine g_al0n (pc := 0) C dX7_put_0 ?_
  refine s_getIv (pc := 1) (v := nI s.length) C fX7_22 h131 rfl hS.ln dX7_put_1 ?_
  refine g_bipush (pc := 4) (v := 100) C dX7_put_4 (by decide) ?_
  refine g_icmp_geL (pc := 6) (tgt := 29) C dX7_put_6 (by decide) (fun c_6 => absurd (nI_lt (b := 100) hl (by decide)) c_6) (fun c_6 => ?_)
  refine g_al0n (pc := 9) C dX7_put_9 ?_
  refine s_getR (pc := 10) C fX7_15 h131 rfl dX7_put_10 ?_
  refine g_al0n (pc := 13) C dX7_put_13 ?_
  refine s_getIv (pc := 14) (v := nI s.length) C fX7_22 h131 rfl hS.ln dX7_put_14 ?_
  refine g_il1n (pc := 17) C dX7_put_17 ?_
  refine s_iast (pc := 18) (q := s.length) C h133 rfl (by omega) (Nat.le_of_ble_eq_true rfl) dX7_put_18 ?_
  refine g_al0n (pc := 19) C dX7_put_19 ?_
  refine g_dup (pc := 20) C dX7_put_20 rfl ?_
  refine s_getIv (pc := 21) (v := nI s.length) C fX7_22 h131 rfl hS.ln dX7_put_21 ?_
  refine g_iconst (pc := 24) (v := 1) C dX7_put_24 (by decide) ?_
  refine g_iadd (pc := 25) C dX7_put_25 ?_
  refine s_putI (pc := 26) C pX7_22 h131 rfl dX7_put_26 ?_
  have z := hS.put hx
  rw [← nI_1] at z
  exact r_Q C hr dX7_put_29 z

theorem c_putSign {d : Nat} (hd : 2 ≤ d) {σ τ : Sg} {n q : Nat} {s : List Int32} {c x : Int32} (hx : -100 - x = clC c) (hl : s.length < 100) (hS : CS σ n q s τ) : CP d mX7_putSign [.ref 131, .int x] τ (fun v τ' => v = 1 ∧ CS σ n q (s ++ [c]) τ') := by
  refine con_of (by decide) (catL rfl) (Nat.le_of_ble_eq_true rfl) ?_
  intro μ ω C hr
  have C : Cx μ ω "TowField$Tape" cX7_putSign 2 d := C
  have hr : (mH μ).sig.returnType = some .boolean := hr
  show G μ ω (RQ μ ω (pP (fun v τ' => v = 1 ∧ CS σ n q (s ++ [c]) τ'))) 0 [some (.ref 131), some (.int x)] [] (mk τ) 0 0
  refine g_al0n (pc := 0) C dX7_putSign_0 ?_
  refine g_bipush (pc := 1) (v := (-100)) C dX7_putSign_1 (by decide) ?_
  refine g_il1n (pc := 3) C dX7_putSign_3 ?_
  refine g_isub (pc := 4) C dX7_putSign_4 ?_
  refine s_VQ (pc := 5) (st := []) C h131 rfl (c_putS (d := d - 1) (by omega) (c := c) (x := (((-100)) - x)) hx hl hS) (by omega) lX7_67 dX7_putSign_5 rfl (Nat.le_of_ble_eq_true rfl) rfl (fun t_5 H_5 => ?_)
  refine g_iconst (pc := 8) (v := 1) C dX7_putSign_8 (by decide) ?_
  exact r_Pz C hr (Or.inr rfl) dX7_putSign_9 ⟨rfl, H_5⟩

theorem lp_readEither {μ : Mx} {ω : Om} {d : Nat} (C : Cx μ ω "TowField$Tape" cX7_readEither 4 d) (hr : (mH μ).sig.returnType = some .boolean) (σ : Sg) {n : Nat} (hn1 : n ≤ 100) (hb : BY (σ 132) n) (o : Nat) {P : Nat → PR} (hG : GoodP n P) {D : Nat} (hP : ∀ d' q s τ, D ≤ d' → q ≤ n → s.length ≤ q → CS σ n q s τ → CP d' mX7_readBoth [.ref 131, .int (nI o)] τ (RSx σ n s (P q))) (hd : D + 12 ≤ d) (s0 : List Int32) : ∀ (f i q : Nat) (s : List Int32) (τ : Sg), i + f = 100 → q ≤ n → (s0 ++ s).length ≤ q → CS σ n q (s0 ++ s) τ → G μ ω (RQ μ ω (pP (RSx σ n s0 (lpP (σ 132) n P opE f q s)))) 8 [some (.ref 131), some (.int (nI o)), some (.int 1), some (.int (nI i))] [] (mk τ) 0 0 := by
  intro f
  induction f with
  | zero =>
    intro i q s τ hif hq hs hS
    refine g_il3n (pc := 8) C dX7_readEither_8 ?_
    refine g_bipush (pc := 9) (v := 100) C dX7_readEither_9 (by decide) ?_
    refine g_icmp_geL (pc := 11) (tgt := 60) C dX7_readEither_11 (by decide) (fun c_11 => ?_) (fun c_11 => absurd c_11 (nI_nlt (b := 100) (by omega) (by omega)))
    refine g_il2n (pc := 60) C dX7_readEither_60 ?_
    exact r_Pz C hr (Or.inr rfl) dX7_readEither_61 ⟨rfl, hS⟩
  | succ f ih =>
    intro i q s τ hif hq hs hS
    refine g_il3n (pc := 8) C dX7_readEither_8 ?_
    refine g_bipush (pc := 9) (v := 100) C dX7_readEither_9 (by decide) ?_
    refine g_icmp_geL (pc := 11) (tgt := 60) C dX7_readEither_11 (by decide) (fun c_11 => absurd (nI_lt (b := 100) (by omega) (by decide)) c_11) (fun c_11 => ?_)
    refine g_il2n (pc := 14) C dX7_readEither_14 ?_
    refine g_if_eq (pc := 15) (tgt := 60) C dX7_readEither_15 (by decide) (fun c => absurd c (by decide)) (fun _ => ?_)
    refine g_al0n (pc := 18) C dX7_readEither_18 ?_
    refine s_getIv (pc := 19) (v := tokS (σ 132) n q) C fX7_31 h131 rfl hS.tk dX7_readEither_19 ?_
    refine g_bipush (pc := 22) (v := 124) C dX7_readEither_22 (by decide) ?_
    refine g_icmp_ne (pc := 24) (tgt := 60) C dX7_readEither_24 (by decide) (fun c_24 => ?_) (fun c_24 => ?_)
    · refine g_il2n (pc := 60) C dX7_readEither_60 ?_
      rw [lp_stop (by unfold opE; rw [if_neg (fun z => c_24 ((tok_sign (by decide)).mpr z))])]
      exact r_Pz C hr (Or.inr rfl) dX7_readEither_61 ⟨rfl, hS⟩
    · refine g_al0n (pc := 27) C dX7_readEither_27 ?_
      refine s_VQ (pc := 28) (st := []) C h131 rfl (c_advS (d := d - 1) (by omega) hn1 hb hq hS) (by omega) lX7_37 dX7_readEither_28 rfl (Nat.le_of_ble_eq_true rfl) rfl (fun t_28 H_28 => ?_)
      refine g_al0n (pc := 31) C dX7_readEither_31 ?_
      refine g_il1n (pc := 32) C dX7_readEither_32 ?_
      refine s_VP (pc := 33) (st := []) C h131 rfl (hP (d - 1) (enS (σ 132) n q) (s0 ++ s) t_28 (by omega) (enS_le (t := σ 132) hq).2.1 (by have := (enS_le (t := σ 132) hq).1; have := (stS_le (t := σ 132) hq).1; omega) H_28) (by omega) lX7_44 dX7_readEither_33 rfl (Nat.le_of_ble_eq_true rfl) rfl (fun v u_33 hw_33 => ?_)
      rcases hr2 : P (enS (σ 132) n q) with ⟨q', s'⟩ | q'
      · have hz_33 : v = 1 ∧ CS σ n q' (s0 ++ s ++ s') u_33 := by have z := hw_33; rw [hr2] at z; exact z
        obtain ⟨rfl, H_33⟩ := hz_33
        have hg := hG (enS (σ 132) n q) (enS_le (t := σ 132) hq).2.1
        rw [hr2] at hg
        obtain ⟨g1, g2, g3⟩ := hg
        have g4 := g3.2.1
        refine g_if_eq (pc := 36) (tgt := 52) C dX7_readEither_36 (by decide) (fun c => absurd c (by decide)) (fun _ => ?_)
        refine g_al0n (pc := 39) C dX7_readEither_39 ?_
        refine g_bipush (pc := 40) (v := 124) C dX7_readEither_40 (by decide) ?_
        refine s_VP (pc := 42) (st := []) C h131 rfl (c_putSign (d := d - 1) (by omega) (c := 10106) (x := 124) (by decide) (by have hlt := (enS_lt (t := σ 132) hq (op_sort OpE (by rw [show opE (sg (σ 132) n q) = 10106 from (by unfold opE; rw [if_pos ((tok_sign (by decide)).mp c_24)])]; decide))); simp only [List.length_append] at *; omega) H_33) (by omega) lX7_47 dX7_readEither_42 rfl (Nat.le_of_ble_eq_true rfl) rfl (fun v_42 t_42 w_42 => ?_)
        obtain ⟨rfl, H_42⟩ := w_42
        refine g_if_eq (pc := 45) (tgt := 52) C dX7_readEither_45 (by decide) (fun c => absurd c (by decide)) (fun _ => ?_)
        refine g_iconst (pc := 48) (v := 1) C dX7_readEither_48 (by decide) ?_
        refine g_goto (pc := 49) (tgt := 53) C dX7_readEither_49 (by decide) ?_
        refine g_is2n (pc := 53) C dX7_readEither_53 ?_
        refine g_ii3 (pc := 54) (v := nI (i + 1)) C dX7_readEither_54 (nI_inc1 _) ?_
        refine g_goto (pc := 57) (tgt := 8) C dX7_readEither_57 (by decide) ?_
        rw [lp_go (c := 10106) (by unfold opE; rw [if_pos ((tok_sign (by decide)).mp c_24)]) (by decide) hr2]
        have hlt := (enS_lt (t := σ 132) hq (op_sort OpE (by rw [show opE (sg (σ 132) n q) = 10106 from (by unfold opE; rw [if_pos ((tok_sign (by decide)).mp c_24)])]; decide)))
        exact ih (i + 1) q' (s ++ s' ++ [10106]) _ (by omega) g2 (by simp only [List.length_append, List.length_cons, List.length_nil] at *; omega) (by simp only [← List.append_assoc]; exact H_42)
      · have hz_33 : v = 0 ∧ CF σ n q' u_33 := by have z := hw_33; rw [hr2] at z; exact z
        obtain ⟨rfl, F_33⟩ := hz_33
        refine g_if_eq (pc := 36) (tgt := 52) C dX7_readEither_36 (by decide) (fun _ => ?_) (fun c => absurd c (by decide))
        refine g_iconst (pc := 52) (v := 0) C dX7_readEither_52 (by decide) ?_
        refine g_is2n (pc := 53) C dX7_readEither_53 ?_
        refine g_ii3 (pc := 54) (v := nI (i + 1)) C dX7_readEither_54 (nI_inc1 _) ?_
        refine g_goto (pc := 57) (tgt := 8) C dX7_readEither_57 (by decide) ?_
        refine g_il3n (pc := 8) C dX7_readEither_8 ?_
        refine g_bipush (pc := 9) (v := 100) C dX7_readEither_9 (by decide) ?_
        refine g_icmp_geL (pc := 11) (tgt := 60) C dX7_readEither_11 (by decide) (fun c_11_2 => ?_) (fun c_11_2 => ?_)
        · refine g_il2n (pc := 60) C dX7_readEither_60 ?_
          rw [lp_no (c := 10106) (by unfold opE; rw [if_pos ((tok_sign (by decide)).mp c_24)]) (by decide) hr2]
          exact r_Pz C hr (Or.inl rfl) dX7_readEither_61 ⟨rfl, F_33⟩
        · refine g_il2n (pc := 14) C dX7_readEither_14 ?_
          refine g_if_eq (pc := 15) (tgt := 60) C dX7_readEither_15 (by decide) (fun _ => ?_) (fun c => absurd c (by decide))
          refine g_il2n (pc := 60) C dX7_readEither_60 ?_
          rw [lp_no (c := 10106) (by unfold opE; rw [if_pos ((tok_sign (by decide)).mp c_24)]) (by decide) hr2]
          exact r_Pz C hr (Or.inl rfl) dX7_readEither_61 ⟨rfl, F_33⟩
theorem c_readEither {d : Nat}  (σ : Sg) {n : Nat} (hn1 : n ≤ 100) (hb : BY (σ 132) n) (o : Nat) {P : Nat → PR} (hG : GoodP n P) {D : Nat} (hP : ∀ d' q s τ, D ≤ d' → q ≤ n → s.length ≤ q → CS σ n q s τ → CP d' mX7_readBoth [.ref 131, .int (nI o)] τ (RSx σ n s (P q))) {q : Nat} (hq : q ≤ n) {s : List Int32} (hs : s.length ≤ q) {τ : Sg} (hS : CS σ n q s τ) (hd : D + 12 ≤ d) : CP d mX7_readEither [.ref 131, .int (nI o)] τ (RSx σ n s (bnd (P q) (lpP (σ 132) n P opE 100))) := by
  refine con_of (by decide) (catL rfl) (Nat.le_of_ble_eq_true rfl) ?_
  intro μ ω C hr
  have C : Cx μ ω "TowField$Tape" cX7_readEither 4 d := C
  have hr : (mH μ).sig.returnType = some .boolean := hr
  show G μ ω (RQ μ ω (pP (RSx σ n s (bnd (P q) (lpP (σ 132) n P opE 100))))) 0 [some (.ref 131), some (.int (nI o)), none, none] [] (mk τ) 0 0
  refine g_al0n (pc := 0) C dX7_readEither_0 ?_
  refine g_il1n (pc := 1) C dX7_readEither_1 ?_
  refine s_VP (pc := 2) (st := []) C h131 rfl (hP (d - 1) q s τ (by omega) hq hs hS) (by omega) lX7_44 dX7_readEither_2 rfl (Nat.le_of_ble_eq_true rfl) rfl (fun v u_2 hw_2 => ?_)
  rcases hr2 : P q with ⟨q', s'⟩ | q'
  · have hz_2 : v = 1 ∧ CS σ n q' (s ++ s') u_2 := by have z := hw_2; rw [hr2] at z; exact z
    obtain ⟨rfl, H_2⟩ := hz_2
    have hg := hG q hq
    rw [hr2] at hg
    obtain ⟨g1, g2, g3⟩ := hg
    have g4 := g3.2.1
    refine g_is2n (pc := 5) C dX7_readEither_5 ?_
    refine g_iconst (pc := 6) (v := 0) C dX7_readEither_6 (by decide) ?_
    refine g_is3n (pc := 7) C dX7_readEither_7 ?_
    exact lp_readEither C hr σ hn1 hb o hG hP (by omega) s 100 0 q' s' _ (by omega) g2 (by simp only [List.length_append]; omega) H_2
  · have hz_2 : v = 0 ∧ CF σ n q' u_2 := by have z := hw_2; rw [hr2] at z; exact z
    obtain ⟨rfl, F_2⟩ := hz_2
    refine g_is2n (pc := 5) C dX7_readEither_5 ?_
    refine g_iconst (pc := 6) (v := 0) C dX7_readEither_6 (by decide) ?_
    refine g_is3n (pc := 7) C dX7_readEither_7 ?_
    refine g_il3n (pc := 8) C dX7_readEither_8 ?_
    refine g_bipush (pc := 9) (v := 100) C dX7_readEither_9 (by decide) ?_
    refine g_icmp_geL (pc := 11) (tgt := 60) C dX7_readEither_11 (by decide) (fun c => absurd c (by decide)) (fun _ => ?_)
    refine g_il2n (pc := 14) C dX7_readEither_14 ?_
    refine g_if_eq (pc := 15) (tgt := 60) C dX7_readEither_15 (by decide) (fun _ => ?_) (fun c => absurd c (by decide))
    refine g_il2n (pc := 60) C dX7_readEither_60 ?_
    exact r_Pz C hr (Or.inl rfl) dX7_readEither_61 ⟨rfl, F_2⟩

theorem lp_readBoth {μ : Mx} {ω : Om} {d : Nat} (C : Cx μ ω "TowField$Tape" cX7_readBoth 4 d) (hr : (mH μ).sig.returnType = some .boolean) (σ : Sg) {n : Nat} (hn1 : n ≤ 100) (hb : BY (σ 132) n) (o : Nat) {P : Nat → PR} (hG : GoodP n P) {D : Nat} (hP : ∀ d' q s τ, D ≤ d' → q ≤ n → s.length ≤ q → CS σ n q s τ → CP d' mX7_readNot [.ref 131, .int (nI o)] τ (RSx σ n s (P q))) (hd : D + 12 ≤ d) (s0 : List Int32) : ∀ (f i q : Nat) (s : List Int32) (τ : Sg), i + f = 100 → q ≤ n → (s0 ++ s).length ≤ q → CS σ n q (s0 ++ s) τ → G μ ω (RQ μ ω (pP (RSx σ n s0 (lpP (σ 132) n P opB f q s)))) 8 [some (.ref 131), some (.int (nI o)), some (.int 1), some (.int (nI i))] [] (mk τ) 0 0 := by
  intro f
  induction f with
  | zero =>
    intro i q s τ hif hq hs hS
    refine g_il3n (pc := 8) C dX7_readBoth_8 ?_
    refine g_bipush (pc := 9) (v := 100) C dX7_readBoth_9 (by decide) ?_
    refine g_icmp_geL (pc := 11) (tgt := 60) C dX7_readBoth_11 (by decide) (fun c_11 => ?_) (fun c_11 => absurd c_11 (nI_nlt (b := 100) (by omega) (by omega)))
    refine g_il2n (pc := 60) C dX7_readBoth_60 ?_
    exact r_Pz C hr (Or.inr rfl) dX7_readBoth_61 ⟨rfl, hS⟩
  | succ f ih =>
    intro i q s τ hif hq hs hS
    refine g_il3n (pc := 8) C dX7_readBoth_8 ?_
    refine g_bipush (pc := 9) (v := 100) C dX7_readBoth_9 (by decide) ?_
    refine g_icmp_geL (pc := 11) (tgt := 60) C dX7_readBoth_11 (by decide) (fun c_11 => absurd (nI_lt (b := 100) (by omega) (by decide)) c_11) (fun c_11 => ?_)
    refine g_il2n (pc := 14) C dX7_readBoth_14 ?_
    refine g_if_eq (pc := 15) (tgt := 60) C dX7_readBoth_15 (by decide) (fun c => absurd c (by decide)) (fun _ => ?_)
    refine g_al0n (pc := 18) C dX7_readBoth_18 ?_
    refine s_getIv (pc := 19) (v := tokS (σ 132) n q) C fX7_31 h131 rfl hS.tk dX7_readBoth_19 ?_
    refine g_bipush (pc := 22) (v := 38) C dX7_readBoth_22 (by decide) ?_
    refine g_icmp_ne (pc := 24) (tgt := 60) C dX7_readBoth_24 (by decide) (fun c_24 => ?_) (fun c_24 => ?_)
    · refine g_il2n (pc := 60) C dX7_readBoth_60 ?_
      rw [lp_stop (by unfold opB; rw [if_neg (fun z => c_24 ((tok_sign (by decide)).mpr z))])]
      exact r_Pz C hr (Or.inr rfl) dX7_readBoth_61 ⟨rfl, hS⟩
    · refine g_al0n (pc := 27) C dX7_readBoth_27 ?_
      refine s_VQ (pc := 28) (st := []) C h131 rfl (c_advS (d := d - 1) (by omega) hn1 hb hq hS) (by omega) lX7_37 dX7_readBoth_28 rfl (Nat.le_of_ble_eq_true rfl) rfl (fun t_28 H_28 => ?_)
      refine g_al0n (pc := 31) C dX7_readBoth_31 ?_
      refine g_il1n (pc := 32) C dX7_readBoth_32 ?_
      refine s_VP (pc := 33) (st := []) C h131 rfl (hP (d - 1) (enS (σ 132) n q) (s0 ++ s) t_28 (by omega) (enS_le (t := σ 132) hq).2.1 (by have := (enS_le (t := σ 132) hq).1; have := (stS_le (t := σ 132) hq).1; omega) H_28) (by omega) lX7_50 dX7_readBoth_33 rfl (Nat.le_of_ble_eq_true rfl) rfl (fun v u_33 hw_33 => ?_)
      rcases hr2 : P (enS (σ 132) n q) with ⟨q', s'⟩ | q'
      · have hz_33 : v = 1 ∧ CS σ n q' (s0 ++ s ++ s') u_33 := by have z := hw_33; rw [hr2] at z; exact z
        obtain ⟨rfl, H_33⟩ := hz_33
        have hg := hG (enS (σ 132) n q) (enS_le (t := σ 132) hq).2.1
        rw [hr2] at hg
        obtain ⟨g1, g2, g3⟩ := hg
        have g4 := g3.2.1
        refine g_if_eq (pc := 36) (tgt := 52) C dX7_readBoth_36 (by decide) (fun c => absurd c (by decide)) (fun _ => ?_)
        refine g_al0n (pc := 39) C dX7_readBoth_39 ?_
        refine g_bipush (pc := 40) (v := 38) C dX7_readBoth_40 (by decide) ?_
        refine s_VP (pc := 42) (st := []) C h131 rfl (c_putSign (d := d - 1) (by omega) (c := 10105) (x := 38) (by decide) (by have hlt := (enS_lt (t := σ 132) hq (op_sort OpB (by rw [show opB (sg (σ 132) n q) = 10105 from (by unfold opB; rw [if_pos ((tok_sign (by decide)).mp c_24)])]; decide))); simp only [List.length_append] at *; omega) H_33) (by omega) lX7_47 dX7_readBoth_42 rfl (Nat.le_of_ble_eq_true rfl) rfl (fun v_42 t_42 w_42 => ?_)
        obtain ⟨rfl, H_42⟩ := w_42
        refine g_if_eq (pc := 45) (tgt := 52) C dX7_readBoth_45 (by decide) (fun c => absurd c (by decide)) (fun _ => ?_)
        refine g_iconst (pc := 48) (v := 1) C dX7_readBoth_48 (by decide) ?_
        refine g_goto (pc := 49) (tgt := 53) C dX7_readBoth_49 (by decide) ?_
        refine g_is2n (pc := 53) C dX7_readBoth_53 ?_
        refine g_ii3 (pc := 54) (v := nI (i + 1)) C dX7_readBoth_54 (nI_inc1 _) ?_
        refine g_goto (pc := 57) (tgt := 8) C dX7_readBoth_57 (by decide) ?_
        rw [lp_go (c := 10105) (by unfold opB; rw [if_pos ((tok_sign (by decide)).mp c_24)]) (by decide) hr2]
        have hlt := (enS_lt (t := σ 132) hq (op_sort OpB (by rw [show opB (sg (σ 132) n q) = 10105 from (by unfold opB; rw [if_pos ((tok_sign (by decide)).mp c_24)])]; decide)))
        exact ih (i + 1) q' (s ++ s' ++ [10105]) _ (by omega) g2 (by simp only [List.length_append, List.length_cons, List.length_nil] at *; omega) (by simp only [← List.append_assoc]; exact H_42)
      · have hz_33 : v = 0 ∧ CF σ n q' u_33 := by have z := hw_33; rw [hr2] at z; exact z
        obtain ⟨rfl, F_33⟩ := hz_33
        refine g_if_eq (pc := 36) (tgt := 52) C dX7_readBoth_36 (by decide) (fun _ => ?_) (fun c => absurd c (by decide))
        refine g_iconst (pc := 52) (v := 0) C dX7_readBoth_52 (by decide) ?_
        refine g_is2n (pc := 53) C dX7_readBoth_53 ?_
        refine g_ii3 (pc := 54) (v := nI (i + 1)) C dX7_readBoth_54 (nI_inc1 _) ?_
        refine g_goto (pc := 57) (tgt := 8) C dX7_readBoth_57 (by decide) ?_
        refine g_il3n (pc := 8) C dX7_readBoth_8 ?_
        refine g_bipush (pc := 9) (v := 100) C dX7_readBoth_9 (by decide) ?_
        refine g_icmp_geL (pc := 11) (tgt := 60) C dX7_readBoth_11 (by decide) (fun c_11_2 => ?_) (fun c_11_2 => ?_)
        · refine g_il2n (pc := 60) C dX7_readBoth_60 ?_
          rw [lp_no (c := 10105) (by unfold opB; rw [if_pos ((tok_sign (by decide)).mp c_24)]) (by decide) hr2]
          exact r_Pz C hr (Or.inl rfl) dX7_readBoth_61 ⟨rfl, F_33⟩
        · refine g_il2n (pc := 14) C dX7_readBoth_14 ?_
          refine g_if_eq (pc := 15) (tgt := 60) C dX7_readBoth_15 (by decide) (fun _ => ?_) (fun c => absurd c (by decide))
          refine g_il2n (pc := 60) C dX7_readBoth_60 ?_
          rw [lp_no (c := 10105) (by unfold opB; rw [if_pos ((tok_sign (by decide)).mp c_24)]) (by decide) hr2]
          exact r_Pz C hr (Or.inl rfl) dX7_readBoth_61 ⟨rfl, F_33⟩
theorem c_readBoth {d : Nat}  (σ : Sg) {n : Nat} (hn1 : n ≤ 100) (hb : BY (σ 132) n) (o : Nat) {P : Nat → PR} (hG : GoodP n P) {D : Nat} (hP : ∀ d' q s τ, D ≤ d' → q ≤ n → s.length ≤ q → CS σ n q s τ → CP d' mX7_readNot [.ref 131, .int (nI o)] τ (RSx σ n s (P q))) {q : Nat} (hq : q ≤ n) {s : List Int32} (hs : s.length ≤ q) {τ : Sg} (hS : CS σ n q s τ) (hd : D + 12 ≤ d) : CP d mX7_readBoth [.ref 131, .int (nI o)] τ (RSx σ n s (bnd (P q) (lpP (σ 132) n P opB 100))) := by
  refine con_of (by decide) (catL rfl) (Nat.le_of_ble_eq_true rfl) ?_
  intro μ ω C hr
  have C : Cx μ ω "TowField$Tape" cX7_readBoth 4 d := C
  have hr : (mH μ).sig.returnType = some .boolean := hr
  show G μ ω (RQ μ ω (pP (RSx σ n s (bnd (P q) (lpP (σ 132) n P opB 100))))) 0 [some (.ref 131), some (.int (nI o)), none, none] [] (mk τ) 0 0
  refine g_al0n (pc := 0) C dX7_readBoth_0 ?_
  refine g_il1n (pc := 1) C dX7_readBoth_1 ?_
  refine s_VP (pc := 2) (st := []) C h131 rfl (hP (d - 1) q s τ (by omega) hq hs hS) (by omega) lX7_50 dX7_readBoth_2 rfl (Nat.le_of_ble_eq_true rfl) rfl (fun v u_2 hw_2 => ?_)
  rcases hr2 : P q with ⟨q', s'⟩ | q'
  · have hz_2 : v = 1 ∧ CS σ n q' (s ++ s') u_2 := by have z := hw_2; rw [hr2] at z; exact z
    obtain ⟨rfl, H_2⟩ := hz_2
    have hg := hG q hq
    rw [hr2] at hg
    obtain ⟨g1, g2, g3⟩ := hg
    have g4 := g3.2.1
    refine g_is2n (pc := 5) C dX7_readBoth_5 ?_
    refine g_iconst (pc := 6) (v := 0) C dX7_readBoth_6 (by decide) ?_
    refine g_is3n (pc := 7) C dX7_readBoth_7 ?_
    exact lp_readBoth C hr σ hn1 hb o hG hP (by omega) s 100 0 q' s' _ (by omega) g2 (by simp only [List.length_append]; omega) H_2
  · have hz_2 : v = 0 ∧ CF σ n q' u_2 := by have z := hw_2; rw [hr2] at z; exact z
    obtain ⟨rfl, F_2⟩ := hz_2
    refine g_is2n (pc := 5) C dX7_readBoth_5 ?_
    refine g_iconst (pc := 6) (v := 0) C dX7_readBoth_6 (by decide) ?_
    refine g_is3n (pc := 7) C dX7_readBoth_7 ?_
    refine g_il3n (pc := 8) C dX7_readBoth_8 ?_
    refine g_bipush (pc := 9) (v := 100) C dX7_readBoth_9 (by decide) ?_
    refine g_icmp_geL (pc := 11) (tgt := 60) C dX7_readBoth_11 (by decide) (fun c => absurd c (by decide)) (fun _ => ?_)
    refine g_il2n (pc := 14) C dX7_readBoth_14 ?_
    refine g_if_eq (pc := 15) (tgt := 60) C dX7_readBoth_15 (by decide) (fun _ => ?_) (fun c => absurd c (by decide))
    refine g_il2n (pc := 60) C dX7_readBoth_60 ?_
    exact r_Pz C hr (Or.inl rfl) dX7_readBoth_61 ⟨rfl, F_2⟩

theorem lp_readSum {μ : Mx} {ω : Om} {d : Nat} (C : Cx μ ω "TowField$Tape" cX7_readSum 5 d) (hr : (mH μ).sig.returnType = some .boolean) (σ : Sg) {n : Nat} (hn1 : n ≤ 100) (hb : BY (σ 132) n) (o : Nat) {P : Nat → PR} (hG : GoodP n P) {D : Nat} (hP : ∀ d' q s τ, D ≤ d' → q ≤ n → s.length ≤ q → CS σ n q s τ → CP d' mX7_readProduct [.ref 131, .int (nI o)] τ (RSx σ n s (P q))) (hd : D + 12 ≤ d) (s0 : List Int32) : ∀ (f i q : Nat) (s : List Int32) (τ : Sg) (l4 : Option Value), i + f = 100 → q ≤ n → (s0 ++ s).length ≤ q → CS σ n q (s0 ++ s) τ → G μ ω (RQ μ ω (pP (RSx σ n s0 (lpP (σ 132) n P opS f q s)))) 8 [some (.ref 131), some (.int (nI o)), some (.int 1), some (.int (nI i)), l4] [] (mk τ) 0 0 := by
  intro f
  induction f with
  | zero =>
    intro i q s τ l4 hif hq hs hS
    refine g_il3n (pc := 8) C dX7_readSum_8 ?_
    refine g_bipush (pc := 9) (v := 100) C dX7_readSum_9 (by decide) ?_
    refine g_icmp_geL (pc := 11) (tgt := 75) C dX7_readSum_11 (by decide) (fun c_11 => ?_) (fun c_11 => absurd c_11 (nI_nlt (b := 100) (by omega) (by omega)))
    refine g_il2n (pc := 75) C dX7_readSum_75 ?_
    exact r_Pz C hr (Or.inr rfl) dX7_readSum_76 ⟨rfl, hS⟩
  | succ f ih =>
    intro i q s τ l4 hif hq hs hS
    refine g_il3n (pc := 8) C dX7_readSum_8 ?_
    refine g_bipush (pc := 9) (v := 100) C dX7_readSum_9 (by decide) ?_
    refine g_icmp_geL (pc := 11) (tgt := 75) C dX7_readSum_11 (by decide) (fun c_11 => absurd (nI_lt (b := 100) (by omega) (by decide)) c_11) (fun c_11 => ?_)
    refine g_il2n (pc := 14) C dX7_readSum_14 ?_
    refine g_if_eq (pc := 15) (tgt := 75) C dX7_readSum_15 (by decide) (fun c => absurd c (by decide)) (fun _ => ?_)
    refine g_al0n (pc := 18) C dX7_readSum_18 ?_
    refine s_getIv (pc := 19) (v := tokS (σ 132) n q) C fX7_31 h131 rfl hS.tk dX7_readSum_19 ?_
    refine g_bipush (pc := 22) (v := 43) C dX7_readSum_22 (by decide) ?_
    refine g_icmp_eq (pc := 24) (tgt := 36) C dX7_readSum_24 (by decide) (fun c_24 => ?_) (fun c_24 => ?_)
    · refine g_al0n (pc := 36) C dX7_readSum_36 ?_
      refine s_getIv (pc := 37) (v := tokS (σ 132) n q) C fX7_31 h131 rfl hS.tk dX7_readSum_37 ?_
      refine g_is4 (pc := 40) C dX7_readSum_40 ?_
      refine g_al0n (pc := 42) C dX7_readSum_42 ?_
      refine s_VQ (pc := 43) (st := []) C h131 rfl (c_advS (d := d - 1) (by omega) hn1 hb hq hS) (by omega) lX7_37 dX7_readSum_43 rfl (Nat.le_of_ble_eq_true rfl) rfl (fun t_43 H_43 => ?_)
      refine g_al0n (pc := 46) C dX7_readSum_46 ?_
      refine g_il1n (pc := 47) C dX7_readSum_47 ?_
      refine s_VP (pc := 48) (st := []) C h131 rfl (hP (d - 1) (enS (σ 132) n q) (s0 ++ s) t_43 (by omega) (enS_le (t := σ 132) hq).2.1 (by have := (enS_le (t := σ 132) hq).1; have := (stS_le (t := σ 132) hq).1; omega) H_43) (by omega) lX7_59 dX7_readSum_48 rfl (Nat.le_of_ble_eq_true rfl) rfl (fun v u_48 hw_48 => ?_)
      rcases hr2 : P (enS (σ 132) n q) with ⟨q', s'⟩ | q'
      · have hz_48 : v = 1 ∧ CS σ n q' (s0 ++ s ++ s') u_48 := by have z := hw_48; rw [hr2] at z; exact z
        obtain ⟨rfl, H_48⟩ := hz_48
        have hg := hG (enS (σ 132) n q) (enS_le (t := σ 132) hq).2.1
        rw [hr2] at hg
        obtain ⟨g1, g2, g3⟩ := hg
        have g4 := g3.2.1
        refine g_if_eq (pc := 51) (tgt := 67) C dX7_readSum_51 (by decide) (fun c => absurd c (by decide)) (fun _ => ?_)
        refine g_al0n (pc := 54) C dX7_readSum_54 ?_
        refine g_il4 (pc := 55) C dX7_readSum_55 ?_
        refine s_VP (pc := 57) (st := []) C h131 rfl (c_putSign (d := d - 1) (by omega) (c := 10100) (x := (tokS (σ 132) n q)) (by rw [c_24]; decide) (by have hlt := (enS_lt (t := σ 132) hq (op_sort OpS (by rw [show opS (sg (σ 132) n q) = 10100 from (by unfold opS; rw [if_pos ((tok_sign (by decide)).mp c_24)])]; decide))); simp only [List.length_append] at *; omega) H_48) (by omega) lX7_47 dX7_readSum_57 rfl (Nat.le_of_ble_eq_true rfl) rfl (fun v_57 t_57 w_57 => ?_)
        obtain ⟨rfl, H_57⟩ := w_57
        refine g_if_eq (pc := 60) (tgt := 67) C dX7_readSum_60 (by decide) (fun c => absurd c (by decide)) (fun _ => ?_)
        refine g_iconst (pc := 63) (v := 1) C dX7_readSum_63 (by decide) ?_
        refine g_goto (pc := 64) (tgt := 68) C dX7_readSum_64 (by decide) ?_
        refine g_is2n (pc := 68) C dX7_readSum_68 ?_
        refine g_ii3 (pc := 69) (v := nI (i + 1)) C dX7_readSum_69 (nI_inc1 _) ?_
        refine g_goto (pc := 72) (tgt := 8) C dX7_readSum_72 (by decide) ?_
        rw [lp_go (c := 10100) (by unfold opS; rw [if_pos ((tok_sign (by decide)).mp c_24)]) (by decide) hr2]
        have hlt := (enS_lt (t := σ 132) hq (op_sort OpS (by rw [show opS (sg (σ 132) n q) = 10100 from (by unfold opS; rw [if_pos ((tok_sign (by decide)).mp c_24)])]; decide)))
        exact ih (i + 1) q' (s ++ s' ++ [10100]) _ _ (by omega) g2 (by simp only [List.length_append, List.length_cons, List.length_nil] at *; omega) (by simp only [← List.append_assoc]; exact H_57)
      · have hz_48 : v = 0 ∧ CF σ n q' u_48 := by have z := hw_48; rw [hr2] at z; exact z
        obtain ⟨rfl, F_48⟩ := hz_48
        refine g_if_eq (pc := 51) (tgt := 67) C dX7_readSum_51 (by decide) (fun _ => ?_) (fun c => absurd c (by decide))
        refine g_iconst (pc := 67) (v := 0) C dX7_readSum_67 (by decide) ?_
        refine g_is2n (pc := 68) C dX7_readSum_68 ?_
        refine g_ii3 (pc := 69) (v := nI (i + 1)) C dX7_readSum_69 (nI_inc1 _) ?_
        refine g_goto (pc := 72) (tgt := 8) C dX7_readSum_72 (by decide) ?_
        refine g_il3n (pc := 8) C dX7_readSum_8 ?_
        refine g_bipush (pc := 9) (v := 100) C dX7_readSum_9 (by decide) ?_
        refine g_icmp_geL (pc := 11) (tgt := 75) C dX7_readSum_11 (by decide) (fun c_11_2 => ?_) (fun c_11_2 => ?_)
        · refine g_il2n (pc := 75) C dX7_readSum_75 ?_
          rw [lp_no (c := 10100) (by unfold opS; rw [if_pos ((tok_sign (by decide)).mp c_24)]) (by decide) hr2]
          exact r_Pz C hr (Or.inl rfl) dX7_readSum_76 ⟨rfl, F_48⟩
        · refine g_il2n (pc := 14) C dX7_readSum_14 ?_
          refine g_if_eq (pc := 15) (tgt := 75) C dX7_readSum_15 (by decide) (fun _ => ?_) (fun c => absurd c (by decide))
          refine g_il2n (pc := 75) C dX7_readSum_75 ?_
          rw [lp_no (c := 10100) (by unfold opS; rw [if_pos ((tok_sign (by decide)).mp c_24)]) (by decide) hr2]
          exact r_Pz C hr (Or.inl rfl) dX7_readSum_76 ⟨rfl, F_48⟩
    · refine g_al0n (pc := 27) C dX7_readSum_27 ?_
      refine s_getIv (pc := 28) (v := tokS (σ 132) n q) C fX7_31 h131 rfl hS.tk dX7_readSum_28 ?_
      refine g_bipush (pc := 31) (v := 45) C dX7_readSum_31 (by decide) ?_
      refine g_icmp_ne (pc := 33) (tgt := 75) C dX7_readSum_33 (by decide) (fun c_33 => ?_) (fun c_33 => ?_)
      · refine g_il2n (pc := 75) C dX7_readSum_75 ?_
        rw [lp_stop (by unfold opS; rw [if_neg (fun z => c_24 ((tok_sign (by decide)).mpr z)), if_neg (fun z => c_33 ((tok_sign (by decide)).mpr z))])]
        exact r_Pz C hr (Or.inr rfl) dX7_readSum_76 ⟨rfl, hS⟩
      · refine g_al0n (pc := 36) C dX7_readSum_36 ?_
        refine s_getIv (pc := 37) (v := tokS (σ 132) n q) C fX7_31 h131 rfl hS.tk dX7_readSum_37 ?_
        refine g_is4 (pc := 40) C dX7_readSum_40 ?_
        refine g_al0n (pc := 42) C dX7_readSum_42 ?_
        refine s_VQ (pc := 43) (st := []) C h131 rfl (c_advS (d := d - 1) (by omega) hn1 hb hq hS) (by omega) lX7_37 dX7_readSum_43 rfl (Nat.le_of_ble_eq_true rfl) rfl (fun t_43 H_43 => ?_)
        refine g_al0n (pc := 46) C dX7_readSum_46 ?_
        refine g_il1n (pc := 47) C dX7_readSum_47 ?_
        refine s_VP (pc := 48) (st := []) C h131 rfl (hP (d - 1) (enS (σ 132) n q) (s0 ++ s) t_43 (by omega) (enS_le (t := σ 132) hq).2.1 (by have := (enS_le (t := σ 132) hq).1; have := (stS_le (t := σ 132) hq).1; omega) H_43) (by omega) lX7_59 dX7_readSum_48 rfl (Nat.le_of_ble_eq_true rfl) rfl (fun v u_48 hw_48 => ?_)
        rcases hr2 : P (enS (σ 132) n q) with ⟨q', s'⟩ | q'
        · have hz_48 : v = 1 ∧ CS σ n q' (s0 ++ s ++ s') u_48 := by have z := hw_48; rw [hr2] at z; exact z
          obtain ⟨rfl, H_48⟩ := hz_48
          have hg := hG (enS (σ 132) n q) (enS_le (t := σ 132) hq).2.1
          rw [hr2] at hg
          obtain ⟨g1, g2, g3⟩ := hg
          have g4 := g3.2.1
          refine g_if_eq (pc := 51) (tgt := 67) C dX7_readSum_51 (by decide) (fun c => absurd c (by decide)) (fun _ => ?_)
          refine g_al0n (pc := 54) C dX7_readSum_54 ?_
          refine g_il4 (pc := 55) C dX7_readSum_55 ?_
          refine s_VP (pc := 57) (st := []) C h131 rfl (c_putSign (d := d - 1) (by omega) (c := 10101) (x := (tokS (σ 132) n q)) (by rw [c_33]; decide) (by have hlt := (enS_lt (t := σ 132) hq (op_sort OpS (by rw [show opS (sg (σ 132) n q) = 10101 from (by unfold opS; rw [if_neg (fun z => c_24 ((tok_sign (by decide)).mpr z)), if_pos ((tok_sign (by decide)).mp c_33)])]; decide))); simp only [List.length_append] at *; omega) H_48) (by omega) lX7_47 dX7_readSum_57 rfl (Nat.le_of_ble_eq_true rfl) rfl (fun v_57 t_57 w_57 => ?_)
          obtain ⟨rfl, H_57⟩ := w_57
          refine g_if_eq (pc := 60) (tgt := 67) C dX7_readSum_60 (by decide) (fun c => absurd c (by decide)) (fun _ => ?_)
          refine g_iconst (pc := 63) (v := 1) C dX7_readSum_63 (by decide) ?_
          refine g_goto (pc := 64) (tgt := 68) C dX7_readSum_64 (by decide) ?_
          refine g_is2n (pc := 68) C dX7_readSum_68 ?_
          refine g_ii3 (pc := 69) (v := nI (i + 1)) C dX7_readSum_69 (nI_inc1 _) ?_
          refine g_goto (pc := 72) (tgt := 8) C dX7_readSum_72 (by decide) ?_
          rw [lp_go (c := 10101) (by unfold opS; rw [if_neg (fun z => c_24 ((tok_sign (by decide)).mpr z)), if_pos ((tok_sign (by decide)).mp c_33)]) (by decide) hr2]
          have hlt := (enS_lt (t := σ 132) hq (op_sort OpS (by rw [show opS (sg (σ 132) n q) = 10101 from (by unfold opS; rw [if_neg (fun z => c_24 ((tok_sign (by decide)).mpr z)), if_pos ((tok_sign (by decide)).mp c_33)])]; decide)))
          exact ih (i + 1) q' (s ++ s' ++ [10101]) _ _ (by omega) g2 (by simp only [List.length_append, List.length_cons, List.length_nil] at *; omega) (by simp only [← List.append_assoc]; exact H_57)
        · have hz_48 : v = 0 ∧ CF σ n q' u_48 := by have z := hw_48; rw [hr2] at z; exact z
          obtain ⟨rfl, F_48⟩ := hz_48
          refine g_if_eq (pc := 51) (tgt := 67) C dX7_readSum_51 (by decide) (fun _ => ?_) (fun c => absurd c (by decide))
          refine g_iconst (pc := 67) (v := 0) C dX7_readSum_67 (by decide) ?_
          refine g_is2n (pc := 68) C dX7_readSum_68 ?_
          refine g_ii3 (pc := 69) (v := nI (i + 1)) C dX7_readSum_69 (nI_inc1 _) ?_
          refine g_goto (pc := 72) (tgt := 8) C dX7_readSum_72 (by decide) ?_
          refine g_il3n (pc := 8) C dX7_readSum_8 ?_
          refine g_bipush (pc := 9) (v := 100) C dX7_readSum_9 (by decide) ?_
          refine g_icmp_geL (pc := 11) (tgt := 75) C dX7_readSum_11 (by decide) (fun c_11_2 => ?_) (fun c_11_2 => ?_)
          · refine g_il2n (pc := 75) C dX7_readSum_75 ?_
            rw [lp_no (c := 10101) (by unfold opS; rw [if_neg (fun z => c_24 ((tok_sign (by decide)).mpr z)), if_pos ((tok_sign (by decide)).mp c_33)]) (by decide) hr2]
            exact r_Pz C hr (Or.inl rfl) dX7_readSum_76 ⟨rfl, F_48⟩
          · refine g_il2n (pc := 14) C dX7_readSum_14 ?_
            refine g_if_eq (pc := 15) (tgt := 75) C dX7_readSum_15 (by decide) (fun _ => ?_) (fun c => absurd c (by decide))
            refine g_il2n (pc := 75) C dX7_readSum_75 ?_
            rw [lp_no (c := 10101) (by unfold opS; rw [if_neg (fun z => c_24 ((tok_sign (by decide)).mpr z)), if_pos ((tok_sign (by decide)).mp c_33)]) (by decide) hr2]
            exact r_Pz C hr (Or.inl rfl) dX7_readSum_76 ⟨rfl, F_48⟩
theorem c_readSum {d : Nat}  (σ : Sg) {n : Nat} (hn1 : n ≤ 100) (hb : BY (σ 132) n) (o : Nat) {P : Nat → PR} (hG : GoodP n P) {D : Nat} (hP : ∀ d' q s τ, D ≤ d' → q ≤ n → s.length ≤ q → CS σ n q s τ → CP d' mX7_readProduct [.ref 131, .int (nI o)] τ (RSx σ n s (P q))) {q : Nat} (hq : q ≤ n) {s : List Int32} (hs : s.length ≤ q) {τ : Sg} (hS : CS σ n q s τ) (hd : D + 12 ≤ d) : CP d mX7_readSum [.ref 131, .int (nI o)] τ (RSx σ n s (bnd (P q) (lpP (σ 132) n P opS 100))) := by
  refine con_of (by decide) (catL rfl) (Nat.le_of_ble_eq_true rfl) ?_
  intro μ ω C hr
  have C : Cx μ ω "TowField$Tape" cX7_readSum 5 d := C
  have hr : (mH μ).sig.returnType = some .boolean := hr
  show G μ ω (RQ μ ω (pP (RSx σ n s (bnd (P q) (lpP (σ 132) n P opS 100))))) 0 [some (.ref 131), some (.int (nI o)), none, none, none] [] (mk τ) 0 0
  refine g_al0n (pc := 0) C dX7_readSum_0 ?_
  refine g_il1n (pc := 1) C dX7_readSum_1 ?_
  refine s_VP (pc := 2) (st := []) C h131 rfl (hP (d - 1) q s τ (by omega) hq hs hS) (by omega) lX7_59 dX7_readSum_2 rfl (Nat.le_of_ble_eq_true rfl) rfl (fun v u_2 hw_2 => ?_)
  rcases hr2 : P q with ⟨q', s'⟩ | q'
  · have hz_2 : v = 1 ∧ CS σ n q' (s ++ s') u_2 := by have z := hw_2; rw [hr2] at z; exact z
    obtain ⟨rfl, H_2⟩ := hz_2
    have hg := hG q hq
    rw [hr2] at hg
    obtain ⟨g1, g2, g3⟩ := hg
    have g4 := g3.2.1
    refine g_is2n (pc := 5) C dX7_readSum_5 ?_
    refine g_iconst (pc := 6) (v := 0) C dX7_readSum_6 (by decide) ?_
    refine g_is3n (pc := 7) C dX7_readSum_7 ?_
    exact lp_readSum C hr σ hn1 hb o hG hP (by omega) s 100 0 q' s' _ _ (by omega) g2 (by simp only [List.length_append]; omega) H_2
  · have hz_2 : v = 0 ∧ CF σ n q' u_2 := by have z := hw_2; rw [hr2] at z; exact z
    obtain ⟨rfl, F_2⟩ := hz_2
    refine g_is2n (pc := 5) C dX7_readSum_5 ?_
    refine g_iconst (pc := 6) (v := 0) C dX7_readSum_6 (by decide) ?_
    refine g_is3n (pc := 7) C dX7_readSum_7 ?_
    refine g_il3n (pc := 8) C dX7_readSum_8 ?_
    refine g_bipush (pc := 9) (v := 100) C dX7_readSum_9 (by decide) ?_
    refine g_icmp_geL (pc := 11) (tgt := 75) C dX7_readSum_11 (by decide) (fun c => absurd c (by decide)) (fun _ => ?_)
    refine g_il2n (pc := 14) C dX7_readSum_14 ?_
    refine g_if_eq (pc := 15) (tgt := 75) C dX7_readSum_15 (by decide) (fun _ => ?_) (fun c => absurd c (by decide))
    refine g_il2n (pc := 75) C dX7_readSum_75 ?_
    exact r_Pz C hr (Or.inl rfl) dX7_readSum_76 ⟨rfl, F_2⟩

theorem lp_readProduct {μ : Mx} {ω : Om} {d : Nat} (C : Cx μ ω "TowField$Tape" cX7_readProduct 5 d) (hr : (mH μ).sig.returnType = some .boolean) (σ : Sg) {n : Nat} (hn1 : n ≤ 100) (hb : BY (σ 132) n) (o : Nat) {P : Nat → PR} (hG : GoodP n P) {D : Nat} (hP : ∀ d' q s τ, D ≤ d' → q ≤ n → s.length ≤ q → CS σ n q s τ → CP d' mX7_readSingle [.ref 131, .int (nI o)] τ (RSx σ n s (P q))) (hd : D + 12 ≤ d) (s0 : List Int32) : ∀ (f i q : Nat) (s : List Int32) (τ : Sg) (l4 : Option Value), i + f = 100 → q ≤ n → (s0 ++ s).length ≤ q → CS σ n q (s0 ++ s) τ → G μ ω (RQ μ ω (pP (RSx σ n s0 (lpP (σ 132) n P opM f q s)))) 8 [some (.ref 131), some (.int (nI o)), some (.int 1), some (.int (nI i)), l4] [] (mk τ) 0 0 := by
  intro f
  induction f with
  | zero =>
    intro i q s τ l4 hif hq hs hS
    refine g_il3n (pc := 8) C dX7_readProduct_8 ?_
    refine g_bipush (pc := 9) (v := 100) C dX7_readProduct_9 (by decide) ?_
    refine g_icmp_geL (pc := 11) (tgt := 75) C dX7_readProduct_11 (by decide) (fun c_11 => ?_) (fun c_11 => absurd c_11 (nI_nlt (b := 100) (by omega) (by omega)))
    refine g_il2n (pc := 75) C dX7_readProduct_75 ?_
    exact r_Pz C hr (Or.inr rfl) dX7_readProduct_76 ⟨rfl, hS⟩
  | succ f ih =>
    intro i q s τ l4 hif hq hs hS
    refine g_il3n (pc := 8) C dX7_readProduct_8 ?_
    refine g_bipush (pc := 9) (v := 100) C dX7_readProduct_9 (by decide) ?_
    refine g_icmp_geL (pc := 11) (tgt := 75) C dX7_readProduct_11 (by decide) (fun c_11 => absurd (nI_lt (b := 100) (by omega) (by decide)) c_11) (fun c_11 => ?_)
    refine g_il2n (pc := 14) C dX7_readProduct_14 ?_
    refine g_if_eq (pc := 15) (tgt := 75) C dX7_readProduct_15 (by decide) (fun c => absurd c (by decide)) (fun _ => ?_)
    refine g_al0n (pc := 18) C dX7_readProduct_18 ?_
    refine s_getIv (pc := 19) (v := tokS (σ 132) n q) C fX7_31 h131 rfl hS.tk dX7_readProduct_19 ?_
    refine g_bipush (pc := 22) (v := 42) C dX7_readProduct_22 (by decide) ?_
    refine g_icmp_eq (pc := 24) (tgt := 36) C dX7_readProduct_24 (by decide) (fun c_24 => ?_) (fun c_24 => ?_)
    · refine g_al0n (pc := 36) C dX7_readProduct_36 ?_
      refine s_getIv (pc := 37) (v := tokS (σ 132) n q) C fX7_31 h131 rfl hS.tk dX7_readProduct_37 ?_
      refine g_is4 (pc := 40) C dX7_readProduct_40 ?_
      refine g_al0n (pc := 42) C dX7_readProduct_42 ?_
      refine s_VQ (pc := 43) (st := []) C h131 rfl (c_advS (d := d - 1) (by omega) hn1 hb hq hS) (by omega) lX7_37 dX7_readProduct_43 rfl (Nat.le_of_ble_eq_true rfl) rfl (fun t_43 H_43 => ?_)
      refine g_al0n (pc := 46) C dX7_readProduct_46 ?_
      refine g_il1n (pc := 47) C dX7_readProduct_47 ?_
      refine s_VP (pc := 48) (st := []) C h131 rfl (hP (d - 1) (enS (σ 132) n q) (s0 ++ s) t_43 (by omega) (enS_le (t := σ 132) hq).2.1 (by have := (enS_le (t := σ 132) hq).1; have := (stS_le (t := σ 132) hq).1; omega) H_43) (by omega) lX7_62 dX7_readProduct_48 rfl (Nat.le_of_ble_eq_true rfl) rfl (fun v u_48 hw_48 => ?_)
      rcases hr2 : P (enS (σ 132) n q) with ⟨q', s'⟩ | q'
      · have hz_48 : v = 1 ∧ CS σ n q' (s0 ++ s ++ s') u_48 := by have z := hw_48; rw [hr2] at z; exact z
        obtain ⟨rfl, H_48⟩ := hz_48
        have hg := hG (enS (σ 132) n q) (enS_le (t := σ 132) hq).2.1
        rw [hr2] at hg
        obtain ⟨g1, g2, g3⟩ := hg
        have g4 := g3.2.1
        refine g_if_eq (pc := 51) (tgt := 67) C dX7_readProduct_51 (by decide) (fun c => absurd c (by decide)) (fun _ => ?_)
        refine g_al0n (pc := 54) C dX7_readProduct_54 ?_
        refine g_il4 (pc := 55) C dX7_readProduct_55 ?_
        refine s_VP (pc := 57) (st := []) C h131 rfl (c_putSign (d := d - 1) (by omega) (c := 10108) (x := (tokS (σ 132) n q)) (by rw [c_24]; decide) (by have hlt := (enS_lt (t := σ 132) hq (op_sort OpM (by rw [show opM (sg (σ 132) n q) = 10108 from (by unfold opM; rw [if_pos ((tok_sign (by decide)).mp c_24)])]; decide))); simp only [List.length_append] at *; omega) H_48) (by omega) lX7_47 dX7_readProduct_57 rfl (Nat.le_of_ble_eq_true rfl) rfl (fun v_57 t_57 w_57 => ?_)
        obtain ⟨rfl, H_57⟩ := w_57
        refine g_if_eq (pc := 60) (tgt := 67) C dX7_readProduct_60 (by decide) (fun c => absurd c (by decide)) (fun _ => ?_)
        refine g_iconst (pc := 63) (v := 1) C dX7_readProduct_63 (by decide) ?_
        refine g_goto (pc := 64) (tgt := 68) C dX7_readProduct_64 (by decide) ?_
        refine g_is2n (pc := 68) C dX7_readProduct_68 ?_
        refine g_ii3 (pc := 69) (v := nI (i + 1)) C dX7_readProduct_69 (nI_inc1 _) ?_
        refine g_goto (pc := 72) (tgt := 8) C dX7_readProduct_72 (by decide) ?_
        rw [lp_go (c := 10108) (by unfold opM; rw [if_pos ((tok_sign (by decide)).mp c_24)]) (by decide) hr2]
        have hlt := (enS_lt (t := σ 132) hq (op_sort OpM (by rw [show opM (sg (σ 132) n q) = 10108 from (by unfold opM; rw [if_pos ((tok_sign (by decide)).mp c_24)])]; decide)))
        exact ih (i + 1) q' (s ++ s' ++ [10108]) _ _ (by omega) g2 (by simp only [List.length_append, List.length_cons, List.length_nil] at *; omega) (by simp only [← List.append_assoc]; exact H_57)
      · have hz_48 : v = 0 ∧ CF σ n q' u_48 := by have z := hw_48; rw [hr2] at z; exact z
        obtain ⟨rfl, F_48⟩ := hz_48
        refine g_if_eq (pc := 51) (tgt := 67) C dX7_readProduct_51 (by decide) (fun _ => ?_) (fun c => absurd c (by decide))
        refine g_iconst (pc := 67) (v := 0) C dX7_readProduct_67 (by decide) ?_
        refine g_is2n (pc := 68) C dX7_readProduct_68 ?_
        refine g_ii3 (pc := 69) (v := nI (i + 1)) C dX7_readProduct_69 (nI_inc1 _) ?_
        refine g_goto (pc := 72) (tgt := 8) C dX7_readProduct_72 (by decide) ?_
        refine g_il3n (pc := 8) C dX7_readProduct_8 ?_
        refine g_bipush (pc := 9) (v := 100) C dX7_readProduct_9 (by decide) ?_
        refine g_icmp_geL (pc := 11) (tgt := 75) C dX7_readProduct_11 (by decide) (fun c_11_2 => ?_) (fun c_11_2 => ?_)
        · refine g_il2n (pc := 75) C dX7_readProduct_75 ?_
          rw [lp_no (c := 10108) (by unfold opM; rw [if_pos ((tok_sign (by decide)).mp c_24)]) (by decide) hr2]
          exact r_Pz C hr (Or.inl rfl) dX7_readProduct_76 ⟨rfl, F_48⟩
        · refine g_il2n (pc := 14) C dX7_readProduct_14 ?_
          refine g_if_eq (pc := 15) (tgt := 75) C dX7_readProduct_15 (by decide) (fun _ => ?_) (fun c => absurd c (by decide))
          refine g_il2n (pc := 75) C dX7_readProduct_75 ?_
          rw [lp_no (c := 10108) (by unfold opM; rw [if_pos ((tok_sign (by decide)).mp c_24)]) (by decide) hr2]
          exact r_Pz C hr (Or.inl rfl) dX7_readProduct_76 ⟨rfl, F_48⟩
    · refine g_al0n (pc := 27) C dX7_readProduct_27 ?_
      refine s_getIv (pc := 28) (v := tokS (σ 132) n q) C fX7_31 h131 rfl hS.tk dX7_readProduct_28 ?_
      refine g_bipush (pc := 31) (v := 47) C dX7_readProduct_31 (by decide) ?_
      refine g_icmp_ne (pc := 33) (tgt := 75) C dX7_readProduct_33 (by decide) (fun c_33 => ?_) (fun c_33 => ?_)
      · refine g_il2n (pc := 75) C dX7_readProduct_75 ?_
        rw [lp_stop (by unfold opM; rw [if_neg (fun z => c_24 ((tok_sign (by decide)).mpr z)), if_neg (fun z => c_33 ((tok_sign (by decide)).mpr z))])]
        exact r_Pz C hr (Or.inr rfl) dX7_readProduct_76 ⟨rfl, hS⟩
      · refine g_al0n (pc := 36) C dX7_readProduct_36 ?_
        refine s_getIv (pc := 37) (v := tokS (σ 132) n q) C fX7_31 h131 rfl hS.tk dX7_readProduct_37 ?_
        refine g_is4 (pc := 40) C dX7_readProduct_40 ?_
        refine g_al0n (pc := 42) C dX7_readProduct_42 ?_
        refine s_VQ (pc := 43) (st := []) C h131 rfl (c_advS (d := d - 1) (by omega) hn1 hb hq hS) (by omega) lX7_37 dX7_readProduct_43 rfl (Nat.le_of_ble_eq_true rfl) rfl (fun t_43 H_43 => ?_)
        refine g_al0n (pc := 46) C dX7_readProduct_46 ?_
        refine g_il1n (pc := 47) C dX7_readProduct_47 ?_
        refine s_VP (pc := 48) (st := []) C h131 rfl (hP (d - 1) (enS (σ 132) n q) (s0 ++ s) t_43 (by omega) (enS_le (t := σ 132) hq).2.1 (by have := (enS_le (t := σ 132) hq).1; have := (stS_le (t := σ 132) hq).1; omega) H_43) (by omega) lX7_62 dX7_readProduct_48 rfl (Nat.le_of_ble_eq_true rfl) rfl (fun v u_48 hw_48 => ?_)
        rcases hr2 : P (enS (σ 132) n q) with ⟨q', s'⟩ | q'
        · have hz_48 : v = 1 ∧ CS σ n q' (s0 ++ s ++ s') u_48 := by have z := hw_48; rw [hr2] at z; exact z
          obtain ⟨rfl, H_48⟩ := hz_48
          have hg := hG (enS (σ 132) n q) (enS_le (t := σ 132) hq).2.1
          rw [hr2] at hg
          obtain ⟨g1, g2, g3⟩ := hg
          have g4 := g3.2.1
          refine g_if_eq (pc := 51) (tgt := 67) C dX7_readProduct_51 (by decide) (fun c => absurd c (by decide)) (fun _ => ?_)
          refine g_al0n (pc := 54) C dX7_readProduct_54 ?_
          refine g_il4 (pc := 55) C dX7_readProduct_55 ?_
          refine s_VP (pc := 57) (st := []) C h131 rfl (c_putSign (d := d - 1) (by omega) (c := 10109) (x := (tokS (σ 132) n q)) (by rw [c_33]; decide) (by have hlt := (enS_lt (t := σ 132) hq (op_sort OpM (by rw [show opM (sg (σ 132) n q) = 10109 from (by unfold opM; rw [if_neg (fun z => c_24 ((tok_sign (by decide)).mpr z)), if_pos ((tok_sign (by decide)).mp c_33)])]; decide))); simp only [List.length_append] at *; omega) H_48) (by omega) lX7_47 dX7_readProduct_57 rfl (Nat.le_of_ble_eq_true rfl) rfl (fun v_57 t_57 w_57 => ?_)
          obtain ⟨rfl, H_57⟩ := w_57
          refine g_if_eq (pc := 60) (tgt := 67) C dX7_readProduct_60 (by decide) (fun c => absurd c (by decide)) (fun _ => ?_)
          refine g_iconst (pc := 63) (v := 1) C dX7_readProduct_63 (by decide) ?_
          refine g_goto (pc := 64) (tgt := 68) C dX7_readProduct_64 (by decide) ?_
          refine g_is2n (pc := 68) C dX7_readProduct_68 ?_
          refine g_ii3 (pc := 69) (v := nI (i + 1)) C dX7_readProduct_69 (nI_inc1 _) ?_
          refine g_goto (pc := 72) (tgt := 8) C dX7_readProduct_72 (by decide) ?_
          rw [lp_go (c := 10109) (by unfold opM; rw [if_neg (fun z => c_24 ((tok_sign (by decide)).mpr z)), if_pos ((tok_sign (by decide)).mp c_33)]) (by decide) hr2]
          have hlt := (enS_lt (t := σ 132) hq (op_sort OpM (by rw [show opM (sg (σ 132) n q) = 10109 from (by unfold opM; rw [if_neg (fun z => c_24 ((tok_sign (by decide)).mpr z)), if_pos ((tok_sign (by decide)).mp c_33)])]; decide)))
          exact ih (i + 1) q' (s ++ s' ++ [10109]) _ _ (by omega) g2 (by simp only [List.length_append, List.length_cons, List.length_nil] at *; omega) (by simp only [← List.append_assoc]; exact H_57)
        · have hz_48 : v = 0 ∧ CF σ n q' u_48 := by have z := hw_48; rw [hr2] at z; exact z
          obtain ⟨rfl, F_48⟩ := hz_48
          refine g_if_eq (pc := 51) (tgt := 67) C dX7_readProduct_51 (by decide) (fun _ => ?_) (fun c => absurd c (by decide))
          refine g_iconst (pc := 67) (v := 0) C dX7_readProduct_67 (by decide) ?_
          refine g_is2n (pc := 68) C dX7_readProduct_68 ?_
          refine g_ii3 (pc := 69) (v := nI (i + 1)) C dX7_readProduct_69 (nI_inc1 _) ?_
          refine g_goto (pc := 72) (tgt := 8) C dX7_readProduct_72 (by decide) ?_
          refine g_il3n (pc := 8) C dX7_readProduct_8 ?_
          refine g_bipush (pc := 9) (v := 100) C dX7_readProduct_9 (by decide) ?_
          refine g_icmp_geL (pc := 11) (tgt := 75) C dX7_readProduct_11 (by decide) (fun c_11_2 => ?_) (fun c_11_2 => ?_)
          · refine g_il2n (pc := 75) C dX7_readProduct_75 ?_
            rw [lp_no (c := 10109) (by unfold opM; rw [if_neg (fun z => c_24 ((tok_sign (by decide)).mpr z)), if_pos ((tok_sign (by decide)).mp c_33)]) (by decide) hr2]
            exact r_Pz C hr (Or.inl rfl) dX7_readProduct_76 ⟨rfl, F_48⟩
          · refine g_il2n (pc := 14) C dX7_readProduct_14 ?_
            refine g_if_eq (pc := 15) (tgt := 75) C dX7_readProduct_15 (by decide) (fun _ => ?_) (fun c => absurd c (by decide))
            refine g_il2n (pc := 75) C dX7_readProduct_75 ?_
            rw [lp_no (c := 10109) (by unfold opM; rw [if_neg (fun z => c_24 ((tok_sign (by decide)).mpr z)), if_pos ((tok_sign (by decide)).mp c_33)]) (by decide) hr2]
            exact r_Pz C hr (Or.inl rfl) dX7_readProduct_76 ⟨rfl, F_48⟩
theorem c_readProduct {d : Nat}  (σ : Sg) {n : Nat} (hn1 : n ≤ 100) (hb : BY (σ 132) n) (o : Nat) {P : Nat → PR} (hG : GoodP n P) {D : Nat} (hP : ∀ d' q s τ, D ≤ d' → q ≤ n → s.length ≤ q → CS σ n q s τ → CP d' mX7_readSingle [.ref 131, .int (nI o)] τ (RSx σ n s (P q))) {q : Nat} (hq : q ≤ n) {s : List Int32} (hs : s.length ≤ q) {τ : Sg} (hS : CS σ n q s τ) (hd : D + 12 ≤ d) : CP d mX7_readProduct [.ref 131, .int (nI o)] τ (RSx σ n s (bnd (P q) (lpP (σ 132) n P opM 100))) := by
  refine con_of (by decide) (catL rfl) (Nat.le_of_ble_eq_true rfl) ?_
  intro μ ω C hr
  have C : Cx μ ω "TowField$Tape" cX7_readProduct 5 d := C
  have hr : (mH μ).sig.returnType = some .boolean := hr
  show G μ ω (RQ μ ω (pP (RSx σ n s (bnd (P q) (lpP (σ 132) n P opM 100))))) 0 [some (.ref 131), some (.int (nI o)), none, none, none] [] (mk τ) 0 0
  refine g_al0n (pc := 0) C dX7_readProduct_0 ?_
  refine g_il1n (pc := 1) C dX7_readProduct_1 ?_
  refine s_VP (pc := 2) (st := []) C h131 rfl (hP (d - 1) q s τ (by omega) hq hs hS) (by omega) lX7_62 dX7_readProduct_2 rfl (Nat.le_of_ble_eq_true rfl) rfl (fun v u_2 hw_2 => ?_)
  rcases hr2 : P q with ⟨q', s'⟩ | q'
  · have hz_2 : v = 1 ∧ CS σ n q' (s ++ s') u_2 := by have z := hw_2; rw [hr2] at z; exact z
    obtain ⟨rfl, H_2⟩ := hz_2
    have hg := hG q hq
    rw [hr2] at hg
    obtain ⟨g1, g2, g3⟩ := hg
    have g4 := g3.2.1
    refine g_is2n (pc := 5) C dX7_readProduct_5 ?_
    refine g_iconst (pc := 6) (v := 0) C dX7_readProduct_6 (by decide) ?_
    refine g_is3n (pc := 7) C dX7_readProduct_7 ?_
    exact lp_readProduct C hr σ hn1 hb o hG hP (by omega) s 100 0 q' s' _ _ (by omega) g2 (by simp only [List.length_append]; omega) H_2
  · have hz_2 : v = 0 ∧ CF σ n q' u_2 := by have z := hw_2; rw [hr2] at z; exact z
    obtain ⟨rfl, F_2⟩ := hz_2
    refine g_is2n (pc := 5) C dX7_readProduct_5 ?_
    refine g_iconst (pc := 6) (v := 0) C dX7_readProduct_6 (by decide) ?_
    refine g_is3n (pc := 7) C dX7_readProduct_7 ?_
    refine g_il3n (pc := 8) C dX7_readProduct_8 ?_
    refine g_bipush (pc := 9) (v := 100) C dX7_readProduct_9 (by decide) ?_
    refine g_icmp_geL (pc := 11) (tgt := 75) C dX7_readProduct_11 (by decide) (fun c => absurd c (by decide)) (fun _ => ?_)
    refine g_il2n (pc := 14) C dX7_readProduct_14 ?_
    refine g_if_eq (pc := 15) (tgt := 75) C dX7_readProduct_15 (by decide) (fun _ => ?_) (fun c => absurd c (by decide))
    refine g_il2n (pc := 75) C dX7_readProduct_75 ?_
    exact r_Pz C hr (Or.inl rfl) dX7_readProduct_76 ⟨rfl, F_2⟩

