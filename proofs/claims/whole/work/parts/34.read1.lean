/-! ===== the model reads a text ===== -/
def tkF (t : Nu) (n q : Nat) (w : Int32) (o m : Nat) (f : Nat → Int32) : Nat → Int32 := fun j => if j = 12 then sortS t n q else if j = 13 then nI (stS t n q) else if j = 14 then nI (enS t n q) else if j = 15 then w else if j = 16 then nI o else if j = 18 then nI m else f j
def putL (f : Nu) (s : List Int32) : Nu := fun j => if j < s.length then s.getD j 0 else f j
/-- the model as it reads: at the token from q on, w if it is wrong, o open, these steps -/
def mst (σ : Sg) (n : Nat) (w : Int32) (o q : Nat) (s : List Int32) : Sg := sup (sup σ 135 (tkF (σ 140) n q w o s.length (σ 135))) 142 (putL (σ 142) s)
theorem mst_135 (σ : Sg) (n : Nat) (w : Int32) (o q : Nat) (s : List Int32) : mst σ n w o q s 135 = tkF (σ 140) n q w o s.length (σ 135) := rfl
theorem mst_142 (σ : Sg) (n : Nat) (w : Int32) (o q : Nat) (s : List Int32) : mst σ n w o q s 142 = putL (σ 142) s := rfl
theorem mst_ne {σ : Sg} {n : Nat} {w : Int32} {o q : Nat} {s : List Int32} {k : Nat} (h : k ≠ 135) (h2 : k ≠ 142) : mst σ n w o q s k = σ k := by
  unfold mst; rw [sup_apply, if_neg h2, sup_apply, if_neg h]
theorem mst_of {σ τ : Sg} {n : Nat} {w : Int32} {o q : Nat} {s : List Int32} (h0 : ∀ k, k ≠ 135 → k ≠ 142 → τ k = σ k) (h2 : τ 142 = putL (σ 142) s) (h12 : τ 135 12 = sortS (σ 140) n q) (h13 : τ 135 13 = nI (stS (σ 140) n q)) (h14 : τ 135 14 = nI (enS (σ 140) n q)) (h15 : τ 135 15 = w) (h16 : τ 135 16 = nI o) (h18 : τ 135 18 = nI s.length)
    (h : ∀ j, j ≠ 12 → j ≠ 13 → j ≠ 14 → j ≠ 15 → j ≠ 16 → j ≠ 18 → τ 135 j = σ 135 j) : τ = mst σ n w o q s := by
  funext k
  by_cases hk : k = 135
  · subst hk
    rw [mst_135]
    funext j
    unfold tkF
    by_cases e : j = 12
    · rw [if_pos e, e, h12]
    · rw [if_neg e]
      by_cases e2 : j = 13
      · rw [if_pos e2, e2, h13]
      · rw [if_neg e2]
        by_cases e3 : j = 14
        · rw [if_pos e3, e3, h14]
        · rw [if_neg e3]
          by_cases e4 : j = 15
          · rw [if_pos e4, e4, h15]
          · rw [if_neg e4]
            by_cases e5 : j = 16
            · rw [if_pos e5, e5, h16]
            · rw [if_neg e5]
              by_cases e6 : j = 18
              · rw [if_pos e6, e6, h18]
              · rw [if_neg e6]; exact h j e e2 e3 e4 e5 e6
  · by_cases hk2 : k = 142
    · subst hk2; exact h2
    · rw [mst_ne hk hk2]; exact h0 k hk hk2
theorem mst_oth {σ : Sg} {n : Nat} {w : Int32} {o q : Nat} {s : List Int32} {j : Nat} (h1 : j ≠ 12) (h2 : j ≠ 13) (h3 : j ≠ 14) (h4 : j ≠ 15) (h5 : j ≠ 16) (h6 : j ≠ 18) : mst σ n w o q s 135 j = σ 135 j := by
  rw [mst_135]; unfold tkF; rw [if_neg h1, if_neg h2, if_neg h3, if_neg h4, if_neg h5, if_neg h6]
theorem mst_tok (σ : Sg) (n : Nat) (w : Int32) (o q q' : Nat) (s : List Int32) : ntk (mst σ n w o q s) n q' = mst σ n w o q' s :=
  mst_of (fun k h1 h2 => by unfold ntk; rw [sup_apply, if_neg h1]; exact mst_ne h1 h2) rfl rfl rfl rfl rfl rfl rfl (fun j h1 h2 h3 h4 h5 h6 => by
    unfold ntk; rw [sup_apply, if_pos rfl, if_neg h1, if_neg h2, if_neg h3]; exact mst_oth h1 h2 h3 h4 h5 h6)
theorem mst_w (σ : Sg) (n : Nat) (w w' : Int32) (o q : Nat) (s : List Int32) : up (mst σ n w o q s) 135 15 w' = mst σ n w' o q s :=
  mst_of (fun k h1 h2 => by rw [up_ne _ _ _ h1]; exact mst_ne h1 h2) rfl rfl rfl rfl rfl rfl rfl (fun j h1 h2 h3 h4 h5 h6 => by
    rw [up_at, upd_ne _ _ h4]; exact mst_oth h1 h2 h3 h4 h5 h6)
theorem mst_o {σ : Sg} {n : Nat} {w : Int32} {o o' q : Nat} {s : List Int32} {x : Int32} (h : x = nI o') : up (mst σ n w o q s) 135 16 x = mst σ n w o' q s := by
  subst h
  exact mst_of (fun k h1 h2 => by rw [up_ne _ _ _ h1]; exact mst_ne h1 h2) rfl rfl rfl rfl rfl rfl rfl (fun j h1 h2 h3 h4 h5 h6 => by
    rw [up_at, upd_ne _ _ h5]; exact mst_oth h1 h2 h3 h4 h5 h6)
theorem putL_s (f : Nu) (s : List Int32) (v : Int32) : upd (putL f s) s.length v = putL f (s ++ [v]) := by
  funext j
  rw [upd_apply]
  unfold putL
  rw [List.length_append, List.length_singleton]
  by_cases h : j = s.length
  · rw [if_pos h, if_pos (by omega), h]
    simp [List.getD]
  · rw [if_neg h]
    by_cases h2 : j < s.length
    · rw [if_pos h2, if_pos (by omega)]
      simp only [List.getD, List.getElem?_append_left h2]
    · rw [if_neg h2, if_neg (by omega)]
theorem mst_e {σ : Sg} {n : Nat} {w : Int32} {o q : Nat} {s : List Int32} {v x : Int32} (h : x = nI (s.length + 1)) : up (up (mst σ n w o q s) 142 s.length v) 135 18 x = mst σ n w o q (s ++ [v]) := by
  subst h
  exact mst_of (fun k h1 h2 => by rw [up_ne _ _ _ h1, up_ne _ _ _ h2]; exact mst_ne h1 h2) (by rw [up_ne _ _ _ (by decide), up_at, mst_142, putL_s]) rfl rfl rfl rfl rfl (by rw [up_at, upd_at, List.length_append, List.length_singleton]) (fun j h1 h2 h3 h4 h5 h6 => by
    rw [up_at, upd_ne _ _ h6, up_ne _ _ _ (by decide)]; exact mst_oth h1 h2 h3 h4 h5 h6)
theorem c_isSign0 {d : Nat} (hd : 1 ≤ d) (σ : Sg) {n : Nat} (hn : σ 135 6 = nI n) (hn1 : n ≤ 100) (o : Nat) {q : Nat} (hq : q ≤ n) (s : List Int32) {c : Int32} (hc : c ≠ -1) : CB d mX12_isSign [.ref 135, .int c] ((mst σ n 0 o q s)) (sg (σ 140) n q = c) ((mst σ n 0 o q s)) := by
  refine con_of (by decide) (catL rfl) (Nat.le_of_ble_eq_true rfl) ?_
  intro μ ω C hr
  have C : Cx μ ω "TowFieldModel" cX12_isSign 2 d := C
  have hr : (mH μ).sig.returnType = some .boolean := hr
  show G μ ω (RQ μ ω (pB (sg (σ 140) n q = c) ((mst σ n 0 o q s)))) 0 [some (.ref 135), some (.int c)] [] (mk ((mst σ n 0 o q s))) 0 0
  refine g_al0n (pc := 0) C dX12_isSign_0 ?_
  refine s_getIv (pc := 1) (v := 0) C fX12_238 h135 rfl rfl dX12_isSign_1 ?_
  refine g_if_ne (pc := 4) (tgt := 32) C dX12_isSign_4 (by decide) (fun c => absurd c (by decide)) (fun _ => ?_)
  refine g_al0n (pc := 7) C dX12_isSign_7 ?_
  refine s_getIv (pc := 8) (v := sortS (σ 140) n q) C fX12_232 h135 rfl rfl dX12_isSign_8 ?_
  refine g_iconst (pc := 11) (v := 3) C dX12_isSign_11 (by decide) ?_
  refine g_icmp_ne (pc := 12) (tgt := 32) C dX12_isSign_12 (by decide) (fun c_12 => ?_) (fun c_12 => ?_)
  · refine g_iconst (pc := 32) (v := 0) C dX12_isSign_32 (by decide) ?_
    exact r_B0 C hr dX12_isSign_33 (by unfold sg; rw [if_neg c_12]; exact fun h => hc h.symm) rfl
  · refine g_al0n (pc := 15) C dX12_isSign_15 ?_
    refine s_getR (pc := 16) C fX12_22 h135 rfl dX12_isSign_16 ?_
    refine g_al0n (pc := 19) C dX12_isSign_19 ?_
    refine s_getIv (pc := 20) (v := nI ((stS (σ 140) n q))) C fX12_229 h135 rfl rfl dX12_isSign_20 ?_
    refine s_ialdv (pc := 23) (q := (stS (σ 140) n q)) (v := σ 140 ((stS (σ 140) n q))) C h140 rfl (by have := sort_lt (t := σ 140) hq (by rw [c_12]; decide); omega) (Nat.le_of_ble_eq_true rfl) rfl dX12_isSign_23 ?_
    refine g_il1n (pc := 24) C dX12_isSign_24 ?_
    refine g_icmp_ne (pc := 25) (tgt := 32) C dX12_isSign_25 (by decide) (fun c_25 => ?_) (fun c_25 => ?_)
    · refine g_iconst (pc := 32) (v := 0) C dX12_isSign_32 (by decide) ?_
      exact r_B0 C hr dX12_isSign_33 (by unfold sg; rw [if_pos c_12]; exact c_25) rfl
    · refine g_iconst (pc := 28) (v := 1) C dX12_isSign_28 (by decide) ?_
      refine g_goto (pc := 29) (tgt := 33) C dX12_isSign_29 (by decide) ?_
      exact r_B1 C hr dX12_isSign_33 (by unfold sg; rw [if_pos c_12]; exact c_25) rfl

theorem c_isSign1 {d : Nat} (hd : 1 ≤ d) (σ : Sg) (n o q : Nat) (s : List Int32) (c : Int32) : CB d mX12_isSign [.ref 135, .int c] ((mst σ n 1 o q s)) False ((mst σ n 1 o q s)) := by
  refine con_of (by decide) (catL rfl) (Nat.le_of_ble_eq_true rfl) ?_
  intro μ ω C hr
  have C : Cx μ ω "TowFieldModel" cX12_isSign 2 d := C
  have hr : (mH μ).sig.returnType = some .boolean := hr
  show G μ ω (RQ μ ω (pB False ((mst σ n 1 o q s)))) 0 [some (.ref 135), some (.int c)] [] (mk ((mst σ n 1 o q s))) 0 0
  refine g_al0n (pc := 0) C dX12_isSign_0 ?_
  refine s_getIv (pc := 1) (v := 1) C fX12_238 h135 rfl rfl dX12_isSign_1 ?_
  refine g_if_ne (pc := 4) (tgt := 32) C dX12_isSign_4 (by decide) (fun _ => ?_) (fun c => absurd c (by decide))
  refine g_iconst (pc := 32) (v := 0) C dX12_isSign_32 (by decide) ?_
  exact r_B0 C hr dX12_isSign_33 id rfl

theorem c_need1 {d : Nat} (hd : 6 ≤ d) (σ : Sg) {n : Nat} (hn : σ 135 6 = nI n) (hn1 : n ≤ 100) (o : Nat) {q : Nat} (hq : q ≤ n) (s : List Int32) : CQ d mX12_need [.ref 135, .int 1] ((mst σ n 0 o q s)) (fun τ => τ = (mst σ n 0 o (enS (σ 140) n q) s)) := by
  refine con_of (by decide) (catL rfl) (Nat.le_of_ble_eq_true rfl) ?_
  intro μ ω C hr
  have C : Cx μ ω "TowFieldModel" cX12_need 2 d := C
  have hr : (mH μ).sig.returnType = none := hr
  show G μ ω (RQ μ ω (pQ (fun τ => τ = (mst σ n 0 o (enS (σ 140) n q) s)))) 0 [some (.ref 135), some (.int 1)] [] (mk ((mst σ n 0 o q s))) 0 0
  refine g_al0n (pc := 0) C dX12_need_0 ?_
  refine g_al0n (pc := 1) C dX12_need_1 ?_
  refine s_getIv (pc := 2) (v := 0) C fX12_238 h135 rfl rfl dX12_need_2 ?_
  refine g_if_ne (pc := 5) (tgt := 12) C dX12_need_5 (by decide) (fun c => absurd c (by decide)) (fun _ => ?_)
  refine g_il1n (pc := 8) C dX12_need_8 ?_
  refine g_if_ne (pc := 9) (tgt := 16) C dX12_need_9 (by decide) (fun _ => ?_) (fun c => absurd c (by decide))
  refine g_iconst (pc := 16) (v := 0) C dX12_need_16 (by decide) ?_
  refine s_putZv (pc := 17) (σ' := (mst σ n 0 o q s)) C (by decide) pX12_238 h135 rfl (mst_w ..) dX12_need_17 ?_
  refine g_al0n (pc := 20) C dX12_need_20 ?_
  refine s_getIv (pc := 21) (v := 0) C fX12_238 h135 rfl rfl dX12_need_21 ?_
  refine g_if_ne (pc := 24) (tgt := 31) C dX12_need_24 (by decide) (fun c => absurd c (by decide)) (fun _ => ?_)
  refine g_al0n (pc := 27) C dX12_need_27 ?_
  refine s_VQ (pc := 28) (st := []) C h135 rfl (c_X12_nextToken (d := d - 1) (by omega) (mst σ n 0 o q s) (n := n) (q := enS (σ 140) n q) hn hn1 rfl (enS_le (t := σ 140) hq).2.1) (by omega) lX12_242 dX12_need_28 rfl (Nat.le_of_ble_eq_true rfl) rfl (fun τ hτ => ?_)
  rw [mst_tok] at hτ
  exact r_Q C hr dX12_need_31 hτ

theorem c_need0 {d : Nat} (hd : 1 ≤ d) (σ : Sg) (n o q : Nat) (s : List Int32) : CU d mX12_need [.ref 135, .int 0] ((mst σ n 0 o q s)) ((mst σ n 1 o q s)) := by
  refine con_of (by decide) (catL rfl) (Nat.le_of_ble_eq_true rfl) ?_
  intro μ ω C hr
  have C : Cx μ ω "TowFieldModel" cX12_need 2 d := C
  have hr : (mH μ).sig.returnType = none := hr
  show G μ ω (RQ μ ω (pU ((mst σ n 1 o q s)))) 0 [some (.ref 135), some (.int 0)] [] (mk ((mst σ n 0 o q s))) 0 0
  refine g_al0n (pc := 0) C dX12_need_0 ?_
  refine g_al0n (pc := 1) C dX12_need_1 ?_
  refine s_getIv (pc := 2) (v := 0) C fX12_238 h135 rfl rfl dX12_need_2 ?_
  refine g_if_ne (pc := 5) (tgt := 12) C dX12_need_5 (by decide) (fun c => absurd c (by decide)) (fun _ => ?_)
  refine g_il1n (pc := 8) C dX12_need_8 ?_
  refine g_if_ne (pc := 9) (tgt := 16) C dX12_need_9 (by decide) (fun c => absurd c (by decide)) (fun _ => ?_)
  refine g_iconst (pc := 12) (v := 1) C dX12_need_12 (by decide) ?_
  refine g_goto (pc := 13) (tgt := 17) C dX12_need_13 (by decide) ?_
  refine s_putZv (pc := 17) (σ' := (mst σ n 1 o q s)) C (by decide) pX12_238 h135 rfl (mst_w ..) dX12_need_17 ?_
  refine g_al0n (pc := 20) C dX12_need_20 ?_
  refine s_getIv (pc := 21) (v := 1) C fX12_238 h135 rfl rfl dX12_need_21 ?_
  refine g_if_ne (pc := 24) (tgt := 31) C dX12_need_24 (by decide) (fun _ => ?_) (fun c => absurd c (by decide))
  exact r_U C hr dX12_need_31 rfl

theorem c_needW0 {d : Nat} (hd : 1 ≤ d) (σ : Sg) (n o q : Nat) (s : List Int32) : CU d mX12_need [.ref 135, .int 0] ((mst σ n 1 o q s)) ((mst σ n 1 o q s)) := by
  refine con_of (by decide) (catL rfl) (Nat.le_of_ble_eq_true rfl) ?_
  intro μ ω C hr
  have C : Cx μ ω "TowFieldModel" cX12_need 2 d := C
  have hr : (mH μ).sig.returnType = none := hr
  show G μ ω (RQ μ ω (pU ((mst σ n 1 o q s)))) 0 [some (.ref 135), some (.int 0)] [] (mk ((mst σ n 1 o q s))) 0 0
  refine g_al0n (pc := 0) C dX12_need_0 ?_
  refine g_al0n (pc := 1) C dX12_need_1 ?_
  refine s_getIv (pc := 2) (v := 1) C fX12_238 h135 rfl rfl dX12_need_2 ?_
  refine g_if_ne (pc := 5) (tgt := 12) C dX12_need_5 (by decide) (fun _ => ?_) (fun c => absurd c (by decide))
  refine g_iconst (pc := 12) (v := 1) C dX12_need_12 (by decide) ?_
  refine g_goto (pc := 13) (tgt := 17) C dX12_need_13 (by decide) ?_
  refine s_putZv (pc := 17) (σ' := (mst σ n 1 o q s)) C (by decide) pX12_238 h135 rfl (mst_w ..) dX12_need_17 ?_
  refine g_al0n (pc := 20) C dX12_need_20 ?_
  refine s_getIv (pc := 21) (v := 1) C fX12_238 h135 rfl rfl dX12_need_21 ?_
  refine g_if_ne (pc := 24) (tgt := 31) C dX12_need_24 (by decide) (fun _ => ?_) (fun c => absurd c (by decide))
  exact r_U C hr dX12_need_31 rfl

theorem c_needW1 {d : Nat} (hd : 1 ≤ d) (σ : Sg) (n o q : Nat) (s : List Int32) : CU d mX12_need [.ref 135, .int 1] ((mst σ n 1 o q s)) ((mst σ n 1 o q s)) := by
  refine con_of (by decide) (catL rfl) (Nat.le_of_ble_eq_true rfl) ?_
  intro μ ω C hr
  have C : Cx μ ω "TowFieldModel" cX12_need 2 d := C
  have hr : (mH μ).sig.returnType = none := hr
  show G μ ω (RQ μ ω (pU ((mst σ n 1 o q s)))) 0 [some (.ref 135), some (.int 1)] [] (mk ((mst σ n 1 o q s))) 0 0
  refine g_al0n (pc := 0) C dX12_need_0 ?_
  refine g_al0n (pc := 1) C dX12_need_1 ?_
  refine s_getIv (pc := 2) (v := 1) C fX12_238 h135 rfl rfl dX12_need_2 ?_
  refine g_if_ne (pc := 5) (tgt := 12) C dX12_need_5 (by decide) (fun _ => ?_) (fun c => absurd c (by decide))
  refine g_iconst (pc := 12) (v := 1) C dX12_need_12 (by decide) ?_
  refine g_goto (pc := 13) (tgt := 17) C dX12_need_13 (by decide) ?_
  refine s_putZv (pc := 17) (σ' := (mst σ n 1 o q s)) C (by decide) pX12_238 h135 rfl (mst_w ..) dX12_need_17 ?_
  refine g_al0n (pc := 20) C dX12_need_20 ?_
  refine s_getIv (pc := 21) (v := 1) C fX12_238 h135 rfl rfl dX12_need_21 ?_
  refine g_if_ne (pc := 24) (tgt := 31) C dX12_need_24 (by decide) (fun _ => ?_) (fun c => absurd c (by decide))
  exact r_U C hr dX12_need_31 rfl

theorem c_emit0 {d : Nat} (hd : 1 ≤ d) (σ : Sg) (n o q : Nat) (s : List Int32) (hs : s.length < 200) (v : Int32) : CU d mX12_emit [.ref 135, .int v] ((mst σ n 0 o q s)) ((mst σ n 0 o q (s ++ [v]))) := by
  refine con_of (by decide) (catL rfl) (Nat.le_of_ble_eq_true rfl) ?_
  intro μ ω C hr
  have C : Cx μ ω "TowFieldModel" cX12_emit 2 d := C
  have hr : (mH μ).sig.returnType = none := hr
  show G μ ω (RQ μ ω (pU ((mst σ n 0 o q (s ++ [v]))))) 0 [some (.ref 135), some (.int v)] [] (mk ((mst σ n 0 o q s))) 0 0
  refine g_al0n (pc := 0) C dX12_emit_0 ?_
  refine s_getIv (pc := 1) (v := 0) C fX12_238 h135 rfl rfl dX12_emit_1 ?_
  refine g_if_ne (pc := 4) (tgt := 27) C dX12_emit_4 (by decide) (fun c => absurd c (by decide)) (fun _ => ?_)
  refine g_al0n (pc := 7) C dX12_emit_7 ?_
  refine s_getR (pc := 8) C fX12_39 h135 rfl dX12_emit_8 ?_
  refine g_al0n (pc := 11) C dX12_emit_11 ?_
  refine s_getIv (pc := 12) (v := nI s.length) C fX12_252 h135 rfl rfl dX12_emit_12 ?_
  refine g_il1n (pc := 15) C dX12_emit_15 ?_
  refine s_iast (pc := 16) (q := s.length) C h142 rfl (by omega) (Nat.le_of_ble_eq_true rfl) dX12_emit_16 ?_
  refine g_al0n (pc := 17) C dX12_emit_17 ?_
  refine g_dup (pc := 18) C dX12_emit_18 rfl ?_
  refine s_getIv (pc := 19) (v := nI s.length) C fX12_252 h135 rfl rfl dX12_emit_19 ?_
  refine g_iconst (pc := 22) (v := 1) C dX12_emit_22 (by decide) ?_
  refine g_iadd (pc := 23) C dX12_emit_23 ?_
  refine s_putIv (pc := 24) (σ' := (mst σ n 0 o q (s ++ [v]))) C pX12_252 h135 rfl (mst_e (by rw [nI_succ])) dX12_emit_24 ?_
  exact r_U C hr dX12_emit_27 rfl

theorem c_emit1 {d : Nat} (hd : 1 ≤ d) (σ : Sg) (n o q : Nat) (s : List Int32) (v : Int32) : CU d mX12_emit [.ref 135, .int v] ((mst σ n 1 o q s)) ((mst σ n 1 o q s)) := by
  refine con_of (by decide) (catL rfl) (Nat.le_of_ble_eq_true rfl) ?_
  intro μ ω C hr
  have C : Cx μ ω "TowFieldModel" cX12_emit 2 d := C
  have hr : (mH μ).sig.returnType = none := hr
  show G μ ω (RQ μ ω (pU ((mst σ n 1 o q s)))) 0 [some (.ref 135), some (.int v)] [] (mk ((mst σ n 1 o q s))) 0 0
  refine g_al0n (pc := 0) C dX12_emit_0 ?_
  refine s_getIv (pc := 1) (v := 1) C fX12_238 h135 rfl rfl dX12_emit_1 ?_
  refine g_if_ne (pc := 4) (tgt := 27) C dX12_emit_4 (by decide) (fun _ => ?_) (fun c => absurd c (by decide))
  exact r_U C hr dX12_emit_27 rfl

theorem wdB_iff (t : Nu) : ∀ (w : List Int32) (s : Nat), wdB t s w = true ↔ ∀ j, j < w.length → t (s + j) = w.getD j 0 := by
  intro w
  induction w with
  | nil => intro s; exact ⟨fun _ j hj => absurd hj (by simp), fun _ => rfl⟩
  | cons c r ih =>
    intro s
    show (decide (t s = c) && wdB t (s + 1) r) = true ↔ _
    rw [Bool.and_eq_true, decide_eq_true_eq, ih (s + 1)]
    constructor
    · rintro ⟨h1, h2⟩ j hj
      cases j with
      | zero => exact h1
      | succ j =>
        have := h2 j (by simpa using hj)
        rw [show s + (j + 1) = s + 1 + j by omega]
        exact this
    · intro h
      refine ⟨h 0 (by simp), fun j hj => ?_⟩
      have := h (j + 1) (by simpa using hj)
      rw [show s + (j + 1) = s + 1 + j by omega] at this
      exact this
theorem lp_isWord {μ : Mx} {ω : Om} {d : Nat} (hd : 5 ≤ d) (C : Cx μ ω "TowFieldModel" cX12_isWord 4 d) (hr : (mH μ).sig.returnType = some .boolean) (σ : Sg) {n : Nat} (hn : σ 135 6 = nI n) (hn1 : n ≤ 100) (o : Nat) {q : Nat} (hq : q ≤ n) (s : List Int32) {x : String × Nat × String × List Int32} {j : Nat} (hx : sxL[j]? = some x) (h1 : sortS (σ 140) n q = 1) (h2 : enS (σ 140) n q - stS (σ 140) n q = x.2.2.2.length) : ∀ (f i : Nat), i + f = x.2.2.2.length → (∀ j, j < i → σ 140 (stS (σ 140) n q + j) = x.2.2.2.getD j 0) → G μ ω (RQ μ ω (pB (isWd (σ 140) n q x.2.2.2 = true) (mst σ n 0 o q s))) 39 [some (.ref 135), some (.ref (100100 + j)), some (.int 1), some (.int (nI i))] [] (mk ((mst σ n 0 o q s))) 0 0 := by
  intro f
  induction f with
  | zero =>
    intro i hif hv
    have hin : i = x.2.2.2.length := by omega
    have hxl := sx_len x (List.mem_of_getElem? hx)
    refine g_il2n (pc := 39) C dX12_isWord_39 ?_
    refine g_if_eq (pc := 40) (tgt := 82) C dX12_isWord_40 (by decide) (fun c => absurd c (by decide)) (fun _ => ?_)
    refine g_il3n (pc := 43) C dX12_isWord_43 ?_
    refine g_al1n (pc := 44) C dX12_isWord_44 ?_
    refine s_XI (pc := 45) (st := [(.int (nI i))]) C hx rfl (c_length (d := d - 1) (by omega) ((mst σ n 0 o q s)) hx) (by omega) lX12_245 dX12_isWord_45 rfl (Nat.le_of_ble_eq_true rfl) rfl ?_
    refine g_icmp_geL (pc := 48) (tgt := 82) C dX12_isWord_48 (by decide) (fun c_48 => ?_) (fun c_48 => absurd c_48 (nI_nlt (by omega) (by omega)))
    refine g_il2n (pc := 82) C dX12_isWord_82 ?_
    exact r_B1 C hr dX12_isWord_83 (isWd_i.mpr ⟨h1, h2, (wdB_iff _ _ _).mpr (fun j hj => hv j (by omega))⟩) rfl
  | succ f ih =>
    intro i hif hv
    have hxl := sx_len x (List.mem_of_getElem? hx)
    have he1 := enS_le (t := σ 140) hq
    refine g_il2n (pc := 39) C dX12_isWord_39 ?_
    refine g_if_eq (pc := 40) (tgt := 82) C dX12_isWord_40 (by decide) (fun c => absurd c (by decide)) (fun _ => ?_)
    refine g_il3n (pc := 43) C dX12_isWord_43 ?_
    refine g_al1n (pc := 44) C dX12_isWord_44 ?_
    refine s_XI (pc := 45) (st := [(.int (nI i))]) C hx rfl (c_length (d := d - 1) (by omega) ((mst σ n 0 o q s)) hx) (by omega) lX12_245 dX12_isWord_45 rfl (Nat.le_of_ble_eq_true rfl) rfl ?_
    refine g_icmp_geL (pc := 48) (tgt := 82) C dX12_isWord_48 (by decide) (fun c_48 => absurd (nI_lt (by omega) (by omega)) c_48) (fun c_48 => ?_)
    refine g_al0n (pc := 51) C dX12_isWord_51 ?_
    refine s_getR (pc := 52) C fX12_22 h135 rfl dX12_isWord_52 ?_
    refine g_al0n (pc := 55) C dX12_isWord_55 ?_
    refine s_getIv (pc := 56) (v := nI ((stS (σ 140) n q))) C fX12_229 h135 rfl rfl dX12_isWord_56 ?_
    refine g_il3n (pc := 59) C dX12_isWord_59 ?_
    refine g_iadd (pc := 60) C dX12_isWord_60 ?_
    refine s_ialdv (pc := 61) (q := ((stS (σ 140) n q)) + i) (v := σ 140 (((stS (σ 140) n q)) + i)) C h140 (by first | (simp only [ixl, nI_add, pk_mul]; done) | rfl | decide) (by omega) (Nat.le_of_ble_eq_true rfl) rfl dX12_isWord_61 ?_
    refine g_al1n (pc := 62) C dX12_isWord_62 ?_
    refine g_il3n (pc := 63) C dX12_isWord_63 ?_
    refine s_XI (pc := 64) (st := [(.int (σ 140 (((stS (σ 140) n q)) + i)))]) C hx rfl (c_charAt (d := d - 1) (by omega) ((mst σ n 0 o q s)) hx (i := i) (by omega)) (by omega) lX12_248 dX12_isWord_64 rfl (Nat.le_of_ble_eq_true rfl) rfl ?_
    refine g_icmp_ne (pc := 67) (tgt := 74) C dX12_isWord_67 (by decide) (fun c_67 => ?_) (fun c_67 => ?_)
    · refine g_iconst (pc := 74) (v := 0) C dX12_isWord_74 (by decide) ?_
      refine g_is2n (pc := 75) C dX12_isWord_75 ?_
      refine g_ii3 (pc := 76) (v := nI (i + 1)) C dX12_isWord_76 (nI_inc1 _) ?_
      refine g_goto (pc := 79) (tgt := 39) C dX12_isWord_79 (by decide) ?_
      refine g_il2n (pc := 39) C dX12_isWord_39 ?_
      refine g_if_eq (pc := 40) (tgt := 82) C dX12_isWord_40 (by decide) (fun _ => ?_) (fun c => absurd c (by decide))
      refine g_il2n (pc := 82) C dX12_isWord_82 ?_
      exact r_B0 C hr dX12_isWord_83 (fun z => c_67 ((wdB_iff _ _ _).mp (isWd_i.mp z).2.2 i (by omega))) rfl
    · refine g_iconst (pc := 70) (v := 1) C dX12_isWord_70 (by decide) ?_
      refine g_goto (pc := 71) (tgt := 75) C dX12_isWord_71 (by decide) ?_
      refine g_is2n (pc := 75) C dX12_isWord_75 ?_
      refine g_ii3 (pc := 76) (v := nI (i + 1)) C dX12_isWord_76 (nI_inc1 _) ?_
      refine g_goto (pc := 79) (tgt := 39) C dX12_isWord_79 (by decide) ?_
      refine ih (i + 1) (by omega) (fun j hj => ?_)
      by_cases e : j = i
      · subst e; exact c_67
      · exact hv j (by omega)

theorem c_isWord0 {d : Nat} (hd : 5 ≤ d) (σ : Sg) {n : Nat} (hn : σ 135 6 = nI n) (hn1 : n ≤ 100) (o : Nat) {q : Nat} (hq : q ≤ n) (s : List Int32) {x : String × Nat × String × List Int32} {j : Nat} (hx : sxL[j]? = some x) : CB d mX12_isWord [.ref 135, .ref (100100 + j)] ((mst σ n 0 o q s)) (isWd (σ 140) n q x.2.2.2 = true) ((mst σ n 0 o q s)) := by
  have hxl := sx_len x (List.mem_of_getElem? hx)
  have he1 := enS_le (t := σ 140) hq
  have hsub : nI (enS (σ 140) n q) - nI (stS (σ 140) n q) = nI x.2.2.2.length ↔ enS (σ 140) n q - stS (σ 140) n q = x.2.2.2.length := by
    rw [nI_sub he1.1]; exact nI_eq (by omega) (by omega)
  refine con_of (by decide) (catL rfl) (Nat.le_of_ble_eq_true rfl) ?_
  intro μ ω C hr
  have C : Cx μ ω "TowFieldModel" cX12_isWord 4 d := C
  have hr : (mH μ).sig.returnType = some .boolean := hr
  show G μ ω (RQ μ ω (pB (isWd (σ 140) n q x.2.2.2 = true) ((mst σ n 0 o q s)))) 0 [some (.ref 135), some (.ref (100100 + j)), none, none] [] (mk ((mst σ n 0 o q s))) 0 0
  refine g_al0n (pc := 0) C dX12_isWord_0 ?_
  refine s_getIv (pc := 1) (v := 0) C fX12_238 h135 rfl rfl dX12_isWord_1 ?_
  refine g_if_ne (pc := 4) (tgt := 35) C dX12_isWord_4 (by decide) (fun c => absurd c (by decide)) (fun _ => ?_)
  refine g_al0n (pc := 7) C dX12_isWord_7 ?_
  refine s_getIv (pc := 8) (v := sortS (σ 140) n q) C fX12_232 h135 rfl rfl dX12_isWord_8 ?_
  refine g_iconst (pc := 11) (v := 1) C dX12_isWord_11 (by decide) ?_
  refine g_icmp_ne (pc := 12) (tgt := 35) C dX12_isWord_12 (by decide) (fun c_12 => ?_) (fun c_12 => ?_)
  · refine g_iconst (pc := 35) (v := 0) C dX12_isWord_35 (by decide) ?_
    refine g_is2n (pc := 36) C dX12_isWord_36 ?_
    refine g_iconst (pc := 37) (v := 0) C dX12_isWord_37 (by decide) ?_
    refine g_is3n (pc := 38) C dX12_isWord_38 ?_
    refine g_il2n (pc := 39) C dX12_isWord_39 ?_
    refine g_if_eq (pc := 40) (tgt := 82) C dX12_isWord_40 (by decide) (fun _ => ?_) (fun c => absurd c (by decide))
    refine g_il2n (pc := 82) C dX12_isWord_82 ?_
    exact r_B0 C hr dX12_isWord_83 (fun z => c_12 (isWd_i.mp z).1) rfl
  · refine g_al0n (pc := 15) C dX12_isWord_15 ?_
    refine s_getIv (pc := 16) (v := nI ((enS (σ 140) n q))) C fX12_226 h135 rfl rfl dX12_isWord_16 ?_
    refine g_al0n (pc := 19) C dX12_isWord_19 ?_
    refine s_getIv (pc := 20) (v := nI ((stS (σ 140) n q))) C fX12_229 h135 rfl rfl dX12_isWord_20 ?_
    refine g_isub (pc := 23) C dX12_isWord_23 ?_
    refine g_al1n (pc := 24) C dX12_isWord_24 ?_
    refine s_XI (pc := 25) (st := [(.int ((nI ((enS (σ 140) n q))) - (nI ((stS (σ 140) n q)))))]) C hx rfl (c_length (d := d - 1) (by omega) ((mst σ n 0 o q s)) hx) (by omega) lX12_245 dX12_isWord_25 rfl (Nat.le_of_ble_eq_true rfl) rfl ?_
    refine g_icmp_ne (pc := 28) (tgt := 35) C dX12_isWord_28 (by decide) (fun c_28 => ?_) (fun c_28 => ?_)
    · refine g_iconst (pc := 35) (v := 0) C dX12_isWord_35 (by decide) ?_
      refine g_is2n (pc := 36) C dX12_isWord_36 ?_
      refine g_iconst (pc := 37) (v := 0) C dX12_isWord_37 (by decide) ?_
      refine g_is3n (pc := 38) C dX12_isWord_38 ?_
      refine g_il2n (pc := 39) C dX12_isWord_39 ?_
      refine g_if_eq (pc := 40) (tgt := 82) C dX12_isWord_40 (by decide) (fun _ => ?_) (fun c => absurd c (by decide))
      refine g_il2n (pc := 82) C dX12_isWord_82 ?_
      exact r_B0 C hr dX12_isWord_83 (fun z => c_28 (hsub.mpr (isWd_i.mp z).2.1)) rfl
    · refine g_iconst (pc := 31) (v := 1) C dX12_isWord_31 (by decide) ?_
      refine g_goto (pc := 32) (tgt := 36) C dX12_isWord_32 (by decide) ?_
      refine g_is2n (pc := 36) C dX12_isWord_36 ?_
      refine g_iconst (pc := 37) (v := 0) C dX12_isWord_37 (by decide) ?_
      refine g_is3n (pc := 38) C dX12_isWord_38 ?_
      exact lp_isWord hd C hr σ hn hn1 o hq s hx c_12 (hsub.mp c_28) x.2.2.2.length 0 (by omega) (fun j hj => absurd hj (by omega))

theorem c_isWord1 {d : Nat} (hd : 5 ≤ d) (σ : Sg) (n o q : Nat) (s : List Int32) (j : Nat) : CB d mX12_isWord [.ref 135, .ref (100100 + j)] ((mst σ n 1 o q s)) False ((mst σ n 1 o q s)) := by
  refine con_of (by decide) (catL rfl) (Nat.le_of_ble_eq_true rfl) ?_
  intro μ ω C hr
  have C : Cx μ ω "TowFieldModel" cX12_isWord 4 d := C
  have hr : (mH μ).sig.returnType = some .boolean := hr
  show G μ ω (RQ μ ω (pB False ((mst σ n 1 o q s)))) 0 [some (.ref 135), some (.ref (100100 + j)), none, none] [] (mk ((mst σ n 1 o q s))) 0 0
  refine g_al0n (pc := 0) C dX12_isWord_0 ?_
  refine s_getIv (pc := 1) (v := 1) C fX12_238 h135 rfl rfl dX12_isWord_1 ?_
  refine g_if_ne (pc := 4) (tgt := 35) C dX12_isWord_4 (by decide) (fun _ => ?_) (fun c => absurd c (by decide))
  refine g_iconst (pc := 35) (v := 0) C dX12_isWord_35 (by decide) ?_
  refine g_is2n (pc := 36) C dX12_isWord_36 ?_
  refine g_iconst (pc := 37) (v := 0) C dX12_isWord_37 (by decide) ?_
  refine g_is3n (pc := 38) C dX12_isWord_38 ?_
  refine g_il2n (pc := 39) C dX12_isWord_39 ?_
  refine g_if_eq (pc := 40) (tgt := 82) C dX12_isWord_40 (by decide) (fun _ => ?_) (fun c => absurd c (by decide))
  refine g_il2n (pc := 82) C dX12_isWord_82 ?_
  exact r_B0 C hr dX12_isWord_83 id rfl

