/-! ===== the law from its entry on ===== -/
theorem nwL_7 : NWf "TowFieldLaw" 7 10 [.null, .null, .null, .null, .null, .null, .null, .int 0] := ⟨RX11, TX11, 8, tyX11, rfl, rfl, inW_X11, tyX11_ok, TW_of (List.mem_of_getElem? (i := 99) (by decide +kernel)) rfl, TW_of (List.mem_of_getElem? (i := 100) (by decide +kernel)) rfl, TW_of (List.mem_of_getElem? (i := 78) (by decide +kernel)) rfl, fun j hj => by rcases (show j = 0 ∨ j = 1 ∨ j = 2 ∨ j = 3 ∨ j = 4 ∨ j = 5 ∨ j = 6 ∨ j = 7 by omega) with rfl | rfl | rfl | rfl | rfl | rfl | rfl | rfl <;> rfl, fun ω => rfl⟩
theorem nwL_10 : NWf "TowFieldLaw" 10 11 [.null, .null, .null, .int 0, .null, .null, .int 0, .int 0, .int 0, .int 0, .int 0, .null, .int 0, .int 0, .int 0, .int 0, .int 0, .null, .int 0, .null, .null, .null, .null, .null] := ⟨RX12, TX12, 24, tyX12, rfl, rfl, inW_X12, tyX12_ok, TW_of (List.mem_of_getElem? (i := 1182) (by decide +kernel)) rfl, TW_of (List.mem_of_getElem? (i := 1183) (by decide +kernel)) rfl, TW_of (List.mem_of_getElem? (i := 89) (by decide +kernel)) rfl, fun j hj => by rcases (show j = 0 ∨ j = 1 ∨ j = 2 ∨ j = 3 ∨ j = 4 ∨ j = 5 ∨ j = 6 ∨ j = 7 ∨ j = 8 ∨ j = 9 ∨ j = 10 ∨ j = 11 ∨ j = 12 ∨ j = 13 ∨ j = 14 ∨ j = 15 ∨ j = 16 ∨ j = 17 ∨ j = 18 ∨ j = 19 ∨ j = 20 ∨ j = 21 ∨ j = 22 ∨ j = 23 by omega) with rfl | rfl | rfl | rfl | rfl | rfl | rfl | rfl | rfl | rfl | rfl | rfl | rfl | rfl | rfl | rfl | rfl | rfl | rfl | rfl | rfl | rfl | rfl | rfl <;> rfl, fun ω => rfl⟩
theorem kiL_9 : MLi "TowFieldLaw" 9 mX11_init 0 := ⟨TW_of (List.mem_of_getElem? (i := 101) (by decide +kernel)) rfl, TW_of (List.mem_of_getElem? (i := 102) (by decide +kernel)) rfl, rfl, rfl, qX11_init⟩
theorem kiL_12 : MLi "TowFieldLaw" 12 mX12_init 0 := ⟨TW_of (List.mem_of_getElem? (i := 1184) (by decide +kernel)) rfl, TW_of (List.mem_of_getElem? (i := 1185) (by decide +kernel)) rfl, rfl, rfl, qX12_init⟩
set_option maxHeartbeats 2000000 in
theorem law_go {μ : Mx} {ω : Om} {d : Nat} {f : Nat → AE} (C : Cx μ ω "TowFieldLaw" cL_law 4 d) (hz : Sz μ ω 0) (hd : 700 ≤ d) (hc : 148 ≤ (mR μ).cells) (hk : 5929 ≤ (mR μ).slots) {Q : State → Prop} (hEnd : ∀ (σ : Sg) (lv : List (Option Value)), G μ ω Q 1584 lv [.int 1] (mk σ) 148 5929) (hLL : oL ω ≤ 384) : G μ ω Q 0 [some (.ref 100300), none, none, none] [] (hp 0 f) 0 0 := by
  refine k_newv (pc := 0) (N := 0) (s := 8) C hz rfl (by decide) nwL_7 rfl (by omega) (by omega) dL_law_0 ?_
  refine g_dup (pc := 3) C dL_law_3 rfl ?_
  refine k_callI (pc := 4) (st := [.ref 0]) C hz (K_X11 (d := d - 1) (by omega) (fu_at f 0 _)) (by omega) (by omega) (by omega) kiL_9 dL_law_4 rfl (Nat.le_of_ble_eq_true rfl) (by omega) (by omega) rfl (fun h_1 w_1 => ?_)
  obtain ⟨g, rfl, hb1, -⟩ := w_1
  refine g_as1n (pc := 7) C dL_law_7 ?_
  refine k_newv (pc := 8) (N := 135) (s := 24) C hz (by omega) (by decide) nwL_10 rfl (by omega) (by omega) dL_law_8 ?_
  refine g_dup (pc := 11) C dL_law_11 rfl ?_
  refine k_callI (pc := 12) (st := [.ref 135]) C hz (K_X12 (d := d - 1) (by omega) (fu_at g 135 _)) (by omega) (by omega) (by omega) kiL_12 dL_law_12 rfl (Nat.le_of_ble_eq_true rfl) (by omega) (by omega) rfl (fun h_2 w_2 => ?_)
  obtain ⟨g', rfl, hb2, hf2⟩ := w_2
  refine g_as2n (pc := 15) C dL_law_15 ?_
  refine g_iconst (pc := 16) (v := 0) C dL_law_16 (by decide) ?_
  refine g_is3n (pc := 17) C dL_law_17 ?_
  rw [mk_start hb1 hb2 (fun k hk => (hf2 k hk).trans (fu_ne _ _ (by omega)))]
  exact lp_law C hd hc hk hEnd hLL (oL ω) 0 σ0 (by omega) (by decide) ⟨RC_start, IA_start, MT_start⟩
