/-! ===== the constructors ===== -/
theorem fm_at (f : Nat → AE) (N r m : Nat) : fm f N r m N = .inr (.inl (1, r, rowsOf N r)) := if_pos rfl
theorem fm_row (f : Nat → AE) {N r m k : Nat} (h : N < k ∧ k ≤ N + r) : fm f N r m k = .inl (m, fun _ => 0) := by unfold fm; rw [if_neg (by omega), if_pos h]
theorem fm_ne (f : Nat → AE) {N r m k : Nat} (h : k < N ∨ N + r < k) : fm f N r m k = f k := by unfold fm; rw [if_neg (by omega), if_neg (by omega)]
theorem k_ialdA {μ : Mx} {ω : Om} {Q : State → Prop} {own : String} {cc : ByteArray} {nL d pc n k j : Nat} {lv : List (Option Value)} {st : List Value} {h : AH} (C : Cx μ ω own cc nL d) {q : String × String × List Int32} (hq : axL[j]? = some q) {i v : Int32} (hi : vp_in i q.2.2.length) (hv : q.2.2.getD i.toNatClampNeg 0 = v) (hd : decode cc pc = .ok (.iaload, 1)) (kk : G μ ω Q (pc + 1) lv (.int v :: st) h n k) : G μ ω Q pc lv (.int i :: .ref (100000 + j) :: st) h n k := by
  subst hv
  exact g_ialdA C hq hi hd kk
theorem k_iastv {μ : Mx} {ω : Om} {Q : State → Prop} {own : String} {cc : ByteArray} {nL d pc n k a N : Nat} {lv : List (Option Value)} {st : List Value} {f : Nat → AE} (C : Cx μ ω own cc nL d) {m q : Nat} {g : Nat → Int32} {i x w : Int32} (hx : x = w) (ha : a < N) (he : f a = .inl (m, g)) (hi : i = nI q) (hq : q < m) (hm : m ≤ 1000) (hd : decode cc pc = .ok (.iastore, 1)) (kk : G μ ω Q (pc + 1) lv st (hp N (fu f a (.inl (m, upd g q w)))) n k) : G μ ω Q pc lv (.int x :: .int i :: .ref a :: st) (hp N f) n k := by
  subst hx
  exact k_iast C ha he hi hq hm hd kk
theorem k_newv {μ : Mx} {ω : Om} {Q : State → Prop} {own : String} {cc : ByteArray} {nL d pc n k L N idx ci s : Nat} {lv : List (Option Value)} {st : List Value} {f : Nat → AE} (C : Cx μ ω own cc nL d) (hz : Sz μ ω L) (hl : N = L + n) (h148 : N < 148) {fs : List Value} (hF : NWf own idx ci fs) (hs : fs.length = s) (hc : n + 1 ≤ (mR μ).cells) (hk : k + s ≤ (mR μ).slots) (hd : decode cc pc = .ok (.new idx, 3))
    (kk : G μ ω Q (pc + 3) lv (.ref N :: st) (hp (N + 1) (fu f N (.inr (.inr (ci, fs))))) (n + 1) (k + s)) : G μ ω Q pc lv st (hp N f) n k := by
  subst hs
  exact k_new C hz hl h148 hF hc hk hd kk
theorem obX1_1 : Cond.methodLink "TowField$Gliders" 1 Lib.objectInit ∈ TW := TW_of (List.mem_of_getElem? (i := 140) (by decide +kernel)) rfl
theorem uX1_9 : FLq "TowField$Gliders" 9 1 0 (.array .int) := ⟨RX1, TX1, 6, tyX1, rfl, inW_X1, tyX1_ok, nmX1, by decide, TW_of (List.mem_of_getElem? (i := 141) (by decide +kernel)) rfl, rfl, rfl, by decide +kernel⟩
theorem uX1_13 : FLq "TowField$Gliders" 13 1 1 (.array .int) := ⟨RX1, TX1, 6, tyX1, rfl, inW_X1, tyX1_ok, nmX1, by decide, TW_of (List.mem_of_getElem? (i := 143) (by decide +kernel)) rfl, rfl, rfl, by decide +kernel⟩
theorem uX1_16 : FLq "TowField$Gliders" 16 1 2 (.array .int) := ⟨RX1, TX1, 6, tyX1, rfl, inW_X1, tyX1_ok, nmX1, by decide, TW_of (List.mem_of_getElem? (i := 145) (by decide +kernel)) rfl, rfl, rfl, by decide +kernel⟩
theorem uX1_19 : FLq "TowField$Gliders" 19 1 3 (.array .int) := ⟨RX1, TX1, 6, tyX1, rfl, inW_X1, tyX1_ok, nmX1, by decide, TW_of (List.mem_of_getElem? (i := 147) (by decide +kernel)) rfl, rfl, rfl, by decide +kernel⟩
theorem obX4_1 : Cond.methodLink "TowField$People" 1 Lib.objectInit ∈ TW := TW_of (List.mem_of_getElem? (i := 171) (by decide +kernel)) rfl
theorem uX4_9 : FLq "TowField$People" 9 3 0 (.array .int) := ⟨RX4, TX4, 6, tyX4, rfl, inW_X4, tyX4_ok, nmX4, by decide, TW_of (List.mem_of_getElem? (i := 172) (by decide +kernel)) rfl, rfl, rfl, by decide +kernel⟩
theorem uX4_13 : FLq "TowField$People" 13 3 1 (.array .int) := ⟨RX4, TX4, 6, tyX4, rfl, inW_X4, tyX4_ok, nmX4, by decide, TW_of (List.mem_of_getElem? (i := 174) (by decide +kernel)) rfl, rfl, rfl, by decide +kernel⟩
theorem uX4_16 : FLq "TowField$People" 16 3 2 (.array .int) := ⟨RX4, TX4, 6, tyX4, rfl, inW_X4, tyX4_ok, nmX4, by decide, TW_of (List.mem_of_getElem? (i := 176) (by decide +kernel)) rfl, rfl, rfl, by decide +kernel⟩
theorem uX4_19 : FLq "TowField$People" 19 3 3 (.array .int) := ⟨RX4, TX4, 6, tyX4, rfl, inW_X4, tyX4_ok, nmX4, by decide, TW_of (List.mem_of_getElem? (i := 178) (by decide +kernel)) rfl, rfl, rfl, by decide +kernel⟩
theorem obX9_1 : Cond.methodLink "TowField$Winches" 1 Lib.objectInit ∈ TW := TW_of (List.mem_of_getElem? (i := 203) (by decide +kernel)) rfl
theorem uX9_9 : FLq "TowField$Winches" 9 8 0 (.array .int) := ⟨RX9, TX9, 3, tyX9, rfl, inW_X9, tyX9_ok, nmX9, by decide, TW_of (List.mem_of_getElem? (i := 204) (by decide +kernel)) rfl, rfl, rfl, by decide +kernel⟩
theorem uX9_13 : FLq "TowField$Winches" 13 8 1 (.array .int) := ⟨RX9, TX9, 3, tyX9, rfl, inW_X9, tyX9_ok, nmX9, by decide, TW_of (List.mem_of_getElem? (i := 206) (by decide +kernel)) rfl, rfl, rfl, by decide +kernel⟩
theorem obX5_1 : Cond.methodLink "TowField$Planes" 1 Lib.objectInit ∈ TW := TW_of (List.mem_of_getElem? (i := 222) (by decide +kernel)) rfl
theorem uX5_9 : FLq "TowField$Planes" 9 4 0 (.array .int) := ⟨RX5, TX5, 2, tyX5, rfl, inW_X5, tyX5_ok, nmX5, by decide, TW_of (List.mem_of_getElem? (i := 223) (by decide +kernel)) rfl, rfl, rfl, by decide +kernel⟩
theorem obX3_3 : Cond.methodLink "TowField$Lanes" 3 Lib.objectInit ∈ TW := TW_of (List.mem_of_getElem? (i := 237) (by decide +kernel)) rfl
theorem uX3_9 : FLq "TowField$Lanes" 9 2 0 (.array .int) := ⟨RX3, TX3, 6, tyX3, rfl, inW_X3, tyX3_ok, nmX3, by decide, TW_of (List.mem_of_getElem? (i := 238) (by decide +kernel)) rfl, rfl, rfl, by decide +kernel⟩
theorem uX3_13 : FLq "TowField$Lanes" 13 2 1 (.array .int) := ⟨RX3, TX3, 6, tyX3, rfl, inW_X3, tyX3_ok, nmX3, by decide, TW_of (List.mem_of_getElem? (i := 240) (by decide +kernel)) rfl, rfl, rfl, by decide +kernel⟩
theorem uX3_16 : FLq "TowField$Lanes" 16 2 2 (.array .int) := ⟨RX3, TX3, 6, tyX3, rfl, inW_X3, tyX3_ok, nmX3, by decide, TW_of (List.mem_of_getElem? (i := 243) (by decide +kernel)) rfl, rfl, rfl, by decide +kernel⟩
theorem uX3_19 : FLq "TowField$Lanes" 19 2 3 (.array .int) := ⟨RX3, TX3, 6, tyX3, rfl, inW_X3, tyX3_ok, nmX3, by decide, TW_of (List.mem_of_getElem? (i := 244) (by decide +kernel)) rfl, rfl, rfl, by decide +kernel⟩
theorem uX3_22 : FLq "TowField$Lanes" 22 2 4 (.array .int) := ⟨RX3, TX3, 6, tyX3, rfl, inW_X3, tyX3_ok, nmX3, by decide, TW_of (List.mem_of_getElem? (i := 245) (by decide +kernel)) rfl, rfl, rfl, by decide +kernel⟩
theorem obX0_1 : Cond.methodLink "TowField$Asks" 1 Lib.objectInit ∈ TW := TW_of (List.mem_of_getElem? (i := 266) (by decide +kernel)) rfl
theorem uX0_9 : FLq "TowField$Asks" 9 0 0 (.array .int) := ⟨RX0, TX0, 13, tyX0, rfl, inW_X0, tyX0_ok, nmX0, by decide, TW_of (List.mem_of_getElem? (i := 267) (by decide +kernel)) rfl, rfl, rfl, by decide +kernel⟩
theorem uX0_13 : FLq "TowField$Asks" 13 0 1 (.array .int) := ⟨RX0, TX0, 13, tyX0, rfl, inW_X0, tyX0_ok, nmX0, by decide, TW_of (List.mem_of_getElem? (i := 269) (by decide +kernel)) rfl, rfl, rfl, by decide +kernel⟩
theorem uX0_16 : FLq "TowField$Asks" 16 0 2 (.array .int) := ⟨RX0, TX0, 13, tyX0, rfl, inW_X0, tyX0_ok, nmX0, by decide, TW_of (List.mem_of_getElem? (i := 271) (by decide +kernel)) rfl, rfl, rfl, by decide +kernel⟩
theorem uX0_19 : FLq "TowField$Asks" 19 0 3 (.array .int) := ⟨RX0, TX0, 13, tyX0, rfl, inW_X0, tyX0_ok, nmX0, by decide, TW_of (List.mem_of_getElem? (i := 273) (by decide +kernel)) rfl, rfl, rfl, by decide +kernel⟩
theorem uX0_22 : FLq "TowField$Asks" 22 0 4 (.array .int) := ⟨RX0, TX0, 13, tyX0, rfl, inW_X0, tyX0_ok, nmX0, by decide, TW_of (List.mem_of_getElem? (i := 276) (by decide +kernel)) rfl, rfl, rfl, by decide +kernel⟩
theorem uX0_25 : FLq "TowField$Asks" 25 0 5 (.array .int) := ⟨RX0, TX0, 13, tyX0, rfl, inW_X0, tyX0_ok, nmX0, by decide, TW_of (List.mem_of_getElem? (i := 278) (by decide +kernel)) rfl, rfl, rfl, by decide +kernel⟩
theorem uX0_28 : FLq "TowField$Asks" 28 0 6 (.array .int) := ⟨RX0, TX0, 13, tyX0, rfl, inW_X0, tyX0_ok, nmX0, by decide, TW_of (List.mem_of_getElem? (i := 280) (by decide +kernel)) rfl, rfl, rfl, by decide +kernel⟩
theorem uX0_31 : FLq "TowField$Asks" 31 0 7 (.array .int) := ⟨RX0, TX0, 13, tyX0, rfl, inW_X0, tyX0_ok, nmX0, by decide, TW_of (List.mem_of_getElem? (i := 282) (by decide +kernel)) rfl, rfl, rfl, by decide +kernel⟩
theorem uX0_34 : FLq "TowField$Asks" 34 0 8 (.array .int) := ⟨RX0, TX0, 13, tyX0, rfl, inW_X0, tyX0_ok, nmX0, by decide, TW_of (List.mem_of_getElem? (i := 284) (by decide +kernel)) rfl, rfl, rfl, by decide +kernel⟩
theorem uX0_37 : FLq "TowField$Asks" 37 0 9 (.array .int) := ⟨RX0, TX0, 13, tyX0, rfl, inW_X0, tyX0_ok, nmX0, by decide, TW_of (List.mem_of_getElem? (i := 287) (by decide +kernel)) rfl, rfl, rfl, by decide +kernel⟩
theorem uX0_40 : FLq "TowField$Asks" 40 0 10 (.array .int) := ⟨RX0, TX0, 13, tyX0, rfl, inW_X0, tyX0_ok, nmX0, by decide, TW_of (List.mem_of_getElem? (i := 289) (by decide +kernel)) rfl, rfl, rfl, by decide +kernel⟩
theorem uX0_43 : FLq "TowField$Asks" 43 0 11 (.array .int) := ⟨RX0, TX0, 13, tyX0, rfl, inW_X0, tyX0_ok, nmX0, by decide, TW_of (List.mem_of_getElem? (i := 291) (by decide +kernel)) rfl, rfl, rfl, by decide +kernel⟩
theorem obX10_1 : Cond.methodLink "TowField$World" 1 Lib.objectInit ∈ TW := TW_of (List.mem_of_getElem? (i := 134) (by decide +kernel)) rfl
theorem nwX10_7 : NWf "TowField$World" 7 1 [.null, .null, .null, .null, .int 0, .int 0] := ⟨RX1, TX1, 6, tyX1, rfl, rfl, inW_X1, tyX1_ok, TW_of (List.mem_of_getElem? (i := 135) (by decide +kernel)) rfl, TW_of (List.mem_of_getElem? (i := 136) (by decide +kernel)) rfl, TW_of (List.mem_of_getElem? (i := 81) (by decide +kernel)) rfl, fun j hj => by rcases (show j = 0 ∨ j = 1 ∨ j = 2 ∨ j = 3 ∨ j = 4 ∨ j = 5 by omega) with rfl | rfl | rfl | rfl | rfl | rfl <;> rfl, fun ω => rfl⟩
theorem kiX10_9 : MLin "TowField$World" 9 mX1_init 0 := ⟨by decide, TW_of (List.mem_of_getElem? (i := 138) (by decide +kernel)) rfl, rfl, rfl, qX1_init⟩
theorem uX10_10 : FLq "TowField$World" 10 9 1 (.object "TowField$Gliders") := ⟨RX10, TX10, 13, tyX10, rfl, inW_X10, tyX10_ok, nmX10, by decide, TW_of (List.mem_of_getElem? (i := 326) (by decide +kernel)) rfl, rfl, rfl, by decide +kernel⟩
theorem nwX10_16 : NWf "TowField$World" 16 3 [.null, .null, .null, .null, .int 0, .int 0] := ⟨RX4, TX4, 6, tyX4, rfl, rfl, inW_X4, tyX4_ok, TW_of (List.mem_of_getElem? (i := 166) (by decide +kernel)) rfl, TW_of (List.mem_of_getElem? (i := 167) (by decide +kernel)) rfl, TW_of (List.mem_of_getElem? (i := 82) (by decide +kernel)) rfl, fun j hj => by rcases (show j = 0 ∨ j = 1 ∨ j = 2 ∨ j = 3 ∨ j = 4 ∨ j = 5 by omega) with rfl | rfl | rfl | rfl | rfl | rfl <;> rfl, fun ω => rfl⟩
theorem kiX10_18 : MLin "TowField$World" 18 mX4_init 0 := ⟨by decide, TW_of (List.mem_of_getElem? (i := 169) (by decide +kernel)) rfl, rfl, rfl, qX4_init⟩
theorem uX10_19 : FLq "TowField$World" 19 9 2 (.object "TowField$People") := ⟨RX10, TX10, 13, tyX10, rfl, inW_X10, tyX10_ok, nmX10, by decide, TW_of (List.mem_of_getElem? (i := 328) (by decide +kernel)) rfl, rfl, rfl, by decide +kernel⟩
theorem nwX10_23 : NWf "TowField$World" 23 8 [.null, .null, .int 0] := ⟨RX9, TX9, 3, tyX9, rfl, rfl, inW_X9, tyX9_ok, TW_of (List.mem_of_getElem? (i := 198) (by decide +kernel)) rfl, TW_of (List.mem_of_getElem? (i := 199) (by decide +kernel)) rfl, TW_of (List.mem_of_getElem? (i := 83) (by decide +kernel)) rfl, fun j hj => by rcases (show j = 0 ∨ j = 1 ∨ j = 2 by omega) with rfl | rfl | rfl <;> rfl, fun ω => rfl⟩
theorem kiX10_25 : MLin "TowField$World" 25 mX9_init 0 := ⟨by decide, TW_of (List.mem_of_getElem? (i := 201) (by decide +kernel)) rfl, rfl, rfl, qX9_init⟩
theorem uX10_26 : FLq "TowField$World" 26 9 3 (.object "TowField$Winches") := ⟨RX10, TX10, 13, tyX10, rfl, inW_X10, tyX10_ok, nmX10, by decide, TW_of (List.mem_of_getElem? (i := 330) (by decide +kernel)) rfl, rfl, rfl, by decide +kernel⟩
theorem nwX10_30 : NWf "TowField$World" 30 4 [.null, .int 0] := ⟨RX5, TX5, 2, tyX5, rfl, rfl, inW_X5, tyX5_ok, TW_of (List.mem_of_getElem? (i := 217) (by decide +kernel)) rfl, TW_of (List.mem_of_getElem? (i := 218) (by decide +kernel)) rfl, TW_of (List.mem_of_getElem? (i := 84) (by decide +kernel)) rfl, fun j hj => by rcases (show j = 0 ∨ j = 1 by omega) with rfl | rfl <;> rfl, fun ω => rfl⟩
theorem kiX10_32 : MLin "TowField$World" 32 mX5_init 0 := ⟨by decide, TW_of (List.mem_of_getElem? (i := 220) (by decide +kernel)) rfl, rfl, rfl, qX5_init⟩
theorem uX10_33 : FLq "TowField$World" 33 9 4 (.object "TowField$Planes") := ⟨RX10, TX10, 13, tyX10, rfl, inW_X10, tyX10_ok, nmX10, by decide, TW_of (List.mem_of_getElem? (i := 332) (by decide +kernel)) rfl, rfl, rfl, by decide +kernel⟩
theorem nwX10_37 : NWf "TowField$World" 37 2 [.null, .null, .null, .null, .null, .int 0] := ⟨RX3, TX3, 6, tyX3, rfl, rfl, inW_X3, tyX3_ok, TW_of (List.mem_of_getElem? (i := 232) (by decide +kernel)) rfl, TW_of (List.mem_of_getElem? (i := 233) (by decide +kernel)) rfl, TW_of (List.mem_of_getElem? (i := 85) (by decide +kernel)) rfl, fun j hj => by rcases (show j = 0 ∨ j = 1 ∨ j = 2 ∨ j = 3 ∨ j = 4 ∨ j = 5 by omega) with rfl | rfl | rfl | rfl | rfl | rfl <;> rfl, fun ω => rfl⟩
theorem kiX10_39 : MLi "TowField$World" 39 mX3_init 0 := ⟨TW_of (List.mem_of_getElem? (i := 234) (by decide +kernel)) rfl, TW_of (List.mem_of_getElem? (i := 235) (by decide +kernel)) rfl, rfl, rfl, qX3_init⟩
theorem uX10_40 : FLq "TowField$World" 40 9 5 (.object "TowField$Lanes") := ⟨RX10, TX10, 13, tyX10, rfl, inW_X10, tyX10_ok, nmX10, by decide, TW_of (List.mem_of_getElem? (i := 334) (by decide +kernel)) rfl, rfl, rfl, by decide +kernel⟩
theorem nwX10_44 : NWf "TowField$World" 44 0 [.null, .null, .null, .null, .null, .null, .null, .null, .null, .null, .null, .null, .int 0] := ⟨RX0, TX0, 13, tyX0, rfl, rfl, inW_X0, tyX0_ok, TW_of (List.mem_of_getElem? (i := 261) (by decide +kernel)) rfl, TW_of (List.mem_of_getElem? (i := 262) (by decide +kernel)) rfl, TW_of (List.mem_of_getElem? (i := 86) (by decide +kernel)) rfl, fun j hj => by rcases (show j = 0 ∨ j = 1 ∨ j = 2 ∨ j = 3 ∨ j = 4 ∨ j = 5 ∨ j = 6 ∨ j = 7 ∨ j = 8 ∨ j = 9 ∨ j = 10 ∨ j = 11 ∨ j = 12 by omega) with rfl | rfl | rfl | rfl | rfl | rfl | rfl | rfl | rfl | rfl | rfl | rfl | rfl <;> rfl, fun ω => rfl⟩
theorem kiX10_46 : MLin "TowField$World" 46 mX0_init 0 := ⟨by decide, TW_of (List.mem_of_getElem? (i := 264) (by decide +kernel)) rfl, rfl, rfl, qX0_init⟩
theorem uX10_47 : FLq "TowField$World" 47 9 6 (.object "TowField$Asks") := ⟨RX10, TX10, 13, tyX10, rfl, inW_X10, tyX10_ok, nmX10, by decide, TW_of (List.mem_of_getElem? (i := 336) (by decide +kernel)) rfl, rfl, rfl, by decide +kernel⟩
theorem uX10_51 : FLq "TowField$World" 51 9 7 (.array .int) := ⟨RX10, TX10, 13, tyX10, rfl, inW_X10, tyX10_ok, nmX10, by decide, TW_of (List.mem_of_getElem? (i := 338) (by decide +kernel)) rfl, rfl, rfl, by decide +kernel⟩
theorem uX10_57 : FLq "TowField$World" 57 9 8 (.array .int) := ⟨RX10, TX10, 13, tyX10, rfl, inW_X10, tyX10_ok, nmX10, by decide, TW_of (List.mem_of_getElem? (i := 340) (by decide +kernel)) rfl, rfl, rfl, by decide +kernel⟩
theorem uX10_73 : FLq "TowField$World" 73 9 0 (.object "TowField$Texts") := ⟨RX10, TX10, 13, tyX10, rfl, inW_X10, tyX10_ok, nmX10, by decide, TW_of (List.mem_of_getElem? (i := 325) (by decide +kernel)) rfl, rfl, rfl, by decide +kernel⟩
theorem obX8_3 : Cond.methodLink "TowField$Texts" 3 Lib.objectInit ∈ TW := TW_of (List.mem_of_getElem? (i := 112) (by decide +kernel)) rfl
theorem clX8_11 : Cond.classLink "TowField$Texts" 11 "[[I" ∈ TW := TW_of (List.mem_of_getElem? (i := 113) (by decide +kernel)) rfl
theorem uX8_13 : FLq "TowField$Texts" 13 7 0 (.array (.array .int)) := ⟨RX8, TX8, 4, tyX8, rfl, inW_X8, tyX8_ok, nmX8, by decide, TW_of (List.mem_of_getElem? (i := 115) (by decide +kernel)) rfl, rfl, rfl, by decide +kernel⟩
theorem uX8_16 : FLq "TowField$Texts" 16 7 1 (.array .int) := ⟨RX8, TX8, 4, tyX8, rfl, inW_X8, tyX8_ok, nmX8, by decide, TW_of (List.mem_of_getElem? (i := 116) (by decide +kernel)) rfl, rfl, rfl, by decide +kernel⟩
theorem uX8_20 : FLq "TowField$Texts" 20 7 2 (.array .int) := ⟨RX8, TX8, 4, tyX8, rfl, inW_X8, tyX8_ok, nmX8, by decide, TW_of (List.mem_of_getElem? (i := 117) (by decide +kernel)) rfl, rfl, rfl, by decide +kernel⟩
theorem uX8_23 : FLq "TowField$Texts" 23 7 3 (.array .int) := ⟨RX8, TX8, 4, tyX8, rfl, inW_X8, tyX8_ok, nmX8, by decide, TW_of (List.mem_of_getElem? (i := 118) (by decide +kernel)) rfl, rfl, rfl, by decide +kernel⟩
theorem obX6_1 : Cond.methodLink "TowField$Sheets" 1 Lib.objectInit ∈ TW := TW_of (List.mem_of_getElem? (i := 382) (by decide +kernel)) rfl
theorem uX6_9 : FLq "TowField$Sheets" 9 5 0 (.array .int) := ⟨RX6, TX6, 3, tyX6, rfl, inW_X6, tyX6_ok, nmX6, by decide, TW_of (List.mem_of_getElem? (i := 384) (by decide +kernel)) rfl, rfl, rfl, by decide +kernel⟩
theorem uX6_13 : FLq "TowField$Sheets" 13 5 1 (.array .int) := ⟨RX6, TX6, 3, tyX6, rfl, inW_X6, tyX6_ok, nmX6, by decide, TW_of (List.mem_of_getElem? (i := 386) (by decide +kernel)) rfl, rfl, rfl, by decide +kernel⟩
theorem clX6_16 : Cond.classLink "TowField$Sheets" 16 "[[I" ∈ TW := TW_of (List.mem_of_getElem? (i := 383) (by decide +kernel)) rfl
theorem uX6_18 : FLq "TowField$Sheets" 18 5 2 (.array (.array .int)) := ⟨RX6, TX6, 3, tyX6, rfl, inW_X6, tyX6_ok, nmX6, by decide, TW_of (List.mem_of_getElem? (i := 388) (by decide +kernel)) rfl, rfl, rfl, by decide +kernel⟩
theorem obX7_3 : Cond.methodLink "TowField$Tape" 3 Lib.objectInit ∈ TW := TW_of (List.mem_of_getElem? (i := 402) (by decide +kernel)) rfl
theorem uX7_9 : FLq "TowField$Tape" 9 6 0 (.array .int) := ⟨RX7, TX7, 8, tyX7, rfl, inW_X7, tyX7_ok, nmX7, by decide, TW_of (List.mem_of_getElem? (i := 403) (by decide +kernel)) rfl, rfl, rfl, by decide +kernel⟩
theorem uX7_15 : FLq "TowField$Tape" 15 6 1 (.array .int) := ⟨RX7, TX7, 8, tyX7, rfl, inW_X7, tyX7_ok, nmX7, by decide, TW_of (List.mem_of_getElem? (i := 404) (by decide +kernel)) rfl, rfl, rfl, by decide +kernel⟩
theorem obX11_1 : Cond.methodLink "TowField" 1 Lib.objectInit ∈ TW := TW_of (List.mem_of_getElem? (i := 104) (by decide +kernel)) rfl
theorem nwX11_7 : NWf "TowField" 7 7 [.null, .null, .null, .null] := ⟨RX8, TX8, 4, tyX8, rfl, rfl, inW_X8, tyX8_ok, TW_of (List.mem_of_getElem? (i := 107) (by decide +kernel)) rfl, TW_of (List.mem_of_getElem? (i := 108) (by decide +kernel)) rfl, TW_of (List.mem_of_getElem? (i := 79) (by decide +kernel)) rfl, fun j hj => by rcases (show j = 0 ∨ j = 1 ∨ j = 2 ∨ j = 3 by omega) with rfl | rfl | rfl | rfl <;> rfl, fun ω => rfl⟩
theorem kiX11_9 : MLin "TowField" 9 mX8_init 0 := ⟨by decide, TW_of (List.mem_of_getElem? (i := 110) (by decide +kernel)) rfl, rfl, rfl, qX8_init⟩
theorem uX11_10 : FLq "TowField" 10 10 0 (.object "TowField$Texts") := ⟨RX11, TX11, 8, tyX11, rfl, inW_X11, tyX11_ok, nmX11, by decide, TW_of (List.mem_of_getElem? (i := 431) (by decide +kernel)) rfl, rfl, rfl, by decide +kernel⟩
theorem nwX11_16 : NWf "TowField" 16 9 [.null, .null, .null, .null, .null, .null, .null, .null, .null, .int 0, .int 0, .int 0, .int 0] := ⟨RX10, TX10, 13, tyX10, rfl, rfl, inW_X10, tyX10_ok, TW_of (List.mem_of_getElem? (i := 129) (by decide +kernel)) rfl, TW_of (List.mem_of_getElem? (i := 130) (by decide +kernel)) rfl, TW_of (List.mem_of_getElem? (i := 80) (by decide +kernel)) rfl, fun j hj => by rcases (show j = 0 ∨ j = 1 ∨ j = 2 ∨ j = 3 ∨ j = 4 ∨ j = 5 ∨ j = 6 ∨ j = 7 ∨ j = 8 ∨ j = 9 ∨ j = 10 ∨ j = 11 ∨ j = 12 by omega) with rfl | rfl | rfl | rfl | rfl | rfl | rfl | rfl | rfl | rfl | rfl | rfl | rfl <;> rfl, fun ω => rfl⟩
theorem kiX11_18 : MLi "TowField" 18 mX10_init 1 := ⟨TW_of (List.mem_of_getElem? (i := 131) (by decide +kernel)) rfl, TW_of (List.mem_of_getElem? (i := 132) (by decide +kernel)) rfl, rfl, rfl, qX10_init⟩
theorem uX11_21 : FLq "TowField" 21 10 1 (.object "TowField$World") := ⟨RX11, TX11, 8, tyX11, rfl, inW_X11, tyX11_ok, nmX11, by decide, TW_of (List.mem_of_getElem? (i := 432) (by decide +kernel)) rfl, rfl, rfl, by decide +kernel⟩
theorem uX11_25 : FLq "TowField" 25 10 2 (.object "TowField$World") := ⟨RX11, TX11, 8, tyX11, rfl, inW_X11, tyX11_ok, nmX11, by decide, TW_of (List.mem_of_getElem? (i := 433) (by decide +kernel)) rfl, rfl, rfl, by decide +kernel⟩
theorem uX11_28 : FLq "TowField" 28 10 3 (.object "TowField$World") := ⟨RX11, TX11, 8, tyX11, rfl, inW_X11, tyX11_ok, nmX11, by decide, TW_of (List.mem_of_getElem? (i := 434) (by decide +kernel)) rfl, rfl, rfl, by decide +kernel⟩
theorem nwX11_31 : NWf "TowField" 31 5 [.null, .null, .null] := ⟨RX6, TX6, 3, tyX6, rfl, rfl, inW_X6, tyX6_ok, TW_of (List.mem_of_getElem? (i := 377) (by decide +kernel)) rfl, TW_of (List.mem_of_getElem? (i := 378) (by decide +kernel)) rfl, TW_of (List.mem_of_getElem? (i := 87) (by decide +kernel)) rfl, fun j hj => by rcases (show j = 0 ∨ j = 1 ∨ j = 2 by omega) with rfl | rfl | rfl <;> rfl, fun ω => rfl⟩
theorem kiX11_33 : MLin "TowField" 33 mX6_init 0 := ⟨by decide, TW_of (List.mem_of_getElem? (i := 380) (by decide +kernel)) rfl, rfl, rfl, qX6_init⟩
theorem uX11_34 : FLq "TowField" 34 10 4 (.object "TowField$Sheets") := ⟨RX11, TX11, 8, tyX11, rfl, inW_X11, tyX11_ok, nmX11, by decide, TW_of (List.mem_of_getElem? (i := 435) (by decide +kernel)) rfl, rfl, rfl, by decide +kernel⟩
theorem nwX11_38 : NWf "TowField" 38 6 [.null, .null, .int 0, .int 0, .int 0, .int 0, .int 0, .int 0] := ⟨RX7, TX7, 8, tyX7, rfl, rfl, inW_X7, tyX7_ok, TW_of (List.mem_of_getElem? (i := 397) (by decide +kernel)) rfl, TW_of (List.mem_of_getElem? (i := 398) (by decide +kernel)) rfl, TW_of (List.mem_of_getElem? (i := 88) (by decide +kernel)) rfl, fun j hj => by rcases (show j = 0 ∨ j = 1 ∨ j = 2 ∨ j = 3 ∨ j = 4 ∨ j = 5 ∨ j = 6 ∨ j = 7 by omega) with rfl | rfl | rfl | rfl | rfl | rfl | rfl | rfl <;> rfl, fun ω => rfl⟩
theorem kiX11_40 : MLin "TowField" 40 mX7_init 0 := ⟨by decide, TW_of (List.mem_of_getElem? (i := 400) (by decide +kernel)) rfl, rfl, rfl, qX7_init⟩
theorem uX11_41 : FLq "TowField" 41 10 5 (.object "TowField$Tape") := ⟨RX11, TX11, 8, tyX11, rfl, inW_X11, tyX11_ok, nmX11, by decide, TW_of (List.mem_of_getElem? (i := 436) (by decide +kernel)) rfl, rfl, rfl, by decide +kernel⟩
theorem uX11_45 : FLq "TowField" 45 10 6 (.array .int) := ⟨RX11, TX11, 8, tyX11, rfl, inW_X11, tyX11_ok, nmX11, by decide, TW_of (List.mem_of_getElem? (i := 437) (by decide +kernel)) rfl, rfl, rfl, by decide +kernel⟩
theorem obX12_3 : Cond.methodLink "TowFieldModel" 3 Lib.objectInit ∈ TW := TW_of (List.mem_of_getElem? (i := 1187) (by decide +kernel)) rfl
theorem uX12_9 : FLq "TowFieldModel" 9 11 0 (.array .int) := ⟨RX12, TX12, 24, tyX12, rfl, inW_X12, tyX12_ok, nmX12, by decide, TW_of (List.mem_of_getElem? (i := 1194) (by decide +kernel)) rfl, rfl, rfl, by decide +kernel⟩
theorem uX12_13 : FLq "TowFieldModel" 13 11 1 (.array .int) := ⟨RX12, TX12, 24, tyX12, rfl, inW_X12, tyX12_ok, nmX12, by decide, TW_of (List.mem_of_getElem? (i := 1195) (by decide +kernel)) rfl, rfl, rfl, by decide +kernel⟩
theorem uX12_16 : FLq "TowFieldModel" 16 11 2 (.array .int) := ⟨RX12, TX12, 24, tyX12, rfl, inW_X12, tyX12_ok, nmX12, by decide, TW_of (List.mem_of_getElem? (i := 1196) (by decide +kernel)) rfl, rfl, rfl, by decide +kernel⟩
theorem uX12_19 : FLq "TowFieldModel" 19 11 4 (.array .int) := ⟨RX12, TX12, 24, tyX12, rfl, inW_X12, tyX12_ok, nmX12, by decide, TW_of (List.mem_of_getElem? (i := 1198) (by decide +kernel)) rfl, rfl, rfl, by decide +kernel⟩
theorem uX12_22 : FLq "TowFieldModel" 22 11 5 (.array .int) := ⟨RX12, TX12, 24, tyX12, rfl, inW_X12, tyX12_ok, nmX12, by decide, TW_of (List.mem_of_getElem? (i := 1199) (by decide +kernel)) rfl, rfl, rfl, by decide +kernel⟩
theorem clX12_25 : Cond.classLink "TowFieldModel" 25 "java/lang/String" ∈ TW := TW_of (List.mem_of_getElem? (i := 1188) (by decide +kernel)) rfl
theorem uX12_35 : FLq "TowFieldModel" 35 11 11 (.array (.object "java/lang/String")) := ⟨RX12, TX12, 24, tyX12, rfl, inW_X12, tyX12_ok, nmX12, by decide, TW_of (List.mem_of_getElem? (i := 1205) (by decide +kernel)) rfl, rfl, rfl, by decide +kernel⟩
theorem uX12_39 : FLq "TowFieldModel" 39 11 17 (.array .int) := ⟨RX12, TX12, 24, tyX12, rfl, inW_X12, tyX12_ok, nmX12, by decide, TW_of (List.mem_of_getElem? (i := 1211) (by decide +kernel)) rfl, rfl, rfl, by decide +kernel⟩
theorem uX12_42 : FLq "TowFieldModel" 42 11 19 (.array .int) := ⟨RX12, TX12, 24, tyX12, rfl, inW_X12, tyX12_ok, nmX12, by decide, TW_of (List.mem_of_getElem? (i := 1213) (by decide +kernel)) rfl, rfl, rfl, by decide +kernel⟩
theorem uX12_45 : FLq "TowFieldModel" 45 11 20 (.array .int) := ⟨RX12, TX12, 24, tyX12, rfl, inW_X12, tyX12_ok, nmX12, by decide, TW_of (List.mem_of_getElem? (i := 1214) (by decide +kernel)) rfl, rfl, rfl, by decide +kernel⟩
theorem uX12_48 : FLq "TowFieldModel" 48 11 21 (.array .int) := ⟨RX12, TX12, 24, tyX12, rfl, inW_X12, tyX12_ok, nmX12, by decide, TW_of (List.mem_of_getElem? (i := 1215) (by decide +kernel)) rfl, rfl, rfl, by decide +kernel⟩
theorem uX12_51 : FLq "TowFieldModel" 51 11 22 (.array .int) := ⟨RX12, TX12, 24, tyX12, rfl, inW_X12, tyX12_ok, nmX12, by decide, TW_of (List.mem_of_getElem? (i := 1216) (by decide +kernel)) rfl, rfl, rfl, by decide +kernel⟩
theorem uX12_54 : FLq "TowFieldModel" 54 11 23 (.array .int) := ⟨RX12, TX12, 24, tyX12, rfl, inW_X12, tyX12_ok, nmX12, by decide, TW_of (List.mem_of_getElem? (i := 1217) (by decide +kernel)) rfl, rfl, rfl, by decide +kernel⟩
/-- what TowField$Gliders() leaves -/
def B_X1 (f : Nat → AE) (a : Nat) : Prop := f a = .inr (.inr (1, [.ref (a + 1), .ref (a + 2), .ref (a + 3), .ref (a + 4), .int 0, .int 0])) ∧ f (a + 1) = .inl (10, fun _ => 0) ∧ f (a + 2) = .inl (10, fun _ => 0) ∧ f (a + 3) = .inl (10, fun _ => 0) ∧ f (a + 4) = .inl (10, fun _ => 0)
theorem B_X1_fr {f f' : Nat → AE} {a : Nat} (h : ∀ q, a ≤ q → q ≤ a + 4 → f' q = f q) (hb : B_X1 f a) : B_X1 f' a := ⟨(h _ (by omega) (by omega)).trans hb.1, (h _ (by omega) (by omega)).trans hb.2.1, (h _ (by omega) (by omega)).trans hb.2.2.1, (h _ (by omega) (by omega)).trans hb.2.2.2.1, (h _ (by omega) (by omega)).trans hb.2.2.2.2⟩
set_option maxHeartbeats 4000000 in
theorem K_X1 {d : Nat} (hd : 2 ≤ d) {a : Nat} (ha : a + 1 + 4 ≤ 148) {f : Nat → AE} (h0 : f a = .inr (.inr (1, [.null, .null, .null, .null, .int 0, .int 0]))) : KCon d 4 40 mX1_init [.ref a] (hp (a + 1) f) (fun h => ∃ g, h = hp (a + 5) g ∧ B_X1 g a ∧ ∀ k, k < a → g k = f k) := by
  refine kcon_of (by decide) (catL rfl) (Nat.le_of_ble_eq_true rfl) ?_
  intro μ ω C hr hin hz hc hk
  have C : Cx μ ω "TowField$Gliders" cX1_init 1 d := C
  have hr : (mH μ).sig.returnType = none := hr
  have hin : (mH μ).name = "<init>" := hin
  rw [hp_len] at hz
  show G μ ω (RK μ ω 4 40 _) 0 [some (.ref a)] [] (hp (a + 1) f) 0 0
  refine g_al0n (pc := 0) C dX1_init_0 ?_
  refine k_obj (pc := 1) (st := []) C obX1_1 (by omega) rfl (Nat.le_of_ble_eq_true rfl) dX1_init_1 ?_
  refine g_al0n (pc := 4) C dX1_init_4 ?_
  refine g_bipush (pc := 5) (v := 10) C dX1_init_5 (by decide) ?_
  refine k_newa (pc := 7) (N := (a + 1)) (m := 10) C hz (by omega) (by omega) rfl (by decide) (by omega) (by omega) dX1_init_7 ?_
  refine k_putF (pc := 9) (a := a) (fs := [.null, .null, .null, .null, .int 0, .int 0]) (fs' := [.ref (a + 1), .null, .null, .null, .int 0, .int 0]) C hin uX1_9 (by omega) (by simp (disch := omega) only [fu_at, fu_ne, fm_at, fm_ne, h0]) (Nat.le_of_ble_eq_true rfl) rfl rfl rfl dX1_init_9 ?_
  refine g_al0n (pc := 12) C dX1_init_12 ?_
  refine g_bipush (pc := 13) (v := 10) C dX1_init_13 (by decide) ?_
  refine k_newa (pc := 15) (N := (a + 2)) (m := 10) C hz (by omega) (by omega) rfl (by decide) (by omega) (by omega) dX1_init_15 ?_
  refine k_putF (pc := 17) (a := a) (fs := [.ref (a + 1), .null, .null, .null, .int 0, .int 0]) (fs' := [.ref (a + 1), .ref (a + 2), .null, .null, .int 0, .int 0]) C hin uX1_13 (by omega) (by simp (disch := omega) only [fu_at, fu_ne, fm_at, fm_ne, h0]) (Nat.le_of_ble_eq_true rfl) rfl rfl rfl dX1_init_17 ?_
  refine g_al0n (pc := 20) C dX1_init_20 ?_
  refine g_bipush (pc := 21) (v := 10) C dX1_init_21 (by decide) ?_
  refine k_newa (pc := 23) (N := (a + 3)) (m := 10) C hz (by omega) (by omega) rfl (by decide) (by omega) (by omega) dX1_init_23 ?_
  refine k_putF (pc := 25) (a := a) (fs := [.ref (a + 1), .ref (a + 2), .null, .null, .int 0, .int 0]) (fs' := [.ref (a + 1), .ref (a + 2), .ref (a + 3), .null, .int 0, .int 0]) C hin uX1_16 (by omega) (by simp (disch := omega) only [fu_at, fu_ne, fm_at, fm_ne, h0]) (Nat.le_of_ble_eq_true rfl) rfl rfl rfl dX1_init_25 ?_
  refine g_al0n (pc := 28) C dX1_init_28 ?_
  refine g_bipush (pc := 29) (v := 10) C dX1_init_29 (by decide) ?_
  refine k_newa (pc := 31) (N := (a + 4)) (m := 10) C hz (by omega) (by omega) rfl (by decide) (by omega) (by omega) dX1_init_31 ?_
  refine k_putF (pc := 33) (a := a) (fs := [.ref (a + 1), .ref (a + 2), .ref (a + 3), .null, .int 0, .int 0]) (fs' := [.ref (a + 1), .ref (a + 2), .ref (a + 3), .ref (a + 4), .int 0, .int 0]) C hin uX1_19 (by omega) (by simp (disch := omega) only [fu_at, fu_ne, fm_at, fm_ne, h0]) (Nat.le_of_ble_eq_true rfl) rfl rfl rfl dX1_init_33 ?_
  refine g_al0n (pc := 36) C dX1_init_36 ?_
  refine g_iconst (pc := 37) (v := 0) C dX1_init_37 (by decide) ?_
  refine k_put (pc := 38) (a := a) (fs := [.ref (a + 1), .ref (a + 2), .ref (a + 3), .ref (a + 4), .int 0, .int 0]) (fs' := [.ref (a + 1), .ref (a + 2), .ref (a + 3), .ref (a + 4), .int 0, .int 0]) C pX1_22 (by omega) (by simp (disch := omega) only [fu_at, fu_ne, fm_at, fm_ne, h0]) (Nat.le_of_ble_eq_true rfl) rfl rfl rfl dX1_init_38 ?_
  refine g_al0n (pc := 41) C dX1_init_41 ?_
  refine g_iconst (pc := 42) (v := 0) C dX1_init_42 (by decide) ?_
  refine k_put (pc := 43) (a := a) (fs := [.ref (a + 1), .ref (a + 2), .ref (a + 3), .ref (a + 4), .int 0, .int 0]) (fs' := [.ref (a + 1), .ref (a + 2), .ref (a + 3), .ref (a + 4), .int 0, .int 0]) C pX1_26 (by omega) (by simp (disch := omega) only [fu_at, fu_ne, fm_at, fm_ne, h0]) (Nat.le_of_ble_eq_true rfl) rfl rfl rfl dX1_init_43 ?_
  exact k_vret C hr dX1_init_46 (by omega) (by omega) ⟨_, rfl, ⟨(by simp (disch := omega) only [fu_at, fu_ne, fm_at, fm_row, fm_ne, h0]), (by simp (disch := omega) only [fu_at, fu_ne, fm_at, fm_row, fm_ne, h0]), (by simp (disch := omega) only [fu_at, fu_ne, fm_at, fm_row, fm_ne, h0]), (by simp (disch := omega) only [fu_at, fu_ne, fm_at, fm_row, fm_ne, h0]), (by simp (disch := omega) only [fu_at, fu_ne, fm_at, fm_row, fm_ne, h0])⟩, fun q hq => by simp (disch := omega) only [fu_ne, fm_ne]⟩
/-- what TowField$People() leaves -/
def B_X4 (f : Nat → AE) (a : Nat) : Prop := f a = .inr (.inr (3, [.ref (a + 1), .ref (a + 2), .ref (a + 3), .ref (a + 4), .int 0, .int 0])) ∧ f (a + 1) = .inl (14, fun _ => 0) ∧ f (a + 2) = .inl (14, fun _ => 0) ∧ f (a + 3) = .inl (14, fun _ => 0) ∧ f (a + 4) = .inl (14, fun _ => 0)
theorem B_X4_fr {f f' : Nat → AE} {a : Nat} (h : ∀ q, a ≤ q → q ≤ a + 4 → f' q = f q) (hb : B_X4 f a) : B_X4 f' a := ⟨(h _ (by omega) (by omega)).trans hb.1, (h _ (by omega) (by omega)).trans hb.2.1, (h _ (by omega) (by omega)).trans hb.2.2.1, (h _ (by omega) (by omega)).trans hb.2.2.2.1, (h _ (by omega) (by omega)).trans hb.2.2.2.2⟩
set_option maxHeartbeats 4000000 in
theorem K_X4 {d : Nat} (hd : 2 ≤ d) {a : Nat} (ha : a + 1 + 4 ≤ 148) {f : Nat → AE} (h0 : f a = .inr (.inr (3, [.null, .null, .null, .null, .int 0, .int 0]))) : KCon d 4 56 mX4_init [.ref a] (hp (a + 1) f) (fun h => ∃ g, h = hp (a + 5) g ∧ B_X4 g a ∧ ∀ k, k < a → g k = f k) := by
  refine kcon_of (by decide) (catL rfl) (Nat.le_of_ble_eq_true rfl) ?_
  intro μ ω C hr hin hz hc hk
  have C : Cx μ ω "TowField$People" cX4_init 1 d := C
  have hr : (mH μ).sig.returnType = none := hr
  have hin : (mH μ).name = "<init>" := hin
  rw [hp_len] at hz
  show G μ ω (RK μ ω 4 56 _) 0 [some (.ref a)] [] (hp (a + 1) f) 0 0
  refine g_al0n (pc := 0) C dX4_init_0 ?_
  refine k_obj (pc := 1) (st := []) C obX4_1 (by omega) rfl (Nat.le_of_ble_eq_true rfl) dX4_init_1 ?_
  refine g_al0n (pc := 4) C dX4_init_4 ?_
  refine g_bipush (pc := 5) (v := 14) C dX4_init_5 (by decide) ?_
  refine k_newa (pc := 7) (N := (a + 1)) (m := 14) C hz (by omega) (by omega) rfl (by decide) (by omega) (by omega) dX4_init_7 ?_
  refine k_putF (pc := 9) (a := a) (fs := [.null, .null, .null, .null, .int 0, .int 0]) (fs' := [.ref (a + 1), .null, .null, .null, .int 0, .int 0]) C hin uX4_9 (by omega) (by simp (disch := omega) only [fu_at, fu_ne, fm_at, fm_ne, h0]) (Nat.le_of_ble_eq_true rfl) rfl rfl rfl dX4_init_9 ?_
  refine g_al0n (pc := 12) C dX4_init_12 ?_
  refine g_bipush (pc := 13) (v := 14) C dX4_init_13 (by decide) ?_
  refine k_newa (pc := 15) (N := (a + 2)) (m := 14) C hz (by omega) (by omega) rfl (by decide) (by omega) (by omega) dX4_init_15 ?_
  refine k_putF (pc := 17) (a := a) (fs := [.ref (a + 1), .null, .null, .null, .int 0, .int 0]) (fs' := [.ref (a + 1), .ref (a + 2), .null, .null, .int 0, .int 0]) C hin uX4_13 (by omega) (by simp (disch := omega) only [fu_at, fu_ne, fm_at, fm_ne, h0]) (Nat.le_of_ble_eq_true rfl) rfl rfl rfl dX4_init_17 ?_
  refine g_al0n (pc := 20) C dX4_init_20 ?_
  refine g_bipush (pc := 21) (v := 14) C dX4_init_21 (by decide) ?_
  refine k_newa (pc := 23) (N := (a + 3)) (m := 14) C hz (by omega) (by omega) rfl (by decide) (by omega) (by omega) dX4_init_23 ?_
  refine k_putF (pc := 25) (a := a) (fs := [.ref (a + 1), .ref (a + 2), .null, .null, .int 0, .int 0]) (fs' := [.ref (a + 1), .ref (a + 2), .ref (a + 3), .null, .int 0, .int 0]) C hin uX4_16 (by omega) (by simp (disch := omega) only [fu_at, fu_ne, fm_at, fm_ne, h0]) (Nat.le_of_ble_eq_true rfl) rfl rfl rfl dX4_init_25 ?_
  refine g_al0n (pc := 28) C dX4_init_28 ?_
  refine g_bipush (pc := 29) (v := 14) C dX4_init_29 (by decide) ?_
  refine k_newa (pc := 31) (N := (a + 4)) (m := 14) C hz (by omega) (by omega) rfl (by decide) (by omega) (by omega) dX4_init_31 ?_
  refine k_putF (pc := 33) (a := a) (fs := [.ref (a + 1), .ref (a + 2), .ref (a + 3), .null, .int 0, .int 0]) (fs' := [.ref (a + 1), .ref (a + 2), .ref (a + 3), .ref (a + 4), .int 0, .int 0]) C hin uX4_19 (by omega) (by simp (disch := omega) only [fu_at, fu_ne, fm_at, fm_ne, h0]) (Nat.le_of_ble_eq_true rfl) rfl rfl rfl dX4_init_33 ?_
  refine g_al0n (pc := 36) C dX4_init_36 ?_
  refine g_iconst (pc := 37) (v := 0) C dX4_init_37 (by decide) ?_
  refine k_put (pc := 38) (a := a) (fs := [.ref (a + 1), .ref (a + 2), .ref (a + 3), .ref (a + 4), .int 0, .int 0]) (fs' := [.ref (a + 1), .ref (a + 2), .ref (a + 3), .ref (a + 4), .int 0, .int 0]) C pX4_22 (by omega) (by simp (disch := omega) only [fu_at, fu_ne, fm_at, fm_ne, h0]) (Nat.le_of_ble_eq_true rfl) rfl rfl rfl dX4_init_38 ?_
  refine g_al0n (pc := 41) C dX4_init_41 ?_
  refine g_iconst (pc := 42) (v := 0) C dX4_init_42 (by decide) ?_
  refine k_put (pc := 43) (a := a) (fs := [.ref (a + 1), .ref (a + 2), .ref (a + 3), .ref (a + 4), .int 0, .int 0]) (fs' := [.ref (a + 1), .ref (a + 2), .ref (a + 3), .ref (a + 4), .int 0, .int 0]) C pX4_26 (by omega) (by simp (disch := omega) only [fu_at, fu_ne, fm_at, fm_ne, h0]) (Nat.le_of_ble_eq_true rfl) rfl rfl rfl dX4_init_43 ?_
  exact k_vret C hr dX4_init_46 (by omega) (by omega) ⟨_, rfl, ⟨(by simp (disch := omega) only [fu_at, fu_ne, fm_at, fm_row, fm_ne, h0]), (by simp (disch := omega) only [fu_at, fu_ne, fm_at, fm_row, fm_ne, h0]), (by simp (disch := omega) only [fu_at, fu_ne, fm_at, fm_row, fm_ne, h0]), (by simp (disch := omega) only [fu_at, fu_ne, fm_at, fm_row, fm_ne, h0]), (by simp (disch := omega) only [fu_at, fu_ne, fm_at, fm_row, fm_ne, h0])⟩, fun q hq => by simp (disch := omega) only [fu_ne, fm_ne]⟩
/-- what TowField$Winches() leaves -/
def B_X9 (f : Nat → AE) (a : Nat) : Prop := f a = .inr (.inr (8, [.ref (a + 1), .ref (a + 2), .int 0])) ∧ f (a + 1) = .inl (6, fun _ => 0) ∧ f (a + 2) = .inl (6, fun _ => 0)
theorem B_X9_fr {f f' : Nat → AE} {a : Nat} (h : ∀ q, a ≤ q → q ≤ a + 2 → f' q = f q) (hb : B_X9 f a) : B_X9 f' a := ⟨(h _ (by omega) (by omega)).trans hb.1, (h _ (by omega) (by omega)).trans hb.2.1, (h _ (by omega) (by omega)).trans hb.2.2⟩
set_option maxHeartbeats 4000000 in
theorem K_X9 {d : Nat} (hd : 2 ≤ d) {a : Nat} (ha : a + 1 + 2 ≤ 148) {f : Nat → AE} (h0 : f a = .inr (.inr (8, [.null, .null, .int 0]))) : KCon d 2 12 mX9_init [.ref a] (hp (a + 1) f) (fun h => ∃ g, h = hp (a + 3) g ∧ B_X9 g a ∧ ∀ k, k < a → g k = f k) := by
  refine kcon_of (by decide) (catL rfl) (Nat.le_of_ble_eq_true rfl) ?_
  intro μ ω C hr hin hz hc hk
  have C : Cx μ ω "TowField$Winches" cX9_init 1 d := C
  have hr : (mH μ).sig.returnType = none := hr
  have hin : (mH μ).name = "<init>" := hin
  rw [hp_len] at hz
  show G μ ω (RK μ ω 2 12 _) 0 [some (.ref a)] [] (hp (a + 1) f) 0 0
  refine g_al0n (pc := 0) C dX9_init_0 ?_
  refine k_obj (pc := 1) (st := []) C obX9_1 (by omega) rfl (Nat.le_of_ble_eq_true rfl) dX9_init_1 ?_
  refine g_al0n (pc := 4) C dX9_init_4 ?_
  refine g_bipush (pc := 5) (v := 6) C dX9_init_5 (by decide) ?_
  refine k_newa (pc := 7) (N := (a + 1)) (m := 6) C hz (by omega) (by omega) rfl (by decide) (by omega) (by omega) dX9_init_7 ?_
  refine k_putF (pc := 9) (a := a) (fs := [.null, .null, .int 0]) (fs' := [.ref (a + 1), .null, .int 0]) C hin uX9_9 (by omega) (by simp (disch := omega) only [fu_at, fu_ne, fm_at, fm_ne, h0]) (Nat.le_of_ble_eq_true rfl) rfl rfl rfl dX9_init_9 ?_
  refine g_al0n (pc := 12) C dX9_init_12 ?_
  refine g_bipush (pc := 13) (v := 6) C dX9_init_13 (by decide) ?_
  refine k_newa (pc := 15) (N := (a + 2)) (m := 6) C hz (by omega) (by omega) rfl (by decide) (by omega) (by omega) dX9_init_15 ?_
  refine k_putF (pc := 17) (a := a) (fs := [.ref (a + 1), .null, .int 0]) (fs' := [.ref (a + 1), .ref (a + 2), .int 0]) C hin uX9_13 (by omega) (by simp (disch := omega) only [fu_at, fu_ne, fm_at, fm_ne, h0]) (Nat.le_of_ble_eq_true rfl) rfl rfl rfl dX9_init_17 ?_
  refine g_al0n (pc := 20) C dX9_init_20 ?_
  refine g_iconst (pc := 21) (v := 0) C dX9_init_21 (by decide) ?_
  refine k_put (pc := 22) (a := a) (fs := [.ref (a + 1), .ref (a + 2), .int 0]) (fs' := [.ref (a + 1), .ref (a + 2), .int 0]) C pX9_16 (by omega) (by simp (disch := omega) only [fu_at, fu_ne, fm_at, fm_ne, h0]) (Nat.le_of_ble_eq_true rfl) rfl rfl rfl dX9_init_22 ?_
  exact k_vret C hr dX9_init_25 (by omega) (by omega) ⟨_, rfl, ⟨(by simp (disch := omega) only [fu_at, fu_ne, fm_at, fm_row, fm_ne, h0]), (by simp (disch := omega) only [fu_at, fu_ne, fm_at, fm_row, fm_ne, h0]), (by simp (disch := omega) only [fu_at, fu_ne, fm_at, fm_row, fm_ne, h0])⟩, fun q hq => by simp (disch := omega) only [fu_ne, fm_ne]⟩
/-- what TowField$Planes() leaves -/
def B_X5 (f : Nat → AE) (a : Nat) : Prop := f a = .inr (.inr (4, [.ref (a + 1), .int 0])) ∧ f (a + 1) = .inl (3, fun _ => 0)
theorem B_X5_fr {f f' : Nat → AE} {a : Nat} (h : ∀ q, a ≤ q → q ≤ a + 1 → f' q = f q) (hb : B_X5 f a) : B_X5 f' a := ⟨(h _ (by omega) (by omega)).trans hb.1, (h _ (by omega) (by omega)).trans hb.2⟩
set_option maxHeartbeats 4000000 in
theorem K_X5 {d : Nat} (hd : 2 ≤ d) {a : Nat} (ha : a + 1 + 1 ≤ 148) {f : Nat → AE} (h0 : f a = .inr (.inr (4, [.null, .int 0]))) : KCon d 1 3 mX5_init [.ref a] (hp (a + 1) f) (fun h => ∃ g, h = hp (a + 2) g ∧ B_X5 g a ∧ ∀ k, k < a → g k = f k) := by
  refine kcon_of (by decide) (catL rfl) (Nat.le_of_ble_eq_true rfl) ?_
  intro μ ω C hr hin hz hc hk
  have C : Cx μ ω "TowField$Planes" cX5_init 1 d := C
  have hr : (mH μ).sig.returnType = none := hr
  have hin : (mH μ).name = "<init>" := hin
  rw [hp_len] at hz
  show G μ ω (RK μ ω 1 3 _) 0 [some (.ref a)] [] (hp (a + 1) f) 0 0
  refine g_al0n (pc := 0) C dX5_init_0 ?_
  refine k_obj (pc := 1) (st := []) C obX5_1 (by omega) rfl (Nat.le_of_ble_eq_true rfl) dX5_init_1 ?_
  refine g_al0n (pc := 4) C dX5_init_4 ?_
  refine g_iconst (pc := 5) (v := 3) C dX5_init_5 (by decide) ?_
  refine k_newa (pc := 6) (N := (a + 1)) (m := 3) C hz (by omega) (by omega) rfl (by decide) (by omega) (by omega) dX5_init_6 ?_
  refine k_putF (pc := 8) (a := a) (fs := [.null, .int 0]) (fs' := [.ref (a + 1), .int 0]) C hin uX5_9 (by omega) (by simp (disch := omega) only [fu_at, fu_ne, fm_at, fm_ne, h0]) (Nat.le_of_ble_eq_true rfl) rfl rfl rfl dX5_init_8 ?_
  refine g_al0n (pc := 11) C dX5_init_11 ?_
  refine g_iconst (pc := 12) (v := 0) C dX5_init_12 (by decide) ?_
  refine k_put (pc := 13) (a := a) (fs := [.ref (a + 1), .int 0]) (fs' := [.ref (a + 1), .int 0]) C pX5_13 (by omega) (by simp (disch := omega) only [fu_at, fu_ne, fm_at, fm_ne, h0]) (Nat.le_of_ble_eq_true rfl) rfl rfl rfl dX5_init_13 ?_
  exact k_vret C hr dX5_init_16 (by omega) (by omega) ⟨_, rfl, ⟨(by simp (disch := omega) only [fu_at, fu_ne, fm_at, fm_row, fm_ne, h0]), (by simp (disch := omega) only [fu_at, fu_ne, fm_at, fm_row, fm_ne, h0])⟩, fun q hq => by simp (disch := omega) only [fu_ne, fm_ne]⟩
/-- what TowField$Lanes() leaves -/
def B_X3 (f : Nat → AE) (a : Nat) : Prop := f a = .inr (.inr (2, [.ref (a + 1), .ref (a + 2), .ref (a + 3), .ref (a + 4), .ref (a + 5), .int 0])) ∧ f (a + 1) = .inl (6, upd (upd (upd (upd (upd (upd (fun _ => 0) (0) 1) (1) 2) (2) 4) (3) 8) (4) 16) (5) 32) ∧ f (a + 2) = .inl (4, upd (upd (upd (upd (fun _ => 0) (0) 0) (1) 1) (2) 2) (3) 3) ∧ f (a + 3) = .inl (6, fun _ => 0) ∧ f (a + 4) = .inl (6, fun _ => 0) ∧ f (a + 5) = .inl (6, fun _ => 0)
theorem B_X3_fr {f f' : Nat → AE} {a : Nat} (h : ∀ q, a ≤ q → q ≤ a + 5 → f' q = f q) (hb : B_X3 f a) : B_X3 f' a := ⟨(h _ (by omega) (by omega)).trans hb.1, (h _ (by omega) (by omega)).trans hb.2.1, (h _ (by omega) (by omega)).trans hb.2.2.1, (h _ (by omega) (by omega)).trans hb.2.2.2.1, (h _ (by omega) (by omega)).trans hb.2.2.2.2.1, (h _ (by omega) (by omega)).trans hb.2.2.2.2.2⟩
set_option maxHeartbeats 4000000 in
theorem K_X3 {d : Nat} (hd : 2 ≤ d) {a : Nat} (ha : a + 1 + 5 ≤ 148) {f : Nat → AE} (h0 : f a = .inr (.inr (2, [.null, .null, .null, .null, .null, .int 0]))) : KCon d 5 28 mX3_init [.ref a] (hp (a + 1) f) (fun h => ∃ g, h = hp (a + 6) g ∧ B_X3 g a ∧ ∀ k, k < a → g k = f k) := by
  refine kcon_of (by decide) (catL rfl) (Nat.le_of_ble_eq_true rfl) ?_
  intro μ ω C hr hin hz hc hk
  have C : Cx μ ω "TowField$Lanes" cX3_init 2 d := C
  have hr : (mH μ).sig.returnType = none := hr
  have hin : (mH μ).name = "<init>" := hin
  rw [hp_len] at hz
  show G μ ω (RK μ ω 5 28 _) 0 [some (.ref a), none] [] (hp (a + 1) f) 0 0
  refine g_al0n (pc := 0) C dX3_init_0 ?_
  refine k_obj (pc := 1) (st := []) C obX3_3 (by omega) rfl (Nat.le_of_ble_eq_true rfl) dX3_init_1 ?_
  refine g_al0n (pc := 4) C dX3_init_4 ?_
  refine g_bipush (pc := 5) (v := 6) C dX3_init_5 (by decide) ?_
  refine k_newa (pc := 7) (N := (a + 1)) (m := 6) C hz (by omega) (by omega) rfl (by decide) (by omega) (by omega) dX3_init_7 ?_
  refine k_putF (pc := 9) (a := a) (fs := [.null, .null, .null, .null, .null, .int 0]) (fs' := [.ref (a + 1), .null, .null, .null, .null, .int 0]) C hin uX3_9 (by omega) (by simp (disch := omega) only [fu_at, fu_ne, fm_at, fm_ne, h0]) (Nat.le_of_ble_eq_true rfl) rfl rfl rfl dX3_init_9 ?_
  refine g_al0n (pc := 12) C dX3_init_12 ?_
  refine g_iconst (pc := 13) (v := 4) C dX3_init_13 (by decide) ?_
  refine k_newa (pc := 14) (N := (a + 2)) (m := 4) C hz (by omega) (by omega) rfl (by decide) (by omega) (by omega) dX3_init_14 ?_
  refine k_putF (pc := 16) (a := a) (fs := [.ref (a + 1), .null, .null, .null, .null, .int 0]) (fs' := [.ref (a + 1), .ref (a + 2), .null, .null, .null, .int 0]) C hin uX3_13 (by omega) (by simp (disch := omega) only [fu_at, fu_ne, fm_at, fm_ne, h0]) (Nat.le_of_ble_eq_true rfl) rfl rfl rfl dX3_init_16 ?_
  refine g_al0n (pc := 19) C dX3_init_19 ?_
  refine g_bipush (pc := 20) (v := 6) C dX3_init_20 (by decide) ?_
  refine k_newa (pc := 22) (N := (a + 3)) (m := 6) C hz (by omega) (by omega) rfl (by decide) (by omega) (by omega) dX3_init_22 ?_
  refine k_putF (pc := 24) (a := a) (fs := [.ref (a + 1), .ref (a + 2), .null, .null, .null, .int 0]) (fs' := [.ref (a + 1), .ref (a + 2), .ref (a + 3), .null, .null, .int 0]) C hin uX3_16 (by omega) (by simp (disch := omega) only [fu_at, fu_ne, fm_at, fm_ne, h0]) (Nat.le_of_ble_eq_true rfl) rfl rfl rfl dX3_init_24 ?_
  refine g_al0n (pc := 27) C dX3_init_27 ?_
  refine g_bipush (pc := 28) (v := 6) C dX3_init_28 (by decide) ?_
  refine k_newa (pc := 30) (N := (a + 4)) (m := 6) C hz (by omega) (by omega) rfl (by decide) (by omega) (by omega) dX3_init_30 ?_
  refine k_putF (pc := 32) (a := a) (fs := [.ref (a + 1), .ref (a + 2), .ref (a + 3), .null, .null, .int 0]) (fs' := [.ref (a + 1), .ref (a + 2), .ref (a + 3), .ref (a + 4), .null, .int 0]) C hin uX3_19 (by omega) (by simp (disch := omega) only [fu_at, fu_ne, fm_at, fm_ne, h0]) (Nat.le_of_ble_eq_true rfl) rfl rfl rfl dX3_init_32 ?_
  refine g_al0n (pc := 35) C dX3_init_35 ?_
  refine g_bipush (pc := 36) (v := 6) C dX3_init_36 (by decide) ?_
  refine k_newa (pc := 38) (N := (a + 5)) (m := 6) C hz (by omega) (by omega) rfl (by decide) (by omega) (by omega) dX3_init_38 ?_
  refine k_putF (pc := 40) (a := a) (fs := [.ref (a + 1), .ref (a + 2), .ref (a + 3), .ref (a + 4), .null, .int 0]) (fs' := [.ref (a + 1), .ref (a + 2), .ref (a + 3), .ref (a + 4), .ref (a + 5), .int 0]) C hin uX3_22 (by omega) (by simp (disch := omega) only [fu_at, fu_ne, fm_at, fm_ne, h0]) (Nat.le_of_ble_eq_true rfl) rfl rfl rfl dX3_init_40 ?_
  refine g_al0n (pc := 43) C dX3_init_43 ?_
  refine g_iconst (pc := 44) (v := 0) C dX3_init_44 (by decide) ?_
  refine k_put (pc := 45) (a := a) (fs := [.ref (a + 1), .ref (a + 2), .ref (a + 3), .ref (a + 4), .ref (a + 5), .int 0]) (fs' := [.ref (a + 1), .ref (a + 2), .ref (a + 3), .ref (a + 4), .ref (a + 5), .int 0]) C pX3_25 (by omega) (by simp (disch := omega) only [fu_at, fu_ne, fm_at, fm_ne, h0]) (Nat.le_of_ble_eq_true rfl) rfl rfl rfl dX3_init_45 ?_
  refine g_iconst (pc := 48) (v := 0) C dX3_init_48 (by decide) ?_
  refine g_is1n (pc := 49) C dX3_init_49 ?_
  refine g_il1n (pc := 50) C dX3_init_50 ?_
  refine g_bipush (pc := 51) (v := 6) C dX3_init_51 (by decide) ?_
  refine g_icmp_geL (pc := 53) (tgt := 71) C dX3_init_53 (by decide) (fun c => absurd c (by decide)) (fun _ => ?_)
  refine g_al0n (pc := 56) C dX3_init_56 ?_
  refine k_get (pc := 57) (a := a) (fs := [.ref (a + 1), .ref (a + 2), .ref (a + 3), .ref (a + 4), .ref (a + 5), .int 0]) (v := .ref (a + 1)) C fX3_9 (by omega) (by simp (disch := omega) only [fu_at, fu_ne, fm_at, fm_ne, h0]) rfl dX3_init_57 ?_
  refine g_il1n (pc := 60) C dX3_init_60 ?_
  refine g_iconst (pc := 61) (v := 1) C dX3_init_61 (by decide) ?_
  refine g_il1n (pc := 62) C dX3_init_62 ?_
  refine g_ishl (pc := 63) C dX3_init_63 ?_
  refine k_iastv (w := 1) (hx := (by first | rfl | decide)) (pc := 64) (a := (a + 1)) (m := 6) (q := 0) (g := (fun _ => 0)) C (by omega) (by simp (disch := omega) only [fu_at, fu_ne, fm_at, fm_ne, h0]) (by first | rfl | decide) (by decide) (by decide) dX3_init_64 ?_
  refine g_ii1 (pc := 65) (v := 1) C dX3_init_65 (by decide) ?_
  refine g_goto (pc := 68) (tgt := 50) C dX3_init_68 (by decide) ?_
  refine g_il1n (pc := 50) C dX3_init_50 ?_
  refine g_bipush (pc := 51) (v := 6) C dX3_init_51 (by decide) ?_
  refine g_icmp_geL (pc := 53) (tgt := 71) C dX3_init_53 (by decide) (fun c => absurd c (by decide)) (fun _ => ?_)
  refine g_al0n (pc := 56) C dX3_init_56 ?_
  refine k_get (pc := 57) (a := a) (fs := [.ref (a + 1), .ref (a + 2), .ref (a + 3), .ref (a + 4), .ref (a + 5), .int 0]) (v := .ref (a + 1)) C fX3_9 (by omega) (by simp (disch := omega) only [fu_at, fu_ne, fm_at, fm_ne, h0]) rfl dX3_init_57 ?_
  refine g_il1n (pc := 60) C dX3_init_60 ?_
  refine g_iconst (pc := 61) (v := 1) C dX3_init_61 (by decide) ?_
  refine g_il1n (pc := 62) C dX3_init_62 ?_
  refine g_ishl (pc := 63) C dX3_init_63 ?_
  refine k_iastv (w := 2) (hx := (by first | rfl | decide)) (pc := 64) (a := (a + 1)) (m := 6) (q := 1) (g := (upd (fun _ => 0) (0) 1)) C (by omega) (by simp (disch := omega) only [fu_at, fu_ne, fm_at, fm_ne, h0]) (by first | rfl | decide) (by decide) (by decide) dX3_init_64 ?_
  refine g_ii1 (pc := 65) (v := 2) C dX3_init_65 (by decide) ?_
  refine g_goto (pc := 68) (tgt := 50) C dX3_init_68 (by decide) ?_
  refine g_il1n (pc := 50) C dX3_init_50 ?_
  refine g_bipush (pc := 51) (v := 6) C dX3_init_51 (by decide) ?_
  refine g_icmp_geL (pc := 53) (tgt := 71) C dX3_init_53 (by decide) (fun c => absurd c (by decide)) (fun _ => ?_)
  refine g_al0n (pc := 56) C dX3_init_56 ?_
  refine k_get (pc := 57) (a := a) (fs := [.ref (a + 1), .ref (a + 2), .ref (a + 3), .ref (a + 4), .ref (a + 5), .int 0]) (v := .ref (a + 1)) C fX3_9 (by omega) (by simp (disch := omega) only [fu_at, fu_ne, fm_at, fm_ne, h0]) rfl dX3_init_57 ?_
  refine g_il1n (pc := 60) C dX3_init_60 ?_
  refine g_iconst (pc := 61) (v := 1) C dX3_init_61 (by decide) ?_
  refine g_il1n (pc := 62) C dX3_init_62 ?_
  refine g_ishl (pc := 63) C dX3_init_63 ?_
  refine k_iastv (w := 4) (hx := (by first | rfl | decide)) (pc := 64) (a := (a + 1)) (m := 6) (q := 2) (g := (upd (upd (fun _ => 0) (0) 1) (1) 2)) C (by omega) (by simp (disch := omega) only [fu_at, fu_ne, fm_at, fm_ne, h0]) (by first | rfl | decide) (by decide) (by decide) dX3_init_64 ?_
  refine g_ii1 (pc := 65) (v := 3) C dX3_init_65 (by decide) ?_
  refine g_goto (pc := 68) (tgt := 50) C dX3_init_68 (by decide) ?_
  refine g_il1n (pc := 50) C dX3_init_50 ?_
  refine g_bipush (pc := 51) (v := 6) C dX3_init_51 (by decide) ?_
  refine g_icmp_geL (pc := 53) (tgt := 71) C dX3_init_53 (by decide) (fun c => absurd c (by decide)) (fun _ => ?_)
  refine g_al0n (pc := 56) C dX3_init_56 ?_
  refine k_get (pc := 57) (a := a) (fs := [.ref (a + 1), .ref (a + 2), .ref (a + 3), .ref (a + 4), .ref (a + 5), .int 0]) (v := .ref (a + 1)) C fX3_9 (by omega) (by simp (disch := omega) only [fu_at, fu_ne, fm_at, fm_ne, h0]) rfl dX3_init_57 ?_
  refine g_il1n (pc := 60) C dX3_init_60 ?_
  refine g_iconst (pc := 61) (v := 1) C dX3_init_61 (by decide) ?_
  refine g_il1n (pc := 62) C dX3_init_62 ?_
  refine g_ishl (pc := 63) C dX3_init_63 ?_
  refine k_iastv (w := 8) (hx := (by first | rfl | decide)) (pc := 64) (a := (a + 1)) (m := 6) (q := 3) (g := (upd (upd (upd (fun _ => 0) (0) 1) (1) 2) (2) 4)) C (by omega) (by simp (disch := omega) only [fu_at, fu_ne, fm_at, fm_ne, h0]) (by first | rfl | decide) (by decide) (by decide) dX3_init_64 ?_
  refine g_ii1 (pc := 65) (v := 4) C dX3_init_65 (by decide) ?_
  refine g_goto (pc := 68) (tgt := 50) C dX3_init_68 (by decide) ?_
  refine g_il1n (pc := 50) C dX3_init_50 ?_
  refine g_bipush (pc := 51) (v := 6) C dX3_init_51 (by decide) ?_
  refine g_icmp_geL (pc := 53) (tgt := 71) C dX3_init_53 (by decide) (fun c => absurd c (by decide)) (fun _ => ?_)
  refine g_al0n (pc := 56) C dX3_init_56 ?_
  refine k_get (pc := 57) (a := a) (fs := [.ref (a + 1), .ref (a + 2), .ref (a + 3), .ref (a + 4), .ref (a + 5), .int 0]) (v := .ref (a + 1)) C fX3_9 (by omega) (by simp (disch := omega) only [fu_at, fu_ne, fm_at, fm_ne, h0]) rfl dX3_init_57 ?_
  refine g_il1n (pc := 60) C dX3_init_60 ?_
  refine g_iconst (pc := 61) (v := 1) C dX3_init_61 (by decide) ?_
  refine g_il1n (pc := 62) C dX3_init_62 ?_
  refine g_ishl (pc := 63) C dX3_init_63 ?_
  refine k_iastv (w := 16) (hx := (by first | rfl | decide)) (pc := 64) (a := (a + 1)) (m := 6) (q := 4) (g := (upd (upd (upd (upd (fun _ => 0) (0) 1) (1) 2) (2) 4) (3) 8)) C (by omega) (by simp (disch := omega) only [fu_at, fu_ne, fm_at, fm_ne, h0]) (by first | rfl | decide) (by decide) (by decide) dX3_init_64 ?_
  refine g_ii1 (pc := 65) (v := 5) C dX3_init_65 (by decide) ?_
  refine g_goto (pc := 68) (tgt := 50) C dX3_init_68 (by decide) ?_
  refine g_il1n (pc := 50) C dX3_init_50 ?_
  refine g_bipush (pc := 51) (v := 6) C dX3_init_51 (by decide) ?_
  refine g_icmp_geL (pc := 53) (tgt := 71) C dX3_init_53 (by decide) (fun c => absurd c (by decide)) (fun _ => ?_)
  refine g_al0n (pc := 56) C dX3_init_56 ?_
  refine k_get (pc := 57) (a := a) (fs := [.ref (a + 1), .ref (a + 2), .ref (a + 3), .ref (a + 4), .ref (a + 5), .int 0]) (v := .ref (a + 1)) C fX3_9 (by omega) (by simp (disch := omega) only [fu_at, fu_ne, fm_at, fm_ne, h0]) rfl dX3_init_57 ?_
  refine g_il1n (pc := 60) C dX3_init_60 ?_
  refine g_iconst (pc := 61) (v := 1) C dX3_init_61 (by decide) ?_
  refine g_il1n (pc := 62) C dX3_init_62 ?_
  refine g_ishl (pc := 63) C dX3_init_63 ?_
  refine k_iastv (w := 32) (hx := (by first | rfl | decide)) (pc := 64) (a := (a + 1)) (m := 6) (q := 5) (g := (upd (upd (upd (upd (upd (fun _ => 0) (0) 1) (1) 2) (2) 4) (3) 8) (4) 16)) C (by omega) (by simp (disch := omega) only [fu_at, fu_ne, fm_at, fm_ne, h0]) (by first | rfl | decide) (by decide) (by decide) dX3_init_64 ?_
  refine g_ii1 (pc := 65) (v := 6) C dX3_init_65 (by decide) ?_
  refine g_goto (pc := 68) (tgt := 50) C dX3_init_68 (by decide) ?_
  refine g_il1n (pc := 50) C dX3_init_50 ?_
  refine g_bipush (pc := 51) (v := 6) C dX3_init_51 (by decide) ?_
  refine g_icmp_geL (pc := 53) (tgt := 71) C dX3_init_53 (by decide) (fun _ => ?_) (fun c => absurd c (by decide))
  refine g_iconst (pc := 71) (v := 0) C dX3_init_71 (by decide) ?_
  refine g_is1n (pc := 72) C dX3_init_72 ?_
  refine g_il1n (pc := 73) C dX3_init_73 ?_
  refine g_iconst (pc := 74) (v := 4) C dX3_init_74 (by decide) ?_
  refine g_icmp_geL (pc := 75) (tgt := 91) C dX3_init_75 (by decide) (fun c => absurd c (by decide)) (fun _ => ?_)
  refine g_al0n (pc := 78) C dX3_init_78 ?_
  refine k_get (pc := 79) (a := a) (fs := [.ref (a + 1), .ref (a + 2), .ref (a + 3), .ref (a + 4), .ref (a + 5), .int 0]) (v := .ref (a + 2)) C fX3_13 (by omega) (by simp (disch := omega) only [fu_at, fu_ne, fm_at, fm_ne, h0]) rfl dX3_init_79 ?_
  refine g_il1n (pc := 82) C dX3_init_82 ?_
  refine g_il1n (pc := 83) C dX3_init_83 ?_
  refine k_iastv (w := 0) (hx := (by first | rfl | decide)) (pc := 84) (a := (a + 2)) (m := 4) (q := 0) (g := (fun _ => 0)) C (by omega) (by simp (disch := omega) only [fu_at, fu_ne, fm_at, fm_ne, h0]) (by first | rfl | decide) (by decide) (by decide) dX3_init_84 ?_
  refine g_ii1 (pc := 85) (v := 1) C dX3_init_85 (by decide) ?_
  refine g_goto (pc := 88) (tgt := 73) C dX3_init_88 (by decide) ?_
  refine g_il1n (pc := 73) C dX3_init_73 ?_
  refine g_iconst (pc := 74) (v := 4) C dX3_init_74 (by decide) ?_
  refine g_icmp_geL (pc := 75) (tgt := 91) C dX3_init_75 (by decide) (fun c => absurd c (by decide)) (fun _ => ?_)
  refine g_al0n (pc := 78) C dX3_init_78 ?_
  refine k_get (pc := 79) (a := a) (fs := [.ref (a + 1), .ref (a + 2), .ref (a + 3), .ref (a + 4), .ref (a + 5), .int 0]) (v := .ref (a + 2)) C fX3_13 (by omega) (by simp (disch := omega) only [fu_at, fu_ne, fm_at, fm_ne, h0]) rfl dX3_init_79 ?_
  refine g_il1n (pc := 82) C dX3_init_82 ?_
  refine g_il1n (pc := 83) C dX3_init_83 ?_
  refine k_iastv (w := 1) (hx := (by first | rfl | decide)) (pc := 84) (a := (a + 2)) (m := 4) (q := 1) (g := (upd (fun _ => 0) (0) 0)) C (by omega) (by simp (disch := omega) only [fu_at, fu_ne, fm_at, fm_ne, h0]) (by first | rfl | decide) (by decide) (by decide) dX3_init_84 ?_
  refine g_ii1 (pc := 85) (v := 2) C dX3_init_85 (by decide) ?_
  refine g_goto (pc := 88) (tgt := 73) C dX3_init_88 (by decide) ?_
  refine g_il1n (pc := 73) C dX3_init_73 ?_
  refine g_iconst (pc := 74) (v := 4) C dX3_init_74 (by decide) ?_
  refine g_icmp_geL (pc := 75) (tgt := 91) C dX3_init_75 (by decide) (fun c => absurd c (by decide)) (fun _ => ?_)
  refine g_al0n (pc := 78) C dX3_init_78 ?_
  refine k_get (pc := 79) (a := a) (fs := [.ref (a + 1), .ref (a + 2), .ref (a + 3), .ref (a + 4), .ref (a + 5), .int 0]) (v := .ref (a + 2)) C fX3_13 (by omega) (by simp (disch := omega) only [fu_at, fu_ne, fm_at, fm_ne, h0]) rfl dX3_init_79 ?_
  refine g_il1n (pc := 82) C dX3_init_82 ?_
  refine g_il1n (pc := 83) C dX3_init_83 ?_
  refine k_iastv (w := 2) (hx := (by first | rfl | decide)) (pc := 84) (a := (a + 2)) (m := 4) (q := 2) (g := (upd (upd (fun _ => 0) (0) 0) (1) 1)) C (by omega) (by simp (disch := omega) only [fu_at, fu_ne, fm_at, fm_ne, h0]) (by first | rfl | decide) (by decide) (by decide) dX3_init_84 ?_
  refine g_ii1 (pc := 85) (v := 3) C dX3_init_85 (by decide) ?_
  refine g_goto (pc := 88) (tgt := 73) C dX3_init_88 (by decide) ?_
  refine g_il1n (pc := 73) C dX3_init_73 ?_
  refine g_iconst (pc := 74) (v := 4) C dX3_init_74 (by decide) ?_
  refine g_icmp_geL (pc := 75) (tgt := 91) C dX3_init_75 (by decide) (fun c => absurd c (by decide)) (fun _ => ?_)
  refine g_al0n (pc := 78) C dX3_init_78 ?_
  refine k_get (pc := 79) (a := a) (fs := [.ref (a + 1), .ref (a + 2), .ref (a + 3), .ref (a + 4), .ref (a + 5), .int 0]) (v := .ref (a + 2)) C fX3_13 (by omega) (by simp (disch := omega) only [fu_at, fu_ne, fm_at, fm_ne, h0]) rfl dX3_init_79 ?_
  refine g_il1n (pc := 82) C dX3_init_82 ?_
  refine g_il1n (pc := 83) C dX3_init_83 ?_
  refine k_iastv (w := 3) (hx := (by first | rfl | decide)) (pc := 84) (a := (a + 2)) (m := 4) (q := 3) (g := (upd (upd (upd (fun _ => 0) (0) 0) (1) 1) (2) 2)) C (by omega) (by simp (disch := omega) only [fu_at, fu_ne, fm_at, fm_ne, h0]) (by first | rfl | decide) (by decide) (by decide) dX3_init_84 ?_
  refine g_ii1 (pc := 85) (v := 4) C dX3_init_85 (by decide) ?_
  refine g_goto (pc := 88) (tgt := 73) C dX3_init_88 (by decide) ?_
  refine g_il1n (pc := 73) C dX3_init_73 ?_
  refine g_iconst (pc := 74) (v := 4) C dX3_init_74 (by decide) ?_
  refine g_icmp_geL (pc := 75) (tgt := 91) C dX3_init_75 (by decide) (fun _ => ?_) (fun c => absurd c (by decide))
  exact k_vret C hr dX3_init_91 (by omega) (by omega) ⟨_, rfl, ⟨(by simp (disch := omega) only [fu_at, fu_ne, fm_at, fm_row, fm_ne, h0]), (by simp (disch := omega) only [fu_at, fu_ne, fm_at, fm_row, fm_ne, h0]), (by simp (disch := omega) only [fu_at, fu_ne, fm_at, fm_row, fm_ne, h0]), (by simp (disch := omega) only [fu_at, fu_ne, fm_at, fm_row, fm_ne, h0]), (by simp (disch := omega) only [fu_at, fu_ne, fm_at, fm_row, fm_ne, h0]), (by simp (disch := omega) only [fu_at, fu_ne, fm_at, fm_row, fm_ne, h0])⟩, fun q hq => by simp (disch := omega) only [fu_ne, fm_ne]⟩
/-- what TowField$Asks() leaves -/
def B_X0 (f : Nat → AE) (a : Nat) : Prop := f a = .inr (.inr (0, [.ref (a + 1), .ref (a + 2), .ref (a + 3), .ref (a + 4), .ref (a + 5), .ref (a + 6), .ref (a + 7), .ref (a + 8), .ref (a + 9), .ref (a + 10), .ref (a + 11), .ref (a + 12), .int 0])) ∧ f (a + 1) = .inl (20, fun _ => 0) ∧ f (a + 2) = .inl (20, fun _ => 0) ∧ f (a + 3) = .inl (20, fun _ => 0) ∧ f (a + 4) = .inl (20, fun _ => 0) ∧ f (a + 5) = .inl (20, fun _ => 0) ∧ f (a + 6) = .inl (20, fun _ => 0) ∧ f (a + 7) = .inl (20, fun _ => 0) ∧ f (a + 8) = .inl (20, fun _ => 0) ∧ f (a + 9) = .inl (20, fun _ => 0) ∧ f (a + 10) = .inl (20, fun _ => 0) ∧ f (a + 11) = .inl (20, fun _ => 0) ∧ f (a + 12) = .inl (20, fun _ => 0)
theorem B_X0_fr {f f' : Nat → AE} {a : Nat} (h : ∀ q, a ≤ q → q ≤ a + 12 → f' q = f q) (hb : B_X0 f a) : B_X0 f' a := ⟨(h _ (by omega) (by omega)).trans hb.1, (h _ (by omega) (by omega)).trans hb.2.1, (h _ (by omega) (by omega)).trans hb.2.2.1, (h _ (by omega) (by omega)).trans hb.2.2.2.1, (h _ (by omega) (by omega)).trans hb.2.2.2.2.1, (h _ (by omega) (by omega)).trans hb.2.2.2.2.2.1, (h _ (by omega) (by omega)).trans hb.2.2.2.2.2.2.1, (h _ (by omega) (by omega)).trans hb.2.2.2.2.2.2.2.1, (h _ (by omega) (by omega)).trans hb.2.2.2.2.2.2.2.2.1, (h _ (by omega) (by omega)).trans hb.2.2.2.2.2.2.2.2.2.1, (h _ (by omega) (by omega)).trans hb.2.2.2.2.2.2.2.2.2.2.1, (h _ (by omega) (by omega)).trans hb.2.2.2.2.2.2.2.2.2.2.2.1, (h _ (by omega) (by omega)).trans hb.2.2.2.2.2.2.2.2.2.2.2.2⟩
set_option maxHeartbeats 4000000 in
theorem K_X0 {d : Nat} (hd : 2 ≤ d) {a : Nat} (ha : a + 1 + 12 ≤ 148) {f : Nat → AE} (h0 : f a = .inr (.inr (0, [.null, .null, .null, .null, .null, .null, .null, .null, .null, .null, .null, .null, .int 0]))) : KCon d 12 240 mX0_init [.ref a] (hp (a + 1) f) (fun h => ∃ g, h = hp (a + 13) g ∧ B_X0 g a ∧ ∀ k, k < a → g k = f k) := by
  refine kcon_of (by decide) (catL rfl) (Nat.le_of_ble_eq_true rfl) ?_
  intro μ ω C hr hin hz hc hk
  have C : Cx μ ω "TowField$Asks" cX0_init 1 d := C
  have hr : (mH μ).sig.returnType = none := hr
  have hin : (mH μ).name = "<init>" := hin
  rw [hp_len] at hz
  show G μ ω (RK μ ω 12 240 _) 0 [some (.ref a)] [] (hp (a + 1) f) 0 0
  refine g_al0n (pc := 0) C dX0_init_0 ?_
  refine k_obj (pc := 1) (st := []) C obX0_1 (by omega) rfl (Nat.le_of_ble_eq_true rfl) dX0_init_1 ?_
  refine g_al0n (pc := 4) C dX0_init_4 ?_
  refine g_bipush (pc := 5) (v := 20) C dX0_init_5 (by decide) ?_
  refine k_newa (pc := 7) (N := (a + 1)) (m := 20) C hz (by omega) (by omega) rfl (by decide) (by omega) (by omega) dX0_init_7 ?_
  refine k_putF (pc := 9) (a := a) (fs := [.null, .null, .null, .null, .null, .null, .null, .null, .null, .null, .null, .null, .int 0]) (fs' := [.ref (a + 1), .null, .null, .null, .null, .null, .null, .null, .null, .null, .null, .null, .int 0]) C hin uX0_9 (by omega) (by simp (disch := omega) only [fu_at, fu_ne, fm_at, fm_ne, h0]) (Nat.le_of_ble_eq_true rfl) rfl rfl rfl dX0_init_9 ?_
  refine g_al0n (pc := 12) C dX0_init_12 ?_
  refine g_bipush (pc := 13) (v := 20) C dX0_init_13 (by decide) ?_
  refine k_newa (pc := 15) (N := (a + 2)) (m := 20) C hz (by omega) (by omega) rfl (by decide) (by omega) (by omega) dX0_init_15 ?_
  refine k_putF (pc := 17) (a := a) (fs := [.ref (a + 1), .null, .null, .null, .null, .null, .null, .null, .null, .null, .null, .null, .int 0]) (fs' := [.ref (a + 1), .ref (a + 2), .null, .null, .null, .null, .null, .null, .null, .null, .null, .null, .int 0]) C hin uX0_13 (by omega) (by simp (disch := omega) only [fu_at, fu_ne, fm_at, fm_ne, h0]) (Nat.le_of_ble_eq_true rfl) rfl rfl rfl dX0_init_17 ?_
  refine g_al0n (pc := 20) C dX0_init_20 ?_
  refine g_bipush (pc := 21) (v := 20) C dX0_init_21 (by decide) ?_
  refine k_newa (pc := 23) (N := (a + 3)) (m := 20) C hz (by omega) (by omega) rfl (by decide) (by omega) (by omega) dX0_init_23 ?_
  refine k_putF (pc := 25) (a := a) (fs := [.ref (a + 1), .ref (a + 2), .null, .null, .null, .null, .null, .null, .null, .null, .null, .null, .int 0]) (fs' := [.ref (a + 1), .ref (a + 2), .ref (a + 3), .null, .null, .null, .null, .null, .null, .null, .null, .null, .int 0]) C hin uX0_16 (by omega) (by simp (disch := omega) only [fu_at, fu_ne, fm_at, fm_ne, h0]) (Nat.le_of_ble_eq_true rfl) rfl rfl rfl dX0_init_25 ?_
  refine g_al0n (pc := 28) C dX0_init_28 ?_
  refine g_bipush (pc := 29) (v := 20) C dX0_init_29 (by decide) ?_
  refine k_newa (pc := 31) (N := (a + 4)) (m := 20) C hz (by omega) (by omega) rfl (by decide) (by omega) (by omega) dX0_init_31 ?_
  refine k_putF (pc := 33) (a := a) (fs := [.ref (a + 1), .ref (a + 2), .ref (a + 3), .null, .null, .null, .null, .null, .null, .null, .null, .null, .int 0]) (fs' := [.ref (a + 1), .ref (a + 2), .ref (a + 3), .ref (a + 4), .null, .null, .null, .null, .null, .null, .null, .null, .int 0]) C hin uX0_19 (by omega) (by simp (disch := omega) only [fu_at, fu_ne, fm_at, fm_ne, h0]) (Nat.le_of_ble_eq_true rfl) rfl rfl rfl dX0_init_33 ?_
  refine g_al0n (pc := 36) C dX0_init_36 ?_
  refine g_bipush (pc := 37) (v := 20) C dX0_init_37 (by decide) ?_
  refine k_newa (pc := 39) (N := (a + 5)) (m := 20) C hz (by omega) (by omega) rfl (by decide) (by omega) (by omega) dX0_init_39 ?_
  refine k_putF (pc := 41) (a := a) (fs := [.ref (a + 1), .ref (a + 2), .ref (a + 3), .ref (a + 4), .null, .null, .null, .null, .null, .null, .null, .null, .int 0]) (fs' := [.ref (a + 1), .ref (a + 2), .ref (a + 3), .ref (a + 4), .ref (a + 5), .null, .null, .null, .null, .null, .null, .null, .int 0]) C hin uX0_22 (by omega) (by simp (disch := omega) only [fu_at, fu_ne, fm_at, fm_ne, h0]) (Nat.le_of_ble_eq_true rfl) rfl rfl rfl dX0_init_41 ?_
  refine g_al0n (pc := 44) C dX0_init_44 ?_
  refine g_bipush (pc := 45) (v := 20) C dX0_init_45 (by decide) ?_
  refine k_newa (pc := 47) (N := (a + 6)) (m := 20) C hz (by omega) (by omega) rfl (by decide) (by omega) (by omega) dX0_init_47 ?_
  refine k_putF (pc := 49) (a := a) (fs := [.ref (a + 1), .ref (a + 2), .ref (a + 3), .ref (a + 4), .ref (a + 5), .null, .null, .null, .null, .null, .null, .null, .int 0]) (fs' := [.ref (a + 1), .ref (a + 2), .ref (a + 3), .ref (a + 4), .ref (a + 5), .ref (a + 6), .null, .null, .null, .null, .null, .null, .int 0]) C hin uX0_25 (by omega) (by simp (disch := omega) only [fu_at, fu_ne, fm_at, fm_ne, h0]) (Nat.le_of_ble_eq_true rfl) rfl rfl rfl dX0_init_49 ?_
  refine g_al0n (pc := 52) C dX0_init_52 ?_
  refine g_bipush (pc := 53) (v := 20) C dX0_init_53 (by decide) ?_
  refine k_newa (pc := 55) (N := (a + 7)) (m := 20) C hz (by omega) (by omega) rfl (by decide) (by omega) (by omega) dX0_init_55 ?_
  refine k_putF (pc := 57) (a := a) (fs := [.ref (a + 1), .ref (a + 2), .ref (a + 3), .ref (a + 4), .ref (a + 5), .ref (a + 6), .null, .null, .null, .null, .null, .null, .int 0]) (fs' := [.ref (a + 1), .ref (a + 2), .ref (a + 3), .ref (a + 4), .ref (a + 5), .ref (a + 6), .ref (a + 7), .null, .null, .null, .null, .null, .int 0]) C hin uX0_28 (by omega) (by simp (disch := omega) only [fu_at, fu_ne, fm_at, fm_ne, h0]) (Nat.le_of_ble_eq_true rfl) rfl rfl rfl dX0_init_57 ?_
  refine g_al0n (pc := 60) C dX0_init_60 ?_
  refine g_bipush (pc := 61) (v := 20) C dX0_init_61 (by decide) ?_
  refine k_newa (pc := 63) (N := (a + 8)) (m := 20) C hz (by omega) (by omega) rfl (by decide) (by omega) (by omega) dX0_init_63 ?_
  refine k_putF (pc := 65) (a := a) (fs := [.ref (a + 1), .ref (a + 2), .ref (a + 3), .ref (a + 4), .ref (a + 5), .ref (a + 6), .ref (a + 7), .null, .null, .null, .null, .null, .int 0]) (fs' := [.ref (a + 1), .ref (a + 2), .ref (a + 3), .ref (a + 4), .ref (a + 5), .ref (a + 6), .ref (a + 7), .ref (a + 8), .null, .null, .null, .null, .int 0]) C hin uX0_31 (by omega) (by simp (disch := omega) only [fu_at, fu_ne, fm_at, fm_ne, h0]) (Nat.le_of_ble_eq_true rfl) rfl rfl rfl dX0_init_65 ?_
  refine g_al0n (pc := 68) C dX0_init_68 ?_
  refine g_bipush (pc := 69) (v := 20) C dX0_init_69 (by decide) ?_
  refine k_newa (pc := 71) (N := (a + 9)) (m := 20) C hz (by omega) (by omega) rfl (by decide) (by omega) (by omega) dX0_init_71 ?_
  refine k_putF (pc := 73) (a := a) (fs := [.ref (a + 1), .ref (a + 2), .ref (a + 3), .ref (a + 4), .ref (a + 5), .ref (a + 6), .ref (a + 7), .ref (a + 8), .null, .null, .null, .null, .int 0]) (fs' := [.ref (a + 1), .ref (a + 2), .ref (a + 3), .ref (a + 4), .ref (a + 5), .ref (a + 6), .ref (a + 7), .ref (a + 8), .ref (a + 9), .null, .null, .null, .int 0]) C hin uX0_34 (by omega) (by simp (disch := omega) only [fu_at, fu_ne, fm_at, fm_ne, h0]) (Nat.le_of_ble_eq_true rfl) rfl rfl rfl dX0_init_73 ?_
  refine g_al0n (pc := 76) C dX0_init_76 ?_
  refine g_bipush (pc := 77) (v := 20) C dX0_init_77 (by decide) ?_
  refine k_newa (pc := 79) (N := (a + 10)) (m := 20) C hz (by omega) (by omega) rfl (by decide) (by omega) (by omega) dX0_init_79 ?_
  refine k_putF (pc := 81) (a := a) (fs := [.ref (a + 1), .ref (a + 2), .ref (a + 3), .ref (a + 4), .ref (a + 5), .ref (a + 6), .ref (a + 7), .ref (a + 8), .ref (a + 9), .null, .null, .null, .int 0]) (fs' := [.ref (a + 1), .ref (a + 2), .ref (a + 3), .ref (a + 4), .ref (a + 5), .ref (a + 6), .ref (a + 7), .ref (a + 8), .ref (a + 9), .ref (a + 10), .null, .null, .int 0]) C hin uX0_37 (by omega) (by simp (disch := omega) only [fu_at, fu_ne, fm_at, fm_ne, h0]) (Nat.le_of_ble_eq_true rfl) rfl rfl rfl dX0_init_81 ?_
  refine g_al0n (pc := 84) C dX0_init_84 ?_
  refine g_bipush (pc := 85) (v := 20) C dX0_init_85 (by decide) ?_
  refine k_newa (pc := 87) (N := (a + 11)) (m := 20) C hz (by omega) (by omega) rfl (by decide) (by omega) (by omega) dX0_init_87 ?_
  refine k_putF (pc := 89) (a := a) (fs := [.ref (a + 1), .ref (a + 2), .ref (a + 3), .ref (a + 4), .ref (a + 5), .ref (a + 6), .ref (a + 7), .ref (a + 8), .ref (a + 9), .ref (a + 10), .null, .null, .int 0]) (fs' := [.ref (a + 1), .ref (a + 2), .ref (a + 3), .ref (a + 4), .ref (a + 5), .ref (a + 6), .ref (a + 7), .ref (a + 8), .ref (a + 9), .ref (a + 10), .ref (a + 11), .null, .int 0]) C hin uX0_40 (by omega) (by simp (disch := omega) only [fu_at, fu_ne, fm_at, fm_ne, h0]) (Nat.le_of_ble_eq_true rfl) rfl rfl rfl dX0_init_89 ?_
  refine g_al0n (pc := 92) C dX0_init_92 ?_
  refine g_bipush (pc := 93) (v := 20) C dX0_init_93 (by decide) ?_
  refine k_newa (pc := 95) (N := (a + 12)) (m := 20) C hz (by omega) (by omega) rfl (by decide) (by omega) (by omega) dX0_init_95 ?_
  refine k_putF (pc := 97) (a := a) (fs := [.ref (a + 1), .ref (a + 2), .ref (a + 3), .ref (a + 4), .ref (a + 5), .ref (a + 6), .ref (a + 7), .ref (a + 8), .ref (a + 9), .ref (a + 10), .ref (a + 11), .null, .int 0]) (fs' := [.ref (a + 1), .ref (a + 2), .ref (a + 3), .ref (a + 4), .ref (a + 5), .ref (a + 6), .ref (a + 7), .ref (a + 8), .ref (a + 9), .ref (a + 10), .ref (a + 11), .ref (a + 12), .int 0]) C hin uX0_43 (by omega) (by simp (disch := omega) only [fu_at, fu_ne, fm_at, fm_ne, h0]) (Nat.le_of_ble_eq_true rfl) rfl rfl rfl dX0_init_97 ?_
  refine g_al0n (pc := 100) C dX0_init_100 ?_
  refine g_iconst (pc := 101) (v := 0) C dX0_init_101 (by decide) ?_
  refine k_put (pc := 102) (a := a) (fs := [.ref (a + 1), .ref (a + 2), .ref (a + 3), .ref (a + 4), .ref (a + 5), .ref (a + 6), .ref (a + 7), .ref (a + 8), .ref (a + 9), .ref (a + 10), .ref (a + 11), .ref (a + 12), .int 0]) (fs' := [.ref (a + 1), .ref (a + 2), .ref (a + 3), .ref (a + 4), .ref (a + 5), .ref (a + 6), .ref (a + 7), .ref (a + 8), .ref (a + 9), .ref (a + 10), .ref (a + 11), .ref (a + 12), .int 0]) C pX0_46 (by omega) (by simp (disch := omega) only [fu_at, fu_ne, fm_at, fm_ne, h0]) (Nat.le_of_ble_eq_true rfl) rfl rfl rfl dX0_init_102 ?_
  exact k_vret C hr dX0_init_105 (by omega) (by omega) ⟨_, rfl, ⟨(by simp (disch := omega) only [fu_at, fu_ne, fm_at, fm_row, fm_ne, h0]), (by simp (disch := omega) only [fu_at, fu_ne, fm_at, fm_row, fm_ne, h0]), (by simp (disch := omega) only [fu_at, fu_ne, fm_at, fm_row, fm_ne, h0]), (by simp (disch := omega) only [fu_at, fu_ne, fm_at, fm_row, fm_ne, h0]), (by simp (disch := omega) only [fu_at, fu_ne, fm_at, fm_row, fm_ne, h0]), (by simp (disch := omega) only [fu_at, fu_ne, fm_at, fm_row, fm_ne, h0]), (by simp (disch := omega) only [fu_at, fu_ne, fm_at, fm_row, fm_ne, h0]), (by simp (disch := omega) only [fu_at, fu_ne, fm_at, fm_row, fm_ne, h0]), (by simp (disch := omega) only [fu_at, fu_ne, fm_at, fm_row, fm_ne, h0]), (by simp (disch := omega) only [fu_at, fu_ne, fm_at, fm_row, fm_ne, h0]), (by simp (disch := omega) only [fu_at, fu_ne, fm_at, fm_row, fm_ne, h0]), (by simp (disch := omega) only [fu_at, fu_ne, fm_at, fm_row, fm_ne, h0]), (by simp (disch := omega) only [fu_at, fu_ne, fm_at, fm_row, fm_ne, h0])⟩, fun q hq => by simp (disch := omega) only [fu_ne, fm_ne]⟩
/-- what TowField$World() leaves -/
def B_X10 (f : Nat → AE) (a : Nat) : Prop := f a = .inr (.inr (9, [.ref 1, .ref (a + 1), .ref (a + 6), .ref (a + 11), .ref (a + 14), .ref (a + 16), .ref (a + 22), .ref (a + 35), .ref (a + 36), .int 0, .int 0, .int 15, .int 0])) ∧ f (a + 1) = .inr (.inr (1, [.ref (a + 1 + 1), .ref (a + 1 + 2), .ref (a + 1 + 3), .ref (a + 1 + 4), .int 0, .int 0])) ∧ f (a + 2) = .inl (10, fun _ => 0) ∧ f (a + 3) = .inl (10, fun _ => 0) ∧ f (a + 4) = .inl (10, fun _ => 0) ∧ f (a + 5) = .inl (10, fun _ => 0) ∧ f (a + 6) = .inr (.inr (3, [.ref (a + 6 + 1), .ref (a + 6 + 2), .ref (a + 6 + 3), .ref (a + 6 + 4), .int 0, .int 0])) ∧ f (a + 7) = .inl (14, fun _ => 0) ∧ f (a + 8) = .inl (14, fun _ => 0) ∧ f (a + 9) = .inl (14, fun _ => 0) ∧ f (a + 10) = .inl (14, fun _ => 0) ∧ f (a + 11) = .inr (.inr (8, [.ref (a + 11 + 1), .ref (a + 11 + 2), .int 0])) ∧ f (a + 12) = .inl (6, fun _ => 0) ∧ f (a + 13) = .inl (6, fun _ => 0) ∧ f (a + 14) = .inr (.inr (4, [.ref (a + 14 + 1), .int 0])) ∧ f (a + 15) = .inl (3, fun _ => 0) ∧ f (a + 16) = .inr (.inr (2, [.ref (a + 16 + 1), .ref (a + 16 + 2), .ref (a + 16 + 3), .ref (a + 16 + 4), .ref (a + 16 + 5), .int 0])) ∧ f (a + 17) = .inl (6, upd (upd (upd (upd (upd (upd (fun _ => 0) (0) 1) (1) 2) (2) 4) (3) 8) (4) 16) (5) 32) ∧ f (a + 18) = .inl (4, upd (upd (upd (upd (fun _ => 0) (0) 0) (1) 1) (2) 2) (3) 3) ∧ f (a + 19) = .inl (6, fun _ => 0) ∧ f (a + 20) = .inl (6, fun _ => 0) ∧ f (a + 21) = .inl (6, fun _ => 0) ∧ f (a + 22) = .inr (.inr (0, [.ref (a + 22 + 1), .ref (a + 22 + 2), .ref (a + 22 + 3), .ref (a + 22 + 4), .ref (a + 22 + 5), .ref (a + 22 + 6), .ref (a + 22 + 7), .ref (a + 22 + 8), .ref (a + 22 + 9), .ref (a + 22 + 10), .ref (a + 22 + 11), .ref (a + 22 + 12), .int 0])) ∧ f (a + 23) = .inl (20, fun _ => 0) ∧ f (a + 24) = .inl (20, fun _ => 0) ∧ f (a + 25) = .inl (20, fun _ => 0) ∧ f (a + 26) = .inl (20, fun _ => 0) ∧ f (a + 27) = .inl (20, fun _ => 0) ∧ f (a + 28) = .inl (20, fun _ => 0) ∧ f (a + 29) = .inl (20, fun _ => 0) ∧ f (a + 30) = .inl (20, fun _ => 0) ∧ f (a + 31) = .inl (20, fun _ => 0) ∧ f (a + 32) = .inl (20, fun _ => 0) ∧ f (a + 33) = .inl (20, fun _ => 0) ∧ f (a + 34) = .inl (20, fun _ => 0) ∧ f (a + 35) = .inl (4, upd (upd (upd (upd (fun _ => 0) (0) 4) (1) 0) (2) 10) (3) 2) ∧ f (a + 36) = .inl (2, upd (upd (fun _ => 0) (0) ((-1))) (1) ((-1)))
theorem B_X10_fr {f f' : Nat → AE} {a : Nat} (h : ∀ q, a ≤ q → q ≤ a + 36 → f' q = f q) (hb : B_X10 f a) : B_X10 f' a := ⟨(h _ (by omega) (by omega)).trans hb.1, (h _ (by omega) (by omega)).trans hb.2.1, (h _ (by omega) (by omega)).trans hb.2.2.1, (h _ (by omega) (by omega)).trans hb.2.2.2.1, (h _ (by omega) (by omega)).trans hb.2.2.2.2.1, (h _ (by omega) (by omega)).trans hb.2.2.2.2.2.1, (h _ (by omega) (by omega)).trans hb.2.2.2.2.2.2.1, (h _ (by omega) (by omega)).trans hb.2.2.2.2.2.2.2.1, (h _ (by omega) (by omega)).trans hb.2.2.2.2.2.2.2.2.1, (h _ (by omega) (by omega)).trans hb.2.2.2.2.2.2.2.2.2.1, (h _ (by omega) (by omega)).trans hb.2.2.2.2.2.2.2.2.2.2.1, (h _ (by omega) (by omega)).trans hb.2.2.2.2.2.2.2.2.2.2.2.1, (h _ (by omega) (by omega)).trans hb.2.2.2.2.2.2.2.2.2.2.2.2.1, (h _ (by omega) (by omega)).trans hb.2.2.2.2.2.2.2.2.2.2.2.2.2.1, (h _ (by omega) (by omega)).trans hb.2.2.2.2.2.2.2.2.2.2.2.2.2.2.1, (h _ (by omega) (by omega)).trans hb.2.2.2.2.2.2.2.2.2.2.2.2.2.2.2.1, (h _ (by omega) (by omega)).trans hb.2.2.2.2.2.2.2.2.2.2.2.2.2.2.2.2.1, (h _ (by omega) (by omega)).trans hb.2.2.2.2.2.2.2.2.2.2.2.2.2.2.2.2.2.1, (h _ (by omega) (by omega)).trans hb.2.2.2.2.2.2.2.2.2.2.2.2.2.2.2.2.2.2.1, (h _ (by omega) (by omega)).trans hb.2.2.2.2.2.2.2.2.2.2.2.2.2.2.2.2.2.2.2.1, (h _ (by omega) (by omega)).trans hb.2.2.2.2.2.2.2.2.2.2.2.2.2.2.2.2.2.2.2.2.1, (h _ (by omega) (by omega)).trans hb.2.2.2.2.2.2.2.2.2.2.2.2.2.2.2.2.2.2.2.2.2.1, (h _ (by omega) (by omega)).trans hb.2.2.2.2.2.2.2.2.2.2.2.2.2.2.2.2.2.2.2.2.2.2.1, (h _ (by omega) (by omega)).trans hb.2.2.2.2.2.2.2.2.2.2.2.2.2.2.2.2.2.2.2.2.2.2.2.1, (h _ (by omega) (by omega)).trans hb.2.2.2.2.2.2.2.2.2.2.2.2.2.2.2.2.2.2.2.2.2.2.2.2.1, (h _ (by omega) (by omega)).trans hb.2.2.2.2.2.2.2.2.2.2.2.2.2.2.2.2.2.2.2.2.2.2.2.2.2.1, (h _ (by omega) (by omega)).trans hb.2.2.2.2.2.2.2.2.2.2.2.2.2.2.2.2.2.2.2.2.2.2.2.2.2.2.1, (h _ (by omega) (by omega)).trans hb.2.2.2.2.2.2.2.2.2.2.2.2.2.2.2.2.2.2.2.2.2.2.2.2.2.2.2.1, (h _ (by omega) (by omega)).trans hb.2.2.2.2.2.2.2.2.2.2.2.2.2.2.2.2.2.2.2.2.2.2.2.2.2.2.2.2.1, (h _ (by omega) (by omega)).trans hb.2.2.2.2.2.2.2.2.2.2.2.2.2.2.2.2.2.2.2.2.2.2.2.2.2.2.2.2.2.1, (h _ (by omega) (by omega)).trans hb.2.2.2.2.2.2.2.2.2.2.2.2.2.2.2.2.2.2.2.2.2.2.2.2.2.2.2.2.2.2.1, (h _ (by omega) (by omega)).trans hb.2.2.2.2.2.2.2.2.2.2.2.2.2.2.2.2.2.2.2.2.2.2.2.2.2.2.2.2.2.2.2.1, (h _ (by omega) (by omega)).trans hb.2.2.2.2.2.2.2.2.2.2.2.2.2.2.2.2.2.2.2.2.2.2.2.2.2.2.2.2.2.2.2.2.1, (h _ (by omega) (by omega)).trans hb.2.2.2.2.2.2.2.2.2.2.2.2.2.2.2.2.2.2.2.2.2.2.2.2.2.2.2.2.2.2.2.2.2.1, (h _ (by omega) (by omega)).trans hb.2.2.2.2.2.2.2.2.2.2.2.2.2.2.2.2.2.2.2.2.2.2.2.2.2.2.2.2.2.2.2.2.2.2.1, (h _ (by omega) (by omega)).trans hb.2.2.2.2.2.2.2.2.2.2.2.2.2.2.2.2.2.2.2.2.2.2.2.2.2.2.2.2.2.2.2.2.2.2.2.1, (h _ (by omega) (by omega)).trans hb.2.2.2.2.2.2.2.2.2.2.2.2.2.2.2.2.2.2.2.2.2.2.2.2.2.2.2.2.2.2.2.2.2.2.2.2⟩
set_option maxHeartbeats 4000000 in
theorem K_X10 {d : Nat} (hd : 3 ≤ d) {a : Nat} (ha : a + 1 + 36 ≤ 148) {f : Nat → AE} (h0 : f a = .inr (.inr (9, [.null, .null, .null, .null, .null, .null, .null, .null, .null, .int 0, .int 0, .int 0, .int 0]))) : KCon d 36 421 mX10_init [.ref a, .ref 1] (hp (a + 1) f) (fun h => ∃ g, h = hp (a + 37) g ∧ B_X10 g a ∧ ∀ k, k < a → g k = f k) := by
  refine kcon_of (by decide) (catL rfl) (Nat.le_of_ble_eq_true rfl) ?_
  intro μ ω C hr hin hz hc hk
  have C : Cx μ ω "TowField$World" cX10_init 3 d := C
  have hr : (mH μ).sig.returnType = none := hr
  have hin : (mH μ).name = "<init>" := hin
  rw [hp_len] at hz
  show G μ ω (RK μ ω 36 421 _) 0 [some (.ref a), some (.ref 1), none] [] (hp (a + 1) f) 0 0
  refine g_al0n (pc := 0) C dX10_init_0 ?_
  refine k_obj (pc := 1) (st := []) C obX10_1 (by omega) rfl (Nat.le_of_ble_eq_true rfl) dX10_init_1 ?_
  refine g_al0n (pc := 4) C dX10_init_4 ?_
  refine k_newv (pc := 5) (N := (a + 1)) (s := 6) C hz (by omega) (by omega) nwX10_7 rfl (by omega) (by omega) dX10_init_5 ?_
  refine g_dup (pc := 8) C dX10_init_8 rfl ?_
  refine k_callN (pc := 9) (st := [(.ref (a + 1)), (.ref a)]) C hz (K_X1 (d := d - 1) (by omega) (a := (a + 1)) (by omega) (by simp (disch := omega) only [fu_at, fu_ne, fm_at, fm_ne, h0])) (by omega) (by omega) (by omega) kiX10_9 dX10_init_9 rfl (Nat.le_of_ble_eq_true rfl) (by omega) (by omega) rfl (fun h_1 w_1 => ?_)
  obtain ⟨f_1, rfl, hb_1, hf_1⟩ := w_1
  have ca_1 : f_1 a = .inr (.inr (9, [.null, .null, .null, .null, .null, .null, .null, .null, .null, .int 0, .int 0, .int 0, .int 0])) := (hf_1 _ (by omega)).trans (by simp (disch := omega) only [fu_at, fu_ne, fm_at, fm_ne, h0])
  refine k_putF (pc := 12) (a := a) (fs := [.null, .null, .null, .null, .null, .null, .null, .null, .null, .int 0, .int 0, .int 0, .int 0]) (fs' := [.null, .ref (a + 1), .null, .null, .null, .null, .null, .null, .null, .int 0, .int 0, .int 0, .int 0]) C hin uX10_10 (by omega) (by simp (disch := omega) only [fu_at, fu_ne, fm_at, fm_ne, h0, ca_1]) (Nat.le_of_ble_eq_true rfl) rfl rfl rfl dX10_init_12 ?_
  refine g_al0n (pc := 15) C dX10_init_15 ?_
  refine k_newv (pc := 16) (N := (a + 6)) (s := 6) C hz (by omega) (by omega) nwX10_16 rfl (by omega) (by omega) dX10_init_16 ?_
  refine g_dup (pc := 19) C dX10_init_19 rfl ?_
  refine k_callN (pc := 20) (st := [(.ref (a + 6)), (.ref a)]) C hz (K_X4 (d := d - 1) (by omega) (a := (a + 6)) (by omega) (by simp (disch := omega) only [fu_at, fu_ne, fm_at, fm_ne, h0, ca_1])) (by omega) (by omega) (by omega) kiX10_18 dX10_init_20 rfl (Nat.le_of_ble_eq_true rfl) (by omega) (by omega) rfl (fun h_2 w_2 => ?_)
  obtain ⟨f_2, rfl, hb_2, hf_2⟩ := w_2
  have ca_2 : f_2 a = .inr (.inr (9, [.null, .ref (a + 1), .null, .null, .null, .null, .null, .null, .null, .int 0, .int 0, .int 0, .int 0])) := (hf_2 _ (by omega)).trans (by simp (disch := omega) only [fu_at, fu_ne, fm_at, fm_ne, h0, ca_1])
  have hb_1 := B_X1_fr (f' := f_2) (fun q h1 h2 => (hf_2 q (by omega)).trans (by simp (disch := omega) only [fu_ne])) hb_1
  refine k_putF (pc := 23) (a := a) (fs := [.null, .ref (a + 1), .null, .null, .null, .null, .null, .null, .null, .int 0, .int 0, .int 0, .int 0]) (fs' := [.null, .ref (a + 1), .ref (a + 6), .null, .null, .null, .null, .null, .null, .int 0, .int 0, .int 0, .int 0]) C hin uX10_19 (by omega) (by simp (disch := omega) only [fu_at, fu_ne, fm_at, fm_ne, h0, ca_2]) (Nat.le_of_ble_eq_true rfl) rfl rfl rfl dX10_init_23 ?_
  refine g_al0n (pc := 26) C dX10_init_26 ?_
  refine k_newv (pc := 27) (N := (a + 11)) (s := 3) C hz (by omega) (by omega) nwX10_23 rfl (by omega) (by omega) dX10_init_27 ?_
  refine g_dup (pc := 30) C dX10_init_30 rfl ?_
  refine k_callN (pc := 31) (st := [(.ref (a + 11)), (.ref a)]) C hz (K_X9 (d := d - 1) (by omega) (a := (a + 11)) (by omega) (by simp (disch := omega) only [fu_at, fu_ne, fm_at, fm_ne, h0, ca_2])) (by omega) (by omega) (by omega) kiX10_25 dX10_init_31 rfl (Nat.le_of_ble_eq_true rfl) (by omega) (by omega) rfl (fun h_3 w_3 => ?_)
  obtain ⟨f_3, rfl, hb_3, hf_3⟩ := w_3
  have ca_3 : f_3 a = .inr (.inr (9, [.null, .ref (a + 1), .ref (a + 6), .null, .null, .null, .null, .null, .null, .int 0, .int 0, .int 0, .int 0])) := (hf_3 _ (by omega)).trans (by simp (disch := omega) only [fu_at, fu_ne, fm_at, fm_ne, h0, ca_2])
  have hb_1 := B_X1_fr (f' := f_3) (fun q h1 h2 => (hf_3 q (by omega)).trans (by simp (disch := omega) only [fu_ne])) hb_1
  have hb_2 := B_X4_fr (f' := f_3) (fun q h1 h2 => (hf_3 q (by omega)).trans (by simp (disch := omega) only [fu_ne])) hb_2
  refine k_putF (pc := 34) (a := a) (fs := [.null, .ref (a + 1), .ref (a + 6), .null, .null, .null, .null, .null, .null, .int 0, .int 0, .int 0, .int 0]) (fs' := [.null, .ref (a + 1), .ref (a + 6), .ref (a + 11), .null, .null, .null, .null, .null, .int 0, .int 0, .int 0, .int 0]) C hin uX10_26 (by omega) (by simp (disch := omega) only [fu_at, fu_ne, fm_at, fm_ne, h0, ca_3]) (Nat.le_of_ble_eq_true rfl) rfl rfl rfl dX10_init_34 ?_
  refine g_al0n (pc := 37) C dX10_init_37 ?_
  refine k_newv (pc := 38) (N := (a + 14)) (s := 2) C hz (by omega) (by omega) nwX10_30 rfl (by omega) (by omega) dX10_init_38 ?_
  refine g_dup (pc := 41) C dX10_init_41 rfl ?_
  refine k_callN (pc := 42) (st := [(.ref (a + 14)), (.ref a)]) C hz (K_X5 (d := d - 1) (by omega) (a := (a + 14)) (by omega) (by simp (disch := omega) only [fu_at, fu_ne, fm_at, fm_ne, h0, ca_3])) (by omega) (by omega) (by omega) kiX10_32 dX10_init_42 rfl (Nat.le_of_ble_eq_true rfl) (by omega) (by omega) rfl (fun h_4 w_4 => ?_)
  obtain ⟨f_4, rfl, hb_4, hf_4⟩ := w_4
  have ca_4 : f_4 a = .inr (.inr (9, [.null, .ref (a + 1), .ref (a + 6), .ref (a + 11), .null, .null, .null, .null, .null, .int 0, .int 0, .int 0, .int 0])) := (hf_4 _ (by omega)).trans (by simp (disch := omega) only [fu_at, fu_ne, fm_at, fm_ne, h0, ca_3])
  have hb_1 := B_X1_fr (f' := f_4) (fun q h1 h2 => (hf_4 q (by omega)).trans (by simp (disch := omega) only [fu_ne])) hb_1
  have hb_2 := B_X4_fr (f' := f_4) (fun q h1 h2 => (hf_4 q (by omega)).trans (by simp (disch := omega) only [fu_ne])) hb_2
  have hb_3 := B_X9_fr (f' := f_4) (fun q h1 h2 => (hf_4 q (by omega)).trans (by simp (disch := omega) only [fu_ne])) hb_3
  refine k_putF (pc := 45) (a := a) (fs := [.null, .ref (a + 1), .ref (a + 6), .ref (a + 11), .null, .null, .null, .null, .null, .int 0, .int 0, .int 0, .int 0]) (fs' := [.null, .ref (a + 1), .ref (a + 6), .ref (a + 11), .ref (a + 14), .null, .null, .null, .null, .int 0, .int 0, .int 0, .int 0]) C hin uX10_33 (by omega) (by simp (disch := omega) only [fu_at, fu_ne, fm_at, fm_ne, h0, ca_4]) (Nat.le_of_ble_eq_true rfl) rfl rfl rfl dX10_init_45 ?_
  refine g_al0n (pc := 48) C dX10_init_48 ?_
  refine k_newv (pc := 49) (N := (a + 16)) (s := 6) C hz (by omega) (by omega) nwX10_37 rfl (by omega) (by omega) dX10_init_49 ?_
  refine g_dup (pc := 52) C dX10_init_52 rfl ?_
  refine k_callI (pc := 53) (st := [(.ref (a + 16)), (.ref a)]) C hz (K_X3 (d := d - 1) (by omega) (a := (a + 16)) (by omega) (by simp (disch := omega) only [fu_at, fu_ne, fm_at, fm_ne, h0, ca_4])) (by omega) (by omega) (by omega) kiX10_39 dX10_init_53 rfl (Nat.le_of_ble_eq_true rfl) (by omega) (by omega) rfl (fun h_5 w_5 => ?_)
  obtain ⟨f_5, rfl, hb_5, hf_5⟩ := w_5
  have ca_5 : f_5 a = .inr (.inr (9, [.null, .ref (a + 1), .ref (a + 6), .ref (a + 11), .ref (a + 14), .null, .null, .null, .null, .int 0, .int 0, .int 0, .int 0])) := (hf_5 _ (by omega)).trans (by simp (disch := omega) only [fu_at, fu_ne, fm_at, fm_ne, h0, ca_4])
  have hb_1 := B_X1_fr (f' := f_5) (fun q h1 h2 => (hf_5 q (by omega)).trans (by simp (disch := omega) only [fu_ne])) hb_1
  have hb_2 := B_X4_fr (f' := f_5) (fun q h1 h2 => (hf_5 q (by omega)).trans (by simp (disch := omega) only [fu_ne])) hb_2
  have hb_3 := B_X9_fr (f' := f_5) (fun q h1 h2 => (hf_5 q (by omega)).trans (by simp (disch := omega) only [fu_ne])) hb_3
  have hb_4 := B_X5_fr (f' := f_5) (fun q h1 h2 => (hf_5 q (by omega)).trans (by simp (disch := omega) only [fu_ne])) hb_4
  refine k_putF (pc := 56) (a := a) (fs := [.null, .ref (a + 1), .ref (a + 6), .ref (a + 11), .ref (a + 14), .null, .null, .null, .null, .int 0, .int 0, .int 0, .int 0]) (fs' := [.null, .ref (a + 1), .ref (a + 6), .ref (a + 11), .ref (a + 14), .ref (a + 16), .null, .null, .null, .int 0, .int 0, .int 0, .int 0]) C hin uX10_40 (by omega) (by simp (disch := omega) only [fu_at, fu_ne, fm_at, fm_ne, h0, ca_5]) (Nat.le_of_ble_eq_true rfl) rfl rfl rfl dX10_init_56 ?_
  refine g_al0n (pc := 59) C dX10_init_59 ?_
  refine k_newv (pc := 60) (N := (a + 22)) (s := 13) C hz (by omega) (by omega) nwX10_44 rfl (by omega) (by omega) dX10_init_60 ?_
  refine g_dup (pc := 63) C dX10_init_63 rfl ?_
  refine k_callN (pc := 64) (st := [(.ref (a + 22)), (.ref a)]) C hz (K_X0 (d := d - 1) (by omega) (a := (a + 22)) (by omega) (by simp (disch := omega) only [fu_at, fu_ne, fm_at, fm_ne, h0, ca_5])) (by omega) (by omega) (by omega) kiX10_46 dX10_init_64 rfl (Nat.le_of_ble_eq_true rfl) (by omega) (by omega) rfl (fun h_6 w_6 => ?_)
  obtain ⟨f_6, rfl, hb_6, hf_6⟩ := w_6
  have ca_6 : f_6 a = .inr (.inr (9, [.null, .ref (a + 1), .ref (a + 6), .ref (a + 11), .ref (a + 14), .ref (a + 16), .null, .null, .null, .int 0, .int 0, .int 0, .int 0])) := (hf_6 _ (by omega)).trans (by simp (disch := omega) only [fu_at, fu_ne, fm_at, fm_ne, h0, ca_5])
  have hb_1 := B_X1_fr (f' := f_6) (fun q h1 h2 => (hf_6 q (by omega)).trans (by simp (disch := omega) only [fu_ne])) hb_1
  have hb_2 := B_X4_fr (f' := f_6) (fun q h1 h2 => (hf_6 q (by omega)).trans (by simp (disch := omega) only [fu_ne])) hb_2
  have hb_3 := B_X9_fr (f' := f_6) (fun q h1 h2 => (hf_6 q (by omega)).trans (by simp (disch := omega) only [fu_ne])) hb_3
  have hb_4 := B_X5_fr (f' := f_6) (fun q h1 h2 => (hf_6 q (by omega)).trans (by simp (disch := omega) only [fu_ne])) hb_4
  have hb_5 := B_X3_fr (f' := f_6) (fun q h1 h2 => (hf_6 q (by omega)).trans (by simp (disch := omega) only [fu_ne])) hb_5
  refine k_putF (pc := 67) (a := a) (fs := [.null, .ref (a + 1), .ref (a + 6), .ref (a + 11), .ref (a + 14), .ref (a + 16), .null, .null, .null, .int 0, .int 0, .int 0, .int 0]) (fs' := [.null, .ref (a + 1), .ref (a + 6), .ref (a + 11), .ref (a + 14), .ref (a + 16), .ref (a + 22), .null, .null, .int 0, .int 0, .int 0, .int 0]) C hin uX10_47 (by omega) (by simp (disch := omega) only [fu_at, fu_ne, fm_at, fm_ne, h0, ca_6]) (Nat.le_of_ble_eq_true rfl) rfl rfl rfl dX10_init_67 ?_
  refine g_al0n (pc := 70) C dX10_init_70 ?_
  refine g_iconst (pc := 71) (v := 4) C dX10_init_71 (by decide) ?_
  refine k_newa (pc := 72) (N := (a + 35)) (m := 4) C hz (by omega) (by omega) rfl (by decide) (by omega) (by omega) dX10_init_72 ?_
  refine k_putF (pc := 74) (a := a) (fs := [.null, .ref (a + 1), .ref (a + 6), .ref (a + 11), .ref (a + 14), .ref (a + 16), .ref (a + 22), .null, .null, .int 0, .int 0, .int 0, .int 0]) (fs' := [.null, .ref (a + 1), .ref (a + 6), .ref (a + 11), .ref (a + 14), .ref (a + 16), .ref (a + 22), .ref (a + 35), .null, .int 0, .int 0, .int 0, .int 0]) C hin uX10_51 (by omega) (by simp (disch := omega) only [fu_at, fu_ne, fm_at, fm_ne, h0, ca_6]) (Nat.le_of_ble_eq_true rfl) rfl rfl rfl dX10_init_74 ?_
  refine g_al0n (pc := 77) C dX10_init_77 ?_
  refine g_iconst (pc := 78) (v := 2) C dX10_init_78 (by decide) ?_
  refine k_newa (pc := 79) (N := (a + 36)) (m := 2) C hz (by omega) (by omega) rfl (by decide) (by omega) (by omega) dX10_init_79 ?_
  refine k_putF (pc := 81) (a := a) (fs := [.null, .ref (a + 1), .ref (a + 6), .ref (a + 11), .ref (a + 14), .ref (a + 16), .ref (a + 22), .ref (a + 35), .null, .int 0, .int 0, .int 0, .int 0]) (fs' := [.null, .ref (a + 1), .ref (a + 6), .ref (a + 11), .ref (a + 14), .ref (a + 16), .ref (a + 22), .ref (a + 35), .ref (a + 36), .int 0, .int 0, .int 0, .int 0]) C hin uX10_57 (by omega) (by simp (disch := omega) only [fu_at, fu_ne, fm_at, fm_ne, h0, ca_6]) (Nat.le_of_ble_eq_true rfl) rfl rfl rfl dX10_init_81 ?_
  refine g_al0n (pc := 84) C dX10_init_84 ?_
  refine g_iconst (pc := 85) (v := 0) C dX10_init_85 (by decide) ?_
  refine k_put (pc := 86) (a := a) (fs := [.null, .ref (a + 1), .ref (a + 6), .ref (a + 11), .ref (a + 14), .ref (a + 16), .ref (a + 22), .ref (a + 35), .ref (a + 36), .int 0, .int 0, .int 0, .int 0]) (fs' := [.null, .ref (a + 1), .ref (a + 6), .ref (a + 11), .ref (a + 14), .ref (a + 16), .ref (a + 22), .ref (a + 35), .ref (a + 36), .int 0, .int 0, .int 0, .int 0]) C pX10_60 (by omega) (by simp (disch := omega) only [fu_at, fu_ne, fm_at, fm_ne, h0, ca_6]) (Nat.le_of_ble_eq_true rfl) rfl rfl rfl dX10_init_86 ?_
  refine g_al0n (pc := 89) C dX10_init_89 ?_
  refine g_iconst (pc := 90) (v := 0) C dX10_init_90 (by decide) ?_
  refine k_put (pc := 91) (a := a) (fs := [.null, .ref (a + 1), .ref (a + 6), .ref (a + 11), .ref (a + 14), .ref (a + 16), .ref (a + 22), .ref (a + 35), .ref (a + 36), .int 0, .int 0, .int 0, .int 0]) (fs' := [.null, .ref (a + 1), .ref (a + 6), .ref (a + 11), .ref (a + 14), .ref (a + 16), .ref (a + 22), .ref (a + 35), .ref (a + 36), .int 0, .int 0, .int 0, .int 0]) C pX10_64 (by omega) (by simp (disch := omega) only [fu_at, fu_ne, fm_at, fm_ne, h0, ca_6]) (Nat.le_of_ble_eq_true rfl) rfl rfl rfl dX10_init_91 ?_
  refine g_al0n (pc := 94) C dX10_init_94 ?_
  refine g_bipush (pc := 95) (v := 15) C dX10_init_95 (by decide) ?_
  refine k_put (pc := 97) (a := a) (fs := [.null, .ref (a + 1), .ref (a + 6), .ref (a + 11), .ref (a + 14), .ref (a + 16), .ref (a + 22), .ref (a + 35), .ref (a + 36), .int 0, .int 0, .int 0, .int 0]) (fs' := [.null, .ref (a + 1), .ref (a + 6), .ref (a + 11), .ref (a + 14), .ref (a + 16), .ref (a + 22), .ref (a + 35), .ref (a + 36), .int 0, .int 0, .int 15, .int 0]) C pX10_67 (by omega) (by simp (disch := omega) only [fu_at, fu_ne, fm_at, fm_ne, h0, ca_6]) (Nat.le_of_ble_eq_true rfl) rfl rfl rfl dX10_init_97 ?_
  refine g_al0n (pc := 100) C dX10_init_100 ?_
  refine g_iconst (pc := 101) (v := 0) C dX10_init_101 (by decide) ?_
  refine k_put (pc := 102) (a := a) (fs := [.null, .ref (a + 1), .ref (a + 6), .ref (a + 11), .ref (a + 14), .ref (a + 16), .ref (a + 22), .ref (a + 35), .ref (a + 36), .int 0, .int 0, .int 15, .int 0]) (fs' := [.null, .ref (a + 1), .ref (a + 6), .ref (a + 11), .ref (a + 14), .ref (a + 16), .ref (a + 22), .ref (a + 35), .ref (a + 36), .int 0, .int 0, .int 15, .int 0]) C pX10_70 (by omega) (by simp (disch := omega) only [fu_at, fu_ne, fm_at, fm_ne, h0, ca_6]) (Nat.le_of_ble_eq_true rfl) rfl rfl rfl dX10_init_102 ?_
  refine g_al0n (pc := 105) C dX10_init_105 ?_
  refine g_al1n (pc := 106) C dX10_init_106 ?_
  refine k_putF (pc := 107) (a := a) (fs := [.null, .ref (a + 1), .ref (a + 6), .ref (a + 11), .ref (a + 14), .ref (a + 16), .ref (a + 22), .ref (a + 35), .ref (a + 36), .int 0, .int 0, .int 15, .int 0]) (fs' := [.ref 1, .ref (a + 1), .ref (a + 6), .ref (a + 11), .ref (a + 14), .ref (a + 16), .ref (a + 22), .ref (a + 35), .ref (a + 36), .int 0, .int 0, .int 15, .int 0]) C hin uX10_73 (by omega) (by simp (disch := omega) only [fu_at, fu_ne, fm_at, fm_ne, h0, ca_6]) (Nat.le_of_ble_eq_true rfl) rfl rfl rfl dX10_init_107 ?_
  refine g_iconst (pc := 110) (v := 0) C dX10_init_110 (by decide) ?_
  refine g_is2n (pc := 111) C dX10_init_111 ?_
  refine g_il2n (pc := 112) C dX10_init_112 ?_
  refine g_iconst (pc := 113) (v := 4) C dX10_init_113 (by decide) ?_
  refine g_icmp_geL (pc := 114) (tgt := 134) C dX10_init_114 (by decide) (fun c => absurd c (by decide)) (fun _ => ?_)
  refine g_al0n (pc := 117) C dX10_init_117 ?_
  refine k_get (pc := 118) (a := a) (fs := [.ref 1, .ref (a + 1), .ref (a + 6), .ref (a + 11), .ref (a + 14), .ref (a + 16), .ref (a + 22), .ref (a + 35), .ref (a + 36), .int 0, .int 0, .int 15, .int 0]) (v := .ref (a + 35)) C fX10_51 (by omega) (by simp (disch := omega) only [fu_at, fu_ne, fm_at, fm_ne, h0, ca_6]) rfl dX10_init_118 ?_
  refine g_il2n (pc := 121) C dX10_init_121 ?_
  refine g_getsA (pc := 122) (j := 1) C rfl sX10_77 dX10_init_122 ?_
  refine g_il2n (pc := 125) C dX10_init_125 ?_
  refine k_ialdA (pc := 126) (v := 4) C rfl (fun z => by rcases z with z | z <;> exact absurd z (by decide)) rfl dX10_init_126 ?_
  refine k_iastv (w := 4) (hx := (by first | rfl | decide)) (pc := 127) (a := (a + 35)) (m := 4) (q := 0) (g := (fun _ => 0)) C (by omega) (by simp (disch := omega) only [fu_at, fu_ne, fm_at, fm_ne, h0, ca_6]) (by first | rfl | decide) (by decide) (by decide) dX10_init_127 ?_
  refine g_ii2 (pc := 128) (v := 1) C dX10_init_128 (by decide) ?_
  refine g_goto (pc := 131) (tgt := 112) C dX10_init_131 (by decide) ?_
  refine g_il2n (pc := 112) C dX10_init_112 ?_
  refine g_iconst (pc := 113) (v := 4) C dX10_init_113 (by decide) ?_
  refine g_icmp_geL (pc := 114) (tgt := 134) C dX10_init_114 (by decide) (fun c => absurd c (by decide)) (fun _ => ?_)
  refine g_al0n (pc := 117) C dX10_init_117 ?_
  refine k_get (pc := 118) (a := a) (fs := [.ref 1, .ref (a + 1), .ref (a + 6), .ref (a + 11), .ref (a + 14), .ref (a + 16), .ref (a + 22), .ref (a + 35), .ref (a + 36), .int 0, .int 0, .int 15, .int 0]) (v := .ref (a + 35)) C fX10_51 (by omega) (by simp (disch := omega) only [fu_at, fu_ne, fm_at, fm_ne, h0, ca_6]) rfl dX10_init_118 ?_
  refine g_il2n (pc := 121) C dX10_init_121 ?_
  refine g_getsA (pc := 122) (j := 1) C rfl sX10_77 dX10_init_122 ?_
  refine g_il2n (pc := 125) C dX10_init_125 ?_
  refine k_ialdA (pc := 126) (v := 0) C rfl (fun z => by rcases z with z | z <;> exact absurd z (by decide)) rfl dX10_init_126 ?_
  refine k_iastv (w := 0) (hx := (by first | rfl | decide)) (pc := 127) (a := (a + 35)) (m := 4) (q := 1) (g := (upd (fun _ => 0) (0) 4)) C (by omega) (by simp (disch := omega) only [fu_at, fu_ne, fm_at, fm_ne, h0, ca_6]) (by first | rfl | decide) (by decide) (by decide) dX10_init_127 ?_
  refine g_ii2 (pc := 128) (v := 2) C dX10_init_128 (by decide) ?_
  refine g_goto (pc := 131) (tgt := 112) C dX10_init_131 (by decide) ?_
  refine g_il2n (pc := 112) C dX10_init_112 ?_
  refine g_iconst (pc := 113) (v := 4) C dX10_init_113 (by decide) ?_
  refine g_icmp_geL (pc := 114) (tgt := 134) C dX10_init_114 (by decide) (fun c => absurd c (by decide)) (fun _ => ?_)
  refine g_al0n (pc := 117) C dX10_init_117 ?_
  refine k_get (pc := 118) (a := a) (fs := [.ref 1, .ref (a + 1), .ref (a + 6), .ref (a + 11), .ref (a + 14), .ref (a + 16), .ref (a + 22), .ref (a + 35), .ref (a + 36), .int 0, .int 0, .int 15, .int 0]) (v := .ref (a + 35)) C fX10_51 (by omega) (by simp (disch := omega) only [fu_at, fu_ne, fm_at, fm_ne, h0, ca_6]) rfl dX10_init_118 ?_
  refine g_il2n (pc := 121) C dX10_init_121 ?_
  refine g_getsA (pc := 122) (j := 1) C rfl sX10_77 dX10_init_122 ?_
  refine g_il2n (pc := 125) C dX10_init_125 ?_
  refine k_ialdA (pc := 126) (v := 10) C rfl (fun z => by rcases z with z | z <;> exact absurd z (by decide)) rfl dX10_init_126 ?_
  refine k_iastv (w := 10) (hx := (by first | rfl | decide)) (pc := 127) (a := (a + 35)) (m := 4) (q := 2) (g := (upd (upd (fun _ => 0) (0) 4) (1) 0)) C (by omega) (by simp (disch := omega) only [fu_at, fu_ne, fm_at, fm_ne, h0, ca_6]) (by first | rfl | decide) (by decide) (by decide) dX10_init_127 ?_
  refine g_ii2 (pc := 128) (v := 3) C dX10_init_128 (by decide) ?_
  refine g_goto (pc := 131) (tgt := 112) C dX10_init_131 (by decide) ?_
  refine g_il2n (pc := 112) C dX10_init_112 ?_
  refine g_iconst (pc := 113) (v := 4) C dX10_init_113 (by decide) ?_
  refine g_icmp_geL (pc := 114) (tgt := 134) C dX10_init_114 (by decide) (fun c => absurd c (by decide)) (fun _ => ?_)
  refine g_al0n (pc := 117) C dX10_init_117 ?_
  refine k_get (pc := 118) (a := a) (fs := [.ref 1, .ref (a + 1), .ref (a + 6), .ref (a + 11), .ref (a + 14), .ref (a + 16), .ref (a + 22), .ref (a + 35), .ref (a + 36), .int 0, .int 0, .int 15, .int 0]) (v := .ref (a + 35)) C fX10_51 (by omega) (by simp (disch := omega) only [fu_at, fu_ne, fm_at, fm_ne, h0, ca_6]) rfl dX10_init_118 ?_
  refine g_il2n (pc := 121) C dX10_init_121 ?_
  refine g_getsA (pc := 122) (j := 1) C rfl sX10_77 dX10_init_122 ?_
  refine g_il2n (pc := 125) C dX10_init_125 ?_
  refine k_ialdA (pc := 126) (v := 2) C rfl (fun z => by rcases z with z | z <;> exact absurd z (by decide)) rfl dX10_init_126 ?_
  refine k_iastv (w := 2) (hx := (by first | rfl | decide)) (pc := 127) (a := (a + 35)) (m := 4) (q := 3) (g := (upd (upd (upd (fun _ => 0) (0) 4) (1) 0) (2) 10)) C (by omega) (by simp (disch := omega) only [fu_at, fu_ne, fm_at, fm_ne, h0, ca_6]) (by first | rfl | decide) (by decide) (by decide) dX10_init_127 ?_
  refine g_ii2 (pc := 128) (v := 4) C dX10_init_128 (by decide) ?_
  refine g_goto (pc := 131) (tgt := 112) C dX10_init_131 (by decide) ?_
  refine g_il2n (pc := 112) C dX10_init_112 ?_
  refine g_iconst (pc := 113) (v := 4) C dX10_init_113 (by decide) ?_
  refine g_icmp_geL (pc := 114) (tgt := 134) C dX10_init_114 (by decide) (fun _ => ?_) (fun c => absurd c (by decide))
  refine g_iconst (pc := 134) (v := 0) C dX10_init_134 (by decide) ?_
  refine g_is2n (pc := 135) C dX10_init_135 ?_
  refine g_il2n (pc := 136) C dX10_init_136 ?_
  refine g_iconst (pc := 137) (v := 2) C dX10_init_137 (by decide) ?_
  refine g_icmp_geL (pc := 138) (tgt := 154) C dX10_init_138 (by decide) (fun c => absurd c (by decide)) (fun _ => ?_)
  refine g_al0n (pc := 141) C dX10_init_141 ?_
  refine k_get (pc := 142) (a := a) (fs := [.ref 1, .ref (a + 1), .ref (a + 6), .ref (a + 11), .ref (a + 14), .ref (a + 16), .ref (a + 22), .ref (a + 35), .ref (a + 36), .int 0, .int 0, .int 15, .int 0]) (v := .ref (a + 36)) C fX10_57 (by omega) (by simp (disch := omega) only [fu_at, fu_ne, fm_at, fm_ne, h0, ca_6]) rfl dX10_init_142 ?_
  refine g_il2n (pc := 145) C dX10_init_145 ?_
  refine g_iconst (pc := 146) (v := (-1)) C dX10_init_146 (by decide) ?_
  refine k_iastv (w := (-1)) (hx := (by first | rfl | decide)) (pc := 147) (a := (a + 36)) (m := 2) (q := 0) (g := (fun _ => 0)) C (by omega) (by simp (disch := omega) only [fu_at, fu_ne, fm_at, fm_ne, h0, ca_6]) (by first | rfl | decide) (by decide) (by decide) dX10_init_147 ?_
  refine g_ii2 (pc := 148) (v := 1) C dX10_init_148 (by decide) ?_
  refine g_goto (pc := 151) (tgt := 136) C dX10_init_151 (by decide) ?_
  refine g_il2n (pc := 136) C dX10_init_136 ?_
  refine g_iconst (pc := 137) (v := 2) C dX10_init_137 (by decide) ?_
  refine g_icmp_geL (pc := 138) (tgt := 154) C dX10_init_138 (by decide) (fun c => absurd c (by decide)) (fun _ => ?_)
  refine g_al0n (pc := 141) C dX10_init_141 ?_
  refine k_get (pc := 142) (a := a) (fs := [.ref 1, .ref (a + 1), .ref (a + 6), .ref (a + 11), .ref (a + 14), .ref (a + 16), .ref (a + 22), .ref (a + 35), .ref (a + 36), .int 0, .int 0, .int 15, .int 0]) (v := .ref (a + 36)) C fX10_57 (by omega) (by simp (disch := omega) only [fu_at, fu_ne, fm_at, fm_ne, h0, ca_6]) rfl dX10_init_142 ?_
  refine g_il2n (pc := 145) C dX10_init_145 ?_
  refine g_iconst (pc := 146) (v := (-1)) C dX10_init_146 (by decide) ?_
  refine k_iastv (w := (-1)) (hx := (by first | rfl | decide)) (pc := 147) (a := (a + 36)) (m := 2) (q := 1) (g := (upd (fun _ => 0) (0) ((-1)))) C (by omega) (by simp (disch := omega) only [fu_at, fu_ne, fm_at, fm_ne, h0, ca_6]) (by first | rfl | decide) (by decide) (by decide) dX10_init_147 ?_
  refine g_ii2 (pc := 148) (v := 2) C dX10_init_148 (by decide) ?_
  refine g_goto (pc := 151) (tgt := 136) C dX10_init_151 (by decide) ?_
  refine g_il2n (pc := 136) C dX10_init_136 ?_
  refine g_iconst (pc := 137) (v := 2) C dX10_init_137 (by decide) ?_
  refine g_icmp_geL (pc := 138) (tgt := 154) C dX10_init_138 (by decide) (fun _ => ?_) (fun c => absurd c (by decide))
  exact k_vret C hr dX10_init_154 (by omega) (by omega) ⟨_, rfl, ⟨(by simp (disch := omega) only [fu_at, fu_ne, fm_at, fm_row, fm_ne, h0, ca_6]), (by simp (disch := omega) only [fu_ne]; exact hb_1.1), (by simp (disch := omega) only [fu_ne]; exact hb_1.2.1), (by simp (disch := omega) only [fu_ne]; exact hb_1.2.2.1), (by simp (disch := omega) only [fu_ne]; exact hb_1.2.2.2.1), (by simp (disch := omega) only [fu_ne]; exact hb_1.2.2.2.2), (by simp (disch := omega) only [fu_ne]; exact hb_2.1), (by simp (disch := omega) only [fu_ne]; exact hb_2.2.1), (by simp (disch := omega) only [fu_ne]; exact hb_2.2.2.1), (by simp (disch := omega) only [fu_ne]; exact hb_2.2.2.2.1), (by simp (disch := omega) only [fu_ne]; exact hb_2.2.2.2.2), (by simp (disch := omega) only [fu_ne]; exact hb_3.1), (by simp (disch := omega) only [fu_ne]; exact hb_3.2.1), (by simp (disch := omega) only [fu_ne]; exact hb_3.2.2), (by simp (disch := omega) only [fu_ne]; exact hb_4.1), (by simp (disch := omega) only [fu_ne]; exact hb_4.2), (by simp (disch := omega) only [fu_ne]; exact hb_5.1), (by simp (disch := omega) only [fu_ne]; exact hb_5.2.1), (by simp (disch := omega) only [fu_ne]; exact hb_5.2.2.1), (by simp (disch := omega) only [fu_ne]; exact hb_5.2.2.2.1), (by simp (disch := omega) only [fu_ne]; exact hb_5.2.2.2.2.1), (by simp (disch := omega) only [fu_ne]; exact hb_5.2.2.2.2.2), (by simp (disch := omega) only [fu_ne]; exact hb_6.1), (by simp (disch := omega) only [fu_ne]; exact hb_6.2.1), (by simp (disch := omega) only [fu_ne]; exact hb_6.2.2.1), (by simp (disch := omega) only [fu_ne]; exact hb_6.2.2.2.1), (by simp (disch := omega) only [fu_ne]; exact hb_6.2.2.2.2.1), (by simp (disch := omega) only [fu_ne]; exact hb_6.2.2.2.2.2.1), (by simp (disch := omega) only [fu_ne]; exact hb_6.2.2.2.2.2.2.1), (by simp (disch := omega) only [fu_ne]; exact hb_6.2.2.2.2.2.2.2.1), (by simp (disch := omega) only [fu_ne]; exact hb_6.2.2.2.2.2.2.2.2.1), (by simp (disch := omega) only [fu_ne]; exact hb_6.2.2.2.2.2.2.2.2.2.1), (by simp (disch := omega) only [fu_ne]; exact hb_6.2.2.2.2.2.2.2.2.2.2.1), (by simp (disch := omega) only [fu_ne]; exact hb_6.2.2.2.2.2.2.2.2.2.2.2.1), (by simp (disch := omega) only [fu_ne]; exact hb_6.2.2.2.2.2.2.2.2.2.2.2.2), (by simp (disch := omega) only [fu_at, fu_ne, fm_at, fm_row, fm_ne, h0, ca_6]), (by simp (disch := omega) only [fu_at, fu_ne, fm_at, fm_row, fm_ne, h0, ca_6])⟩, fun q hq => by simp (disch := omega) only [fu_ne, fm_ne, hf_6, hf_5, hf_4, hf_3, hf_2, hf_1]⟩
/-- what TowField$Texts() leaves -/
def B_X8 (f : Nat → AE) (a : Nat) : Prop := f a = .inr (.inr (7, [.ref (a + 1), .ref (a + 8), .ref (a + 9), .ref (a + 10)])) ∧ f (a + 1) = .inr (.inl (1, 6, rowsOf (a + 1) 6)) ∧ f (a + 2) = .inl (100, fun _ => 0) ∧ f (a + 3) = .inl (100, fun _ => 0) ∧ f (a + 4) = .inl (100, fun _ => 0) ∧ f (a + 5) = .inl (100, fun _ => 0) ∧ f (a + 6) = .inl (100, fun _ => 0) ∧ f (a + 7) = .inl (100, fun _ => 0) ∧ f (a + 8) = .inl (6, fun _ => 0) ∧ f (a + 9) = .inl (4, fun _ => 0) ∧ f (a + 10) = .inl (100, fun _ => 0)
theorem B_X8_fr {f f' : Nat → AE} {a : Nat} (h : ∀ q, a ≤ q → q ≤ a + 10 → f' q = f q) (hb : B_X8 f a) : B_X8 f' a := ⟨(h _ (by omega) (by omega)).trans hb.1, (h _ (by omega) (by omega)).trans hb.2.1, (h _ (by omega) (by omega)).trans hb.2.2.1, (h _ (by omega) (by omega)).trans hb.2.2.2.1, (h _ (by omega) (by omega)).trans hb.2.2.2.2.1, (h _ (by omega) (by omega)).trans hb.2.2.2.2.2.1, (h _ (by omega) (by omega)).trans hb.2.2.2.2.2.2.1, (h _ (by omega) (by omega)).trans hb.2.2.2.2.2.2.2.1, (h _ (by omega) (by omega)).trans hb.2.2.2.2.2.2.2.2.1, (h _ (by omega) (by omega)).trans hb.2.2.2.2.2.2.2.2.2.1, (h _ (by omega) (by omega)).trans hb.2.2.2.2.2.2.2.2.2.2⟩
set_option maxHeartbeats 4000000 in
theorem K_X8 {d : Nat} (hd : 2 ≤ d) {a : Nat} (ha : a + 1 + 10 ≤ 148) {f : Nat → AE} (h0 : f a = .inr (.inr (7, [.null, .null, .null, .null]))) : KCon d 10 716 mX8_init [.ref a] (hp (a + 1) f) (fun h => ∃ g, h = hp (a + 11) g ∧ B_X8 g a ∧ ∀ k, k < a → g k = f k) := by
  refine kcon_of (by decide) (catL rfl) (Nat.le_of_ble_eq_true rfl) ?_
  intro μ ω C hr hin hz hc hk
  have C : Cx μ ω "TowField$Texts" cX8_init 1 d := C
  have hr : (mH μ).sig.returnType = none := hr
  have hin : (mH μ).name = "<init>" := hin
  rw [hp_len] at hz
  show G μ ω (RK μ ω 10 716 _) 0 [some (.ref a)] [] (hp (a + 1) f) 0 0
  refine g_al0n (pc := 0) C dX8_init_0 ?_
  refine k_obj (pc := 1) (st := []) C obX8_3 (by omega) rfl (Nat.le_of_ble_eq_true rfl) dX8_init_1 ?_
  refine g_al0n (pc := 4) C dX8_init_4 ?_
  refine g_bipush (pc := 5) (v := 6) C dX8_init_5 (by decide) ?_
  refine g_bipush (pc := 7) (v := 100) C dX8_init_7 (by decide) ?_
  refine k_multi (pc := 9) (N := (a + 1)) (r := 6) (m := 100) C hz (by omega) (by omega) rfl rfl (by decide) clX8_11 (by omega) (by omega) dX8_init_9 ?_
  refine k_putF (pc := 13) (a := a) (fs := [.null, .null, .null, .null]) (fs' := [.ref (a + 1), .null, .null, .null]) C hin uX8_13 (by omega) (by simp (disch := omega) only [fu_at, fu_ne, fm_at, fm_ne, h0]) (Nat.le_of_ble_eq_true rfl) rfl rfl rfl dX8_init_13 ?_
  refine g_al0n (pc := 16) C dX8_init_16 ?_
  refine g_bipush (pc := 17) (v := 6) C dX8_init_17 (by decide) ?_
  refine k_newa (pc := 19) (N := (a + 8)) (m := 6) C hz (by omega) (by omega) rfl (by decide) (by omega) (by omega) dX8_init_19 ?_
  refine k_putF (pc := 21) (a := a) (fs := [.ref (a + 1), .null, .null, .null]) (fs' := [.ref (a + 1), .ref (a + 8), .null, .null]) C hin uX8_16 (by omega) (by simp (disch := omega) only [fu_at, fu_ne, fm_at, fm_ne, h0]) (Nat.le_of_ble_eq_true rfl) rfl rfl rfl dX8_init_21 ?_
  refine g_al0n (pc := 24) C dX8_init_24 ?_
  refine g_iconst (pc := 25) (v := 4) C dX8_init_25 (by decide) ?_
  refine k_newa (pc := 26) (N := (a + 9)) (m := 4) C hz (by omega) (by omega) rfl (by decide) (by omega) (by omega) dX8_init_26 ?_
  refine k_putF (pc := 28) (a := a) (fs := [.ref (a + 1), .ref (a + 8), .null, .null]) (fs' := [.ref (a + 1), .ref (a + 8), .ref (a + 9), .null]) C hin uX8_20 (by omega) (by simp (disch := omega) only [fu_at, fu_ne, fm_at, fm_ne, h0]) (Nat.le_of_ble_eq_true rfl) rfl rfl rfl dX8_init_28 ?_
  refine g_al0n (pc := 31) C dX8_init_31 ?_
  refine g_bipush (pc := 32) (v := 100) C dX8_init_32 (by decide) ?_
  refine k_newa (pc := 34) (N := (a + 10)) (m := 100) C hz (by omega) (by omega) rfl (by decide) (by omega) (by omega) dX8_init_34 ?_
  refine k_putF (pc := 36) (a := a) (fs := [.ref (a + 1), .ref (a + 8), .ref (a + 9), .null]) (fs' := [.ref (a + 1), .ref (a + 8), .ref (a + 9), .ref (a + 10)]) C hin uX8_23 (by omega) (by simp (disch := omega) only [fu_at, fu_ne, fm_at, fm_ne, h0]) (Nat.le_of_ble_eq_true rfl) rfl rfl rfl dX8_init_36 ?_
  exact k_vret C hr dX8_init_39 (by omega) (by omega) ⟨_, rfl, ⟨(by simp (disch := omega) only [fu_at, fu_ne, fm_at, fm_row, fm_ne, h0]), (by simp (disch := omega) only [fu_at, fu_ne, fm_at, fm_row, fm_ne, h0]), (by simp (disch := omega) only [fu_at, fu_ne, fm_at, fm_row, fm_ne, h0]), (by simp (disch := omega) only [fu_at, fu_ne, fm_at, fm_row, fm_ne, h0]), (by simp (disch := omega) only [fu_at, fu_ne, fm_at, fm_row, fm_ne, h0]), (by simp (disch := omega) only [fu_at, fu_ne, fm_at, fm_row, fm_ne, h0]), (by simp (disch := omega) only [fu_at, fu_ne, fm_at, fm_row, fm_ne, h0]), (by simp (disch := omega) only [fu_at, fu_ne, fm_at, fm_row, fm_ne, h0]), (by simp (disch := omega) only [fu_at, fu_ne, fm_at, fm_row, fm_ne, h0]), (by simp (disch := omega) only [fu_at, fu_ne, fm_at, fm_row, fm_ne, h0]), (by simp (disch := omega) only [fu_at, fu_ne, fm_at, fm_row, fm_ne, h0])⟩, fun q hq => by simp (disch := omega) only [fu_ne, fm_ne]⟩
/-- what TowField$Sheets() leaves -/
def B_X6 (f : Nat → AE) (a : Nat) : Prop := f a = .inr (.inr (5, [.ref (a + 1), .ref (a + 2), .ref (a + 3)])) ∧ f (a + 1) = .inl (4, fun _ => 0) ∧ f (a + 2) = .inl (4, fun _ => 0) ∧ f (a + 3) = .inr (.inl (1, 4, rowsOf (a + 3) 4)) ∧ f (a + 4) = .inl (24, fun _ => 0) ∧ f (a + 5) = .inl (24, fun _ => 0) ∧ f (a + 6) = .inl (24, fun _ => 0) ∧ f (a + 7) = .inl (24, fun _ => 0)
theorem B_X6_fr {f f' : Nat → AE} {a : Nat} (h : ∀ q, a ≤ q → q ≤ a + 7 → f' q = f q) (hb : B_X6 f a) : B_X6 f' a := ⟨(h _ (by omega) (by omega)).trans hb.1, (h _ (by omega) (by omega)).trans hb.2.1, (h _ (by omega) (by omega)).trans hb.2.2.1, (h _ (by omega) (by omega)).trans hb.2.2.2.1, (h _ (by omega) (by omega)).trans hb.2.2.2.2.1, (h _ (by omega) (by omega)).trans hb.2.2.2.2.2.1, (h _ (by omega) (by omega)).trans hb.2.2.2.2.2.2.1, (h _ (by omega) (by omega)).trans hb.2.2.2.2.2.2.2⟩
set_option maxHeartbeats 4000000 in
theorem K_X6 {d : Nat} (hd : 2 ≤ d) {a : Nat} (ha : a + 1 + 7 ≤ 148) {f : Nat → AE} (h0 : f a = .inr (.inr (5, [.null, .null, .null]))) : KCon d 7 108 mX6_init [.ref a] (hp (a + 1) f) (fun h => ∃ g, h = hp (a + 8) g ∧ B_X6 g a ∧ ∀ k, k < a → g k = f k) := by
  refine kcon_of (by decide) (catL rfl) (Nat.le_of_ble_eq_true rfl) ?_
  intro μ ω C hr hin hz hc hk
  have C : Cx μ ω "TowField$Sheets" cX6_init 1 d := C
  have hr : (mH μ).sig.returnType = none := hr
  have hin : (mH μ).name = "<init>" := hin
  rw [hp_len] at hz
  show G μ ω (RK μ ω 7 108 _) 0 [some (.ref a)] [] (hp (a + 1) f) 0 0
  refine g_al0n (pc := 0) C dX6_init_0 ?_
  refine k_obj (pc := 1) (st := []) C obX6_1 (by omega) rfl (Nat.le_of_ble_eq_true rfl) dX6_init_1 ?_
  refine g_al0n (pc := 4) C dX6_init_4 ?_
  refine g_iconst (pc := 5) (v := 4) C dX6_init_5 (by decide) ?_
  refine k_newa (pc := 6) (N := (a + 1)) (m := 4) C hz (by omega) (by omega) rfl (by decide) (by omega) (by omega) dX6_init_6 ?_
  refine k_putF (pc := 8) (a := a) (fs := [.null, .null, .null]) (fs' := [.ref (a + 1), .null, .null]) C hin uX6_9 (by omega) (by simp (disch := omega) only [fu_at, fu_ne, fm_at, fm_ne, h0]) (Nat.le_of_ble_eq_true rfl) rfl rfl rfl dX6_init_8 ?_
  refine g_al0n (pc := 11) C dX6_init_11 ?_
  refine g_iconst (pc := 12) (v := 4) C dX6_init_12 (by decide) ?_
  refine k_newa (pc := 13) (N := (a + 2)) (m := 4) C hz (by omega) (by omega) rfl (by decide) (by omega) (by omega) dX6_init_13 ?_
  refine k_putF (pc := 15) (a := a) (fs := [.ref (a + 1), .null, .null]) (fs' := [.ref (a + 1), .ref (a + 2), .null]) C hin uX6_13 (by omega) (by simp (disch := omega) only [fu_at, fu_ne, fm_at, fm_ne, h0]) (Nat.le_of_ble_eq_true rfl) rfl rfl rfl dX6_init_15 ?_
  refine g_al0n (pc := 18) C dX6_init_18 ?_
  refine g_iconst (pc := 19) (v := 4) C dX6_init_19 (by decide) ?_
  refine g_bipush (pc := 20) (v := 24) C dX6_init_20 (by decide) ?_
  refine k_multi (pc := 22) (N := (a + 3)) (r := 4) (m := 24) C hz (by omega) (by omega) rfl rfl (by decide) clX6_16 (by omega) (by omega) dX6_init_22 ?_
  refine k_putF (pc := 26) (a := a) (fs := [.ref (a + 1), .ref (a + 2), .null]) (fs' := [.ref (a + 1), .ref (a + 2), .ref (a + 3)]) C hin uX6_18 (by omega) (by simp (disch := omega) only [fu_at, fu_ne, fm_at, fm_ne, h0]) (Nat.le_of_ble_eq_true rfl) rfl rfl rfl dX6_init_26 ?_
  exact k_vret C hr dX6_init_29 (by omega) (by omega) ⟨_, rfl, ⟨(by simp (disch := omega) only [fu_at, fu_ne, fm_at, fm_row, fm_ne, h0]), (by simp (disch := omega) only [fu_at, fu_ne, fm_at, fm_row, fm_ne, h0]), (by simp (disch := omega) only [fu_at, fu_ne, fm_at, fm_row, fm_ne, h0]), (by simp (disch := omega) only [fu_at, fu_ne, fm_at, fm_row, fm_ne, h0]), (by simp (disch := omega) only [fu_at, fu_ne, fm_at, fm_row, fm_ne, h0]), (by simp (disch := omega) only [fu_at, fu_ne, fm_at, fm_row, fm_ne, h0]), (by simp (disch := omega) only [fu_at, fu_ne, fm_at, fm_row, fm_ne, h0]), (by simp (disch := omega) only [fu_at, fu_ne, fm_at, fm_row, fm_ne, h0])⟩, fun q hq => by simp (disch := omega) only [fu_ne, fm_ne]⟩
/-- what TowField$Tape() leaves -/
def B_X7 (f : Nat → AE) (a : Nat) : Prop := f a = .inr (.inr (6, [.ref (a + 1), .ref (a + 2), .int 0, .int 0, .int 0, .int 0, .int 258, .int 0])) ∧ f (a + 1) = .inl (100, fun _ => 0) ∧ f (a + 2) = .inl (100, fun _ => 0)
theorem B_X7_fr {f f' : Nat → AE} {a : Nat} (h : ∀ q, a ≤ q → q ≤ a + 2 → f' q = f q) (hb : B_X7 f a) : B_X7 f' a := ⟨(h _ (by omega) (by omega)).trans hb.1, (h _ (by omega) (by omega)).trans hb.2.1, (h _ (by omega) (by omega)).trans hb.2.2⟩
set_option maxHeartbeats 4000000 in
theorem K_X7 {d : Nat} (hd : 2 ≤ d) {a : Nat} (ha : a + 1 + 2 ≤ 148) {f : Nat → AE} (h0 : f a = .inr (.inr (6, [.null, .null, .int 0, .int 0, .int 0, .int 0, .int 0, .int 0]))) : KCon d 2 200 mX7_init [.ref a] (hp (a + 1) f) (fun h => ∃ g, h = hp (a + 3) g ∧ B_X7 g a ∧ ∀ k, k < a → g k = f k) := by
  refine kcon_of (by decide) (catL rfl) (Nat.le_of_ble_eq_true rfl) ?_
  intro μ ω C hr hin hz hc hk
  have C : Cx μ ω "TowField$Tape" cX7_init 1 d := C
  have hr : (mH μ).sig.returnType = none := hr
  have hin : (mH μ).name = "<init>" := hin
  rw [hp_len] at hz
  show G μ ω (RK μ ω 2 200 _) 0 [some (.ref a)] [] (hp (a + 1) f) 0 0
  refine g_al0n (pc := 0) C dX7_init_0 ?_
  refine k_obj (pc := 1) (st := []) C obX7_3 (by omega) rfl (Nat.le_of_ble_eq_true rfl) dX7_init_1 ?_
  refine g_al0n (pc := 4) C dX7_init_4 ?_
  refine g_bipush (pc := 5) (v := 100) C dX7_init_5 (by decide) ?_
  refine k_newa (pc := 7) (N := (a + 1)) (m := 100) C hz (by omega) (by omega) rfl (by decide) (by omega) (by omega) dX7_init_7 ?_
  refine k_putF (pc := 9) (a := a) (fs := [.null, .null, .int 0, .int 0, .int 0, .int 0, .int 0, .int 0]) (fs' := [.ref (a + 1), .null, .int 0, .int 0, .int 0, .int 0, .int 0, .int 0]) C hin uX7_9 (by omega) (by simp (disch := omega) only [fu_at, fu_ne, fm_at, fm_ne, h0]) (Nat.le_of_ble_eq_true rfl) rfl rfl rfl dX7_init_9 ?_
  refine g_al0n (pc := 12) C dX7_init_12 ?_
  refine g_bipush (pc := 13) (v := 100) C dX7_init_13 (by decide) ?_
  refine k_newa (pc := 15) (N := (a + 2)) (m := 100) C hz (by omega) (by omega) rfl (by decide) (by omega) (by omega) dX7_init_15 ?_
  refine k_putF (pc := 17) (a := a) (fs := [.ref (a + 1), .null, .int 0, .int 0, .int 0, .int 0, .int 0, .int 0]) (fs' := [.ref (a + 1), .ref (a + 2), .int 0, .int 0, .int 0, .int 0, .int 0, .int 0]) C hin uX7_15 (by omega) (by simp (disch := omega) only [fu_at, fu_ne, fm_at, fm_ne, h0]) (Nat.le_of_ble_eq_true rfl) rfl rfl rfl dX7_init_17 ?_
  refine g_al0n (pc := 20) C dX7_init_20 ?_
  refine g_iconst (pc := 21) (v := 0) C dX7_init_21 (by decide) ?_
  refine k_put (pc := 22) (a := a) (fs := [.ref (a + 1), .ref (a + 2), .int 0, .int 0, .int 0, .int 0, .int 0, .int 0]) (fs' := [.ref (a + 1), .ref (a + 2), .int 0, .int 0, .int 0, .int 0, .int 0, .int 0]) C pX7_18 (by omega) (by simp (disch := omega) only [fu_at, fu_ne, fm_at, fm_ne, h0]) (Nat.le_of_ble_eq_true rfl) rfl rfl rfl dX7_init_22 ?_
  refine g_al0n (pc := 25) C dX7_init_25 ?_
  refine g_iconst (pc := 26) (v := 0) C dX7_init_26 (by decide) ?_
  refine k_put (pc := 27) (a := a) (fs := [.ref (a + 1), .ref (a + 2), .int 0, .int 0, .int 0, .int 0, .int 0, .int 0]) (fs' := [.ref (a + 1), .ref (a + 2), .int 0, .int 0, .int 0, .int 0, .int 0, .int 0]) C pX7_22 (by omega) (by simp (disch := omega) only [fu_at, fu_ne, fm_at, fm_ne, h0]) (Nat.le_of_ble_eq_true rfl) rfl rfl rfl dX7_init_27 ?_
  refine g_al0n (pc := 30) C dX7_init_30 ?_
  refine g_iconst (pc := 31) (v := 0) C dX7_init_31 (by decide) ?_
  refine k_put (pc := 32) (a := a) (fs := [.ref (a + 1), .ref (a + 2), .int 0, .int 0, .int 0, .int 0, .int 0, .int 0]) (fs' := [.ref (a + 1), .ref (a + 2), .int 0, .int 0, .int 0, .int 0, .int 0, .int 0]) C pX7_25 (by omega) (by simp (disch := omega) only [fu_at, fu_ne, fm_at, fm_ne, h0]) (Nat.le_of_ble_eq_true rfl) rfl rfl rfl dX7_init_32 ?_
  refine g_al0n (pc := 35) C dX7_init_35 ?_
  refine g_iconst (pc := 36) (v := 0) C dX7_init_36 (by decide) ?_
  refine k_put (pc := 37) (a := a) (fs := [.ref (a + 1), .ref (a + 2), .int 0, .int 0, .int 0, .int 0, .int 0, .int 0]) (fs' := [.ref (a + 1), .ref (a + 2), .int 0, .int 0, .int 0, .int 0, .int 0, .int 0]) C pX7_28 (by omega) (by simp (disch := omega) only [fu_at, fu_ne, fm_at, fm_ne, h0]) (Nat.le_of_ble_eq_true rfl) rfl rfl rfl dX7_init_37 ?_
  refine g_al0n (pc := 40) C dX7_init_40 ?_
  refine g_sipush (pc := 41) (v := 258) C dX7_init_41 (by decide) ?_
  refine k_put (pc := 44) (a := a) (fs := [.ref (a + 1), .ref (a + 2), .int 0, .int 0, .int 0, .int 0, .int 0, .int 0]) (fs' := [.ref (a + 1), .ref (a + 2), .int 0, .int 0, .int 0, .int 0, .int 258, .int 0]) C pX7_31 (by omega) (by simp (disch := omega) only [fu_at, fu_ne, fm_at, fm_ne, h0]) (Nat.le_of_ble_eq_true rfl) rfl rfl rfl dX7_init_44 ?_
  refine g_al0n (pc := 47) C dX7_init_47 ?_
  refine g_iconst (pc := 48) (v := 0) C dX7_init_48 (by decide) ?_
  refine k_put (pc := 49) (a := a) (fs := [.ref (a + 1), .ref (a + 2), .int 0, .int 0, .int 0, .int 0, .int 258, .int 0]) (fs' := [.ref (a + 1), .ref (a + 2), .int 0, .int 0, .int 0, .int 0, .int 258, .int 0]) C pX7_34 (by omega) (by simp (disch := omega) only [fu_at, fu_ne, fm_at, fm_ne, h0]) (Nat.le_of_ble_eq_true rfl) rfl rfl rfl dX7_init_49 ?_
  exact k_vret C hr dX7_init_52 (by omega) (by omega) ⟨_, rfl, ⟨(by simp (disch := omega) only [fu_at, fu_ne, fm_at, fm_row, fm_ne, h0]), (by simp (disch := omega) only [fu_at, fu_ne, fm_at, fm_row, fm_ne, h0]), (by simp (disch := omega) only [fu_at, fu_ne, fm_at, fm_row, fm_ne, h0])⟩, fun q hq => by simp (disch := omega) only [fu_ne, fm_ne]⟩
/-- what TowField() leaves -/
def B_X11 (f : Nat → AE) : Prop := f 0 = .inr (.inr (10, [.ref 1, .ref 12, .ref 49, .ref 86, .ref 123, .ref 131, .ref 134, .int 0])) ∧ f 1 = .inr (.inr (7, [.ref (2), .ref (9), .ref (10), .ref (11)])) ∧ f 2 = .inr (.inl (1, 6, rowsOf (2) 6)) ∧ f 3 = .inl (100, fun _ => 0) ∧ f 4 = .inl (100, fun _ => 0) ∧ f 5 = .inl (100, fun _ => 0) ∧ f 6 = .inl (100, fun _ => 0) ∧ f 7 = .inl (100, fun _ => 0) ∧ f 8 = .inl (100, fun _ => 0) ∧ f 9 = .inl (6, fun _ => 0) ∧ f 10 = .inl (4, fun _ => 0) ∧ f 11 = .inl (100, fun _ => 0) ∧ f 12 = .inr (.inr (9, [.ref 1, .ref (13), .ref (18), .ref (23), .ref (26), .ref (28), .ref (34), .ref (47), .ref (48), .int 0, .int 0, .int 15, .int 0])) ∧ f 13 = .inr (.inr (1, [.ref (14), .ref (15), .ref (16), .ref (17), .int 0, .int 0])) ∧ f 14 = .inl (10, fun _ => 0) ∧ f 15 = .inl (10, fun _ => 0) ∧ f 16 = .inl (10, fun _ => 0) ∧ f 17 = .inl (10, fun _ => 0) ∧ f 18 = .inr (.inr (3, [.ref (19), .ref (20), .ref (21), .ref (22), .int 0, .int 0])) ∧ f 19 = .inl (14, fun _ => 0) ∧ f 20 = .inl (14, fun _ => 0) ∧ f 21 = .inl (14, fun _ => 0) ∧ f 22 = .inl (14, fun _ => 0) ∧ f 23 = .inr (.inr (8, [.ref (24), .ref (25), .int 0])) ∧ f 24 = .inl (6, fun _ => 0) ∧ f 25 = .inl (6, fun _ => 0) ∧ f 26 = .inr (.inr (4, [.ref (27), .int 0])) ∧ f 27 = .inl (3, fun _ => 0) ∧ f 28 = .inr (.inr (2, [.ref (29), .ref (30), .ref (31), .ref (32), .ref (33), .int 0])) ∧ f 29 = .inl (6, upd (upd (upd (upd (upd (upd (fun _ => 0) (0) 1) (1) 2) (2) 4) (3) 8) (4) 16) (5) 32) ∧ f 30 = .inl (4, upd (upd (upd (upd (fun _ => 0) (0) 0) (1) 1) (2) 2) (3) 3) ∧ f 31 = .inl (6, fun _ => 0) ∧ f 32 = .inl (6, fun _ => 0) ∧ f 33 = .inl (6, fun _ => 0) ∧ f 34 = .inr (.inr (0, [.ref (35), .ref (36), .ref (37), .ref (38), .ref (39), .ref (40), .ref (41), .ref (42), .ref (43), .ref (44), .ref (45), .ref (46), .int 0])) ∧ f 35 = .inl (20, fun _ => 0) ∧ f 36 = .inl (20, fun _ => 0) ∧ f 37 = .inl (20, fun _ => 0) ∧ f 38 = .inl (20, fun _ => 0) ∧ f 39 = .inl (20, fun _ => 0) ∧ f 40 = .inl (20, fun _ => 0) ∧ f 41 = .inl (20, fun _ => 0) ∧ f 42 = .inl (20, fun _ => 0) ∧ f 43 = .inl (20, fun _ => 0) ∧ f 44 = .inl (20, fun _ => 0) ∧ f 45 = .inl (20, fun _ => 0) ∧ f 46 = .inl (20, fun _ => 0) ∧ f 47 = .inl (4, upd (upd (upd (upd (fun _ => 0) (0) 4) (1) 0) (2) 10) (3) 2) ∧ f 48 = .inl (2, upd (upd (fun _ => 0) (0) ((-1))) (1) ((-1))) ∧ f 49 = .inr (.inr (9, [.ref 1, .ref (50), .ref (55), .ref (60), .ref (63), .ref (65), .ref (71), .ref (84), .ref (85), .int 0, .int 0, .int 15, .int 0])) ∧ f 50 = .inr (.inr (1, [.ref (51), .ref (52), .ref (53), .ref (54), .int 0, .int 0])) ∧ f 51 = .inl (10, fun _ => 0) ∧ f 52 = .inl (10, fun _ => 0) ∧ f 53 = .inl (10, fun _ => 0) ∧ f 54 = .inl (10, fun _ => 0) ∧ f 55 = .inr (.inr (3, [.ref (56), .ref (57), .ref (58), .ref (59), .int 0, .int 0])) ∧ f 56 = .inl (14, fun _ => 0) ∧ f 57 = .inl (14, fun _ => 0) ∧ f 58 = .inl (14, fun _ => 0) ∧ f 59 = .inl (14, fun _ => 0) ∧ f 60 = .inr (.inr (8, [.ref (61), .ref (62), .int 0])) ∧ f 61 = .inl (6, fun _ => 0) ∧ f 62 = .inl (6, fun _ => 0) ∧ f 63 = .inr (.inr (4, [.ref (64), .int 0])) ∧ f 64 = .inl (3, fun _ => 0) ∧ f 65 = .inr (.inr (2, [.ref (66), .ref (67), .ref (68), .ref (69), .ref (70), .int 0])) ∧ f 66 = .inl (6, upd (upd (upd (upd (upd (upd (fun _ => 0) (0) 1) (1) 2) (2) 4) (3) 8) (4) 16) (5) 32) ∧ f 67 = .inl (4, upd (upd (upd (upd (fun _ => 0) (0) 0) (1) 1) (2) 2) (3) 3) ∧ f 68 = .inl (6, fun _ => 0) ∧ f 69 = .inl (6, fun _ => 0) ∧ f 70 = .inl (6, fun _ => 0) ∧ f 71 = .inr (.inr (0, [.ref (72), .ref (73), .ref (74), .ref (75), .ref (76), .ref (77), .ref (78), .ref (79), .ref (80), .ref (81), .ref (82), .ref (83), .int 0])) ∧ f 72 = .inl (20, fun _ => 0) ∧ f 73 = .inl (20, fun _ => 0) ∧ f 74 = .inl (20, fun _ => 0) ∧ f 75 = .inl (20, fun _ => 0) ∧ f 76 = .inl (20, fun _ => 0) ∧ f 77 = .inl (20, fun _ => 0) ∧ f 78 = .inl (20, fun _ => 0) ∧ f 79 = .inl (20, fun _ => 0) ∧ f 80 = .inl (20, fun _ => 0) ∧ f 81 = .inl (20, fun _ => 0) ∧ f 82 = .inl (20, fun _ => 0) ∧ f 83 = .inl (20, fun _ => 0) ∧ f 84 = .inl (4, upd (upd (upd (upd (fun _ => 0) (0) 4) (1) 0) (2) 10) (3) 2) ∧ f 85 = .inl (2, upd (upd (fun _ => 0) (0) ((-1))) (1) ((-1))) ∧ f 86 = .inr (.inr (9, [.ref 1, .ref (87), .ref (92), .ref (97), .ref (100), .ref (102), .ref (108), .ref (121), .ref (122), .int 0, .int 0, .int 15, .int 0])) ∧ f 87 = .inr (.inr (1, [.ref (88), .ref (89), .ref (90), .ref (91), .int 0, .int 0])) ∧ f 88 = .inl (10, fun _ => 0) ∧ f 89 = .inl (10, fun _ => 0) ∧ f 90 = .inl (10, fun _ => 0) ∧ f 91 = .inl (10, fun _ => 0) ∧ f 92 = .inr (.inr (3, [.ref (93), .ref (94), .ref (95), .ref (96), .int 0, .int 0])) ∧ f 93 = .inl (14, fun _ => 0) ∧ f 94 = .inl (14, fun _ => 0) ∧ f 95 = .inl (14, fun _ => 0) ∧ f 96 = .inl (14, fun _ => 0) ∧ f 97 = .inr (.inr (8, [.ref (98), .ref (99), .int 0])) ∧ f 98 = .inl (6, fun _ => 0) ∧ f 99 = .inl (6, fun _ => 0) ∧ f 100 = .inr (.inr (4, [.ref (101), .int 0])) ∧ f 101 = .inl (3, fun _ => 0) ∧ f 102 = .inr (.inr (2, [.ref (103), .ref (104), .ref (105), .ref (106), .ref (107), .int 0])) ∧ f 103 = .inl (6, upd (upd (upd (upd (upd (upd (fun _ => 0) (0) 1) (1) 2) (2) 4) (3) 8) (4) 16) (5) 32) ∧ f 104 = .inl (4, upd (upd (upd (upd (fun _ => 0) (0) 0) (1) 1) (2) 2) (3) 3) ∧ f 105 = .inl (6, fun _ => 0) ∧ f 106 = .inl (6, fun _ => 0) ∧ f 107 = .inl (6, fun _ => 0) ∧ f 108 = .inr (.inr (0, [.ref (109), .ref (110), .ref (111), .ref (112), .ref (113), .ref (114), .ref (115), .ref (116), .ref (117), .ref (118), .ref (119), .ref (120), .int 0])) ∧ f 109 = .inl (20, fun _ => 0) ∧ f 110 = .inl (20, fun _ => 0) ∧ f 111 = .inl (20, fun _ => 0) ∧ f 112 = .inl (20, fun _ => 0) ∧ f 113 = .inl (20, fun _ => 0) ∧ f 114 = .inl (20, fun _ => 0) ∧ f 115 = .inl (20, fun _ => 0) ∧ f 116 = .inl (20, fun _ => 0) ∧ f 117 = .inl (20, fun _ => 0) ∧ f 118 = .inl (20, fun _ => 0) ∧ f 119 = .inl (20, fun _ => 0) ∧ f 120 = .inl (20, fun _ => 0) ∧ f 121 = .inl (4, upd (upd (upd (upd (fun _ => 0) (0) 4) (1) 0) (2) 10) (3) 2) ∧ f 122 = .inl (2, upd (upd (fun _ => 0) (0) ((-1))) (1) ((-1))) ∧ f 123 = .inr (.inr (5, [.ref (124), .ref (125), .ref (126)])) ∧ f 124 = .inl (4, fun _ => 0) ∧ f 125 = .inl (4, fun _ => 0) ∧ f 126 = .inr (.inl (1, 4, rowsOf (126) 4)) ∧ f 127 = .inl (24, fun _ => 0) ∧ f 128 = .inl (24, fun _ => 0) ∧ f 129 = .inl (24, fun _ => 0) ∧ f 130 = .inl (24, fun _ => 0) ∧ f 131 = .inr (.inr (6, [.ref (132), .ref (133), .int 0, .int 0, .int 0, .int 0, .int 258, .int 0])) ∧ f 132 = .inl (100, fun _ => 0) ∧ f 133 = .inl (100, fun _ => 0) ∧ f 134 = .inl (7, fun _ => 0)
set_option maxHeartbeats 4000000 in
theorem K_X11 {d : Nat} (hd : 4 ≤ d) {f : Nat → AE} (h0 : f 0 = .inr (.inr (10, [.null, .null, .null, .null, .null, .null, .null, .int 0]))) : KCon d 134 2348 mX11_init [.ref 0] (hp (1) f) (fun h => ∃ g, h = hp (135) g ∧ B_X11 g ∧ ∀ k, k < 0 → g k = f k) := by
  refine kcon_of (by decide) (catL rfl) (Nat.le_of_ble_eq_true rfl) ?_
  intro μ ω C hr hin hz hc hk
  have C : Cx μ ω "TowField" cX11_init 1 d := C
  have hr : (mH μ).sig.returnType = none := hr
  have hin : (mH μ).name = "<init>" := hin
  rw [hp_len] at hz
  show G μ ω (RK μ ω 134 2348 _) 0 [some (.ref 0)] [] (hp (1) f) 0 0
  refine g_al0n (pc := 0) C dX11_init_0 ?_
  refine k_obj (pc := 1) (st := []) C obX11_1 (by omega) rfl (Nat.le_of_ble_eq_true rfl) dX11_init_1 ?_
  refine g_al0n (pc := 4) C dX11_init_4 ?_
  refine k_newv (pc := 5) (N := 1) (s := 4) C hz (by omega) (by omega) nwX11_7 rfl (by omega) (by omega) dX11_init_5 ?_
  refine g_dup (pc := 8) C dX11_init_8 rfl ?_
  refine k_callN (pc := 9) (st := [(.ref 1), (.ref 0)]) C hz (K_X8 (d := d - 1) (by omega) (a := 1) (by omega) (by simp (disch := omega) only [fu_at, fu_ne, fm_at, fm_ne, h0])) (by omega) (by omega) (by omega) kiX11_9 dX11_init_9 rfl (Nat.le_of_ble_eq_true rfl) (by omega) (by omega) rfl (fun h_1 w_1 => ?_)
  obtain ⟨f_1, rfl, hb_1, hf_1⟩ := w_1
  have ca_1 : f_1 0 = .inr (.inr (10, [.null, .null, .null, .null, .null, .null, .null, .int 0])) := (hf_1 _ (by omega)).trans (by simp (disch := omega) only [fu_at, fu_ne, fm_at, fm_ne, h0])
  refine k_putF (pc := 12) (a := 0) (fs := [.null, .null, .null, .null, .null, .null, .null, .int 0]) (fs' := [.ref 1, .null, .null, .null, .null, .null, .null, .int 0]) C hin uX11_10 (by omega) (by simp (disch := omega) only [fu_at, fu_ne, fm_at, fm_ne, h0, ca_1]) (Nat.le_of_ble_eq_true rfl) rfl rfl rfl dX11_init_12 ?_
  refine g_al0n (pc := 15) C dX11_init_15 ?_
  refine k_newv (pc := 16) (N := 12) (s := 13) C hz (by omega) (by omega) nwX11_16 rfl (by omega) (by omega) dX11_init_16 ?_
  refine g_dup (pc := 19) C dX11_init_19 rfl ?_
  refine g_al0n (pc := 20) C dX11_init_20 ?_
  refine k_get (pc := 21) (a := 0) (fs := [.ref 1, .null, .null, .null, .null, .null, .null, .int 0]) (v := .ref 1) C fX11_10 (by omega) (by simp (disch := omega) only [fu_at, fu_ne, fm_at, fm_ne, h0, ca_1]) rfl dX11_init_21 ?_
  refine k_callI (pc := 24) (st := [(.ref 12), (.ref 0)]) C hz (K_X10 (d := d - 1) (by omega) (a := 12) (by omega) (by simp (disch := omega) only [fu_at, fu_ne, fm_at, fm_ne, h0, ca_1])) (by omega) (by omega) (by omega) kiX11_18 dX11_init_24 rfl (Nat.le_of_ble_eq_true rfl) (by omega) (by omega) rfl (fun h_2 w_2 => ?_)
  obtain ⟨f_2, rfl, hb_2, hf_2⟩ := w_2
  have ca_2 : f_2 0 = .inr (.inr (10, [.ref 1, .null, .null, .null, .null, .null, .null, .int 0])) := (hf_2 _ (by omega)).trans (by simp (disch := omega) only [fu_at, fu_ne, fm_at, fm_ne, h0, ca_1])
  have hb_1 := B_X8_fr (f' := f_2) (fun q h1 h2 => (hf_2 q (by omega)).trans (by simp (disch := omega) only [fu_ne])) hb_1
  refine k_putF (pc := 27) (a := 0) (fs := [.ref 1, .null, .null, .null, .null, .null, .null, .int 0]) (fs' := [.ref 1, .ref 12, .null, .null, .null, .null, .null, .int 0]) C hin uX11_21 (by omega) (by simp (disch := omega) only [fu_at, fu_ne, fm_at, fm_ne, h0, ca_2]) (Nat.le_of_ble_eq_true rfl) rfl rfl rfl dX11_init_27 ?_
  refine g_al0n (pc := 30) C dX11_init_30 ?_
  refine k_newv (pc := 31) (N := 49) (s := 13) C hz (by omega) (by omega) nwX11_16 rfl (by omega) (by omega) dX11_init_31 ?_
  refine g_dup (pc := 34) C dX11_init_34 rfl ?_
  refine g_al0n (pc := 35) C dX11_init_35 ?_
  refine k_get (pc := 36) (a := 0) (fs := [.ref 1, .ref 12, .null, .null, .null, .null, .null, .int 0]) (v := .ref 1) C fX11_10 (by omega) (by simp (disch := omega) only [fu_at, fu_ne, fm_at, fm_ne, h0, ca_2]) rfl dX11_init_36 ?_
  refine k_callI (pc := 39) (st := [(.ref 49), (.ref 0)]) C hz (K_X10 (d := d - 1) (by omega) (a := 49) (by omega) (by simp (disch := omega) only [fu_at, fu_ne, fm_at, fm_ne, h0, ca_2])) (by omega) (by omega) (by omega) kiX11_18 dX11_init_39 rfl (Nat.le_of_ble_eq_true rfl) (by omega) (by omega) rfl (fun h_3 w_3 => ?_)
  obtain ⟨f_3, rfl, hb_3, hf_3⟩ := w_3
  have ca_3 : f_3 0 = .inr (.inr (10, [.ref 1, .ref 12, .null, .null, .null, .null, .null, .int 0])) := (hf_3 _ (by omega)).trans (by simp (disch := omega) only [fu_at, fu_ne, fm_at, fm_ne, h0, ca_2])
  have hb_1 := B_X8_fr (f' := f_3) (fun q h1 h2 => (hf_3 q (by omega)).trans (by simp (disch := omega) only [fu_ne])) hb_1
  have hb_2 := B_X10_fr (f' := f_3) (fun q h1 h2 => (hf_3 q (by omega)).trans (by simp (disch := omega) only [fu_ne])) hb_2
  refine k_putF (pc := 42) (a := 0) (fs := [.ref 1, .ref 12, .null, .null, .null, .null, .null, .int 0]) (fs' := [.ref 1, .ref 12, .ref 49, .null, .null, .null, .null, .int 0]) C hin uX11_25 (by omega) (by simp (disch := omega) only [fu_at, fu_ne, fm_at, fm_ne, h0, ca_3]) (Nat.le_of_ble_eq_true rfl) rfl rfl rfl dX11_init_42 ?_
  refine g_al0n (pc := 45) C dX11_init_45 ?_
  refine k_newv (pc := 46) (N := 86) (s := 13) C hz (by omega) (by omega) nwX11_16 rfl (by omega) (by omega) dX11_init_46 ?_
  refine g_dup (pc := 49) C dX11_init_49 rfl ?_
  refine g_al0n (pc := 50) C dX11_init_50 ?_
  refine k_get (pc := 51) (a := 0) (fs := [.ref 1, .ref 12, .ref 49, .null, .null, .null, .null, .int 0]) (v := .ref 1) C fX11_10 (by omega) (by simp (disch := omega) only [fu_at, fu_ne, fm_at, fm_ne, h0, ca_3]) rfl dX11_init_51 ?_
  refine k_callI (pc := 54) (st := [(.ref 86), (.ref 0)]) C hz (K_X10 (d := d - 1) (by omega) (a := 86) (by omega) (by simp (disch := omega) only [fu_at, fu_ne, fm_at, fm_ne, h0, ca_3])) (by omega) (by omega) (by omega) kiX11_18 dX11_init_54 rfl (Nat.le_of_ble_eq_true rfl) (by omega) (by omega) rfl (fun h_4 w_4 => ?_)
  obtain ⟨f_4, rfl, hb_4, hf_4⟩ := w_4
  have ca_4 : f_4 0 = .inr (.inr (10, [.ref 1, .ref 12, .ref 49, .null, .null, .null, .null, .int 0])) := (hf_4 _ (by omega)).trans (by simp (disch := omega) only [fu_at, fu_ne, fm_at, fm_ne, h0, ca_3])
  have hb_1 := B_X8_fr (f' := f_4) (fun q h1 h2 => (hf_4 q (by omega)).trans (by simp (disch := omega) only [fu_ne])) hb_1
  have hb_2 := B_X10_fr (f' := f_4) (fun q h1 h2 => (hf_4 q (by omega)).trans (by simp (disch := omega) only [fu_ne])) hb_2
  have hb_3 := B_X10_fr (f' := f_4) (fun q h1 h2 => (hf_4 q (by omega)).trans (by simp (disch := omega) only [fu_ne])) hb_3
  refine k_putF (pc := 57) (a := 0) (fs := [.ref 1, .ref 12, .ref 49, .null, .null, .null, .null, .int 0]) (fs' := [.ref 1, .ref 12, .ref 49, .ref 86, .null, .null, .null, .int 0]) C hin uX11_28 (by omega) (by simp (disch := omega) only [fu_at, fu_ne, fm_at, fm_ne, h0, ca_4]) (Nat.le_of_ble_eq_true rfl) rfl rfl rfl dX11_init_57 ?_
  refine g_al0n (pc := 60) C dX11_init_60 ?_
  refine k_newv (pc := 61) (N := 123) (s := 3) C hz (by omega) (by omega) nwX11_31 rfl (by omega) (by omega) dX11_init_61 ?_
  refine g_dup (pc := 64) C dX11_init_64 rfl ?_
  refine k_callN (pc := 65) (st := [(.ref 123), (.ref 0)]) C hz (K_X6 (d := d - 1) (by omega) (a := 123) (by omega) (by simp (disch := omega) only [fu_at, fu_ne, fm_at, fm_ne, h0, ca_4])) (by omega) (by omega) (by omega) kiX11_33 dX11_init_65 rfl (Nat.le_of_ble_eq_true rfl) (by omega) (by omega) rfl (fun h_5 w_5 => ?_)
  obtain ⟨f_5, rfl, hb_5, hf_5⟩ := w_5
  have ca_5 : f_5 0 = .inr (.inr (10, [.ref 1, .ref 12, .ref 49, .ref 86, .null, .null, .null, .int 0])) := (hf_5 _ (by omega)).trans (by simp (disch := omega) only [fu_at, fu_ne, fm_at, fm_ne, h0, ca_4])
  have hb_1 := B_X8_fr (f' := f_5) (fun q h1 h2 => (hf_5 q (by omega)).trans (by simp (disch := omega) only [fu_ne])) hb_1
  have hb_2 := B_X10_fr (f' := f_5) (fun q h1 h2 => (hf_5 q (by omega)).trans (by simp (disch := omega) only [fu_ne])) hb_2
  have hb_3 := B_X10_fr (f' := f_5) (fun q h1 h2 => (hf_5 q (by omega)).trans (by simp (disch := omega) only [fu_ne])) hb_3
  have hb_4 := B_X10_fr (f' := f_5) (fun q h1 h2 => (hf_5 q (by omega)).trans (by simp (disch := omega) only [fu_ne])) hb_4
  refine k_putF (pc := 68) (a := 0) (fs := [.ref 1, .ref 12, .ref 49, .ref 86, .null, .null, .null, .int 0]) (fs' := [.ref 1, .ref 12, .ref 49, .ref 86, .ref 123, .null, .null, .int 0]) C hin uX11_34 (by omega) (by simp (disch := omega) only [fu_at, fu_ne, fm_at, fm_ne, h0, ca_5]) (Nat.le_of_ble_eq_true rfl) rfl rfl rfl dX11_init_68 ?_
  refine g_al0n (pc := 71) C dX11_init_71 ?_
  refine k_newv (pc := 72) (N := 131) (s := 8) C hz (by omega) (by omega) nwX11_38 rfl (by omega) (by omega) dX11_init_72 ?_
  refine g_dup (pc := 75) C dX11_init_75 rfl ?_
  refine k_callN (pc := 76) (st := [(.ref 131), (.ref 0)]) C hz (K_X7 (d := d - 1) (by omega) (a := 131) (by omega) (by simp (disch := omega) only [fu_at, fu_ne, fm_at, fm_ne, h0, ca_5])) (by omega) (by omega) (by omega) kiX11_40 dX11_init_76 rfl (Nat.le_of_ble_eq_true rfl) (by omega) (by omega) rfl (fun h_6 w_6 => ?_)
  obtain ⟨f_6, rfl, hb_6, hf_6⟩ := w_6
  have ca_6 : f_6 0 = .inr (.inr (10, [.ref 1, .ref 12, .ref 49, .ref 86, .ref 123, .null, .null, .int 0])) := (hf_6 _ (by omega)).trans (by simp (disch := omega) only [fu_at, fu_ne, fm_at, fm_ne, h0, ca_5])
  have hb_1 := B_X8_fr (f' := f_6) (fun q h1 h2 => (hf_6 q (by omega)).trans (by simp (disch := omega) only [fu_ne])) hb_1
  have hb_2 := B_X10_fr (f' := f_6) (fun q h1 h2 => (hf_6 q (by omega)).trans (by simp (disch := omega) only [fu_ne])) hb_2
  have hb_3 := B_X10_fr (f' := f_6) (fun q h1 h2 => (hf_6 q (by omega)).trans (by simp (disch := omega) only [fu_ne])) hb_3
  have hb_4 := B_X10_fr (f' := f_6) (fun q h1 h2 => (hf_6 q (by omega)).trans (by simp (disch := omega) only [fu_ne])) hb_4
  have hb_5 := B_X6_fr (f' := f_6) (fun q h1 h2 => (hf_6 q (by omega)).trans (by simp (disch := omega) only [fu_ne])) hb_5
  refine k_putF (pc := 79) (a := 0) (fs := [.ref 1, .ref 12, .ref 49, .ref 86, .ref 123, .null, .null, .int 0]) (fs' := [.ref 1, .ref 12, .ref 49, .ref 86, .ref 123, .ref 131, .null, .int 0]) C hin uX11_41 (by omega) (by simp (disch := omega) only [fu_at, fu_ne, fm_at, fm_ne, h0, ca_6]) (Nat.le_of_ble_eq_true rfl) rfl rfl rfl dX11_init_79 ?_
  refine g_al0n (pc := 82) C dX11_init_82 ?_
  refine g_bipush (pc := 83) (v := 7) C dX11_init_83 (by decide) ?_
  refine k_newa (pc := 85) (N := 134) (m := 7) C hz (by omega) (by omega) rfl (by decide) (by omega) (by omega) dX11_init_85 ?_
  refine k_putF (pc := 87) (a := 0) (fs := [.ref 1, .ref 12, .ref 49, .ref 86, .ref 123, .ref 131, .null, .int 0]) (fs' := [.ref 1, .ref 12, .ref 49, .ref 86, .ref 123, .ref 131, .ref 134, .int 0]) C hin uX11_45 (by omega) (by simp (disch := omega) only [fu_at, fu_ne, fm_at, fm_ne, h0, ca_6]) (Nat.le_of_ble_eq_true rfl) rfl rfl rfl dX11_init_87 ?_
  refine g_al0n (pc := 90) C dX11_init_90 ?_
  refine g_iconst (pc := 91) (v := 0) C dX11_init_91 (by decide) ?_
  refine k_put (pc := 92) (a := 0) (fs := [.ref 1, .ref 12, .ref 49, .ref 86, .ref 123, .ref 131, .ref 134, .int 0]) (fs' := [.ref 1, .ref 12, .ref 49, .ref 86, .ref 123, .ref 131, .ref 134, .int 0]) C pX11_49 (by omega) (by simp (disch := omega) only [fu_at, fu_ne, fm_at, fm_ne, h0, ca_6]) (Nat.le_of_ble_eq_true rfl) rfl rfl rfl dX11_init_92 ?_
  exact k_vret C hr dX11_init_95 (by omega) (by omega) ⟨_, rfl, ⟨(by simp (disch := omega) only [fu_at, fu_ne, fm_at, fm_row, fm_ne, h0, ca_6]), (by simp (disch := omega) only [fu_ne]; exact hb_1.1), (by simp (disch := omega) only [fu_ne]; exact hb_1.2.1), (by simp (disch := omega) only [fu_ne]; exact hb_1.2.2.1), (by simp (disch := omega) only [fu_ne]; exact hb_1.2.2.2.1), (by simp (disch := omega) only [fu_ne]; exact hb_1.2.2.2.2.1), (by simp (disch := omega) only [fu_ne]; exact hb_1.2.2.2.2.2.1), (by simp (disch := omega) only [fu_ne]; exact hb_1.2.2.2.2.2.2.1), (by simp (disch := omega) only [fu_ne]; exact hb_1.2.2.2.2.2.2.2.1), (by simp (disch := omega) only [fu_ne]; exact hb_1.2.2.2.2.2.2.2.2.1), (by simp (disch := omega) only [fu_ne]; exact hb_1.2.2.2.2.2.2.2.2.2.1), (by simp (disch := omega) only [fu_ne]; exact hb_1.2.2.2.2.2.2.2.2.2.2), (by simp (disch := omega) only [fu_ne]; exact hb_2.1), (by simp (disch := omega) only [fu_ne]; exact hb_2.2.1), (by simp (disch := omega) only [fu_ne]; exact hb_2.2.2.1), (by simp (disch := omega) only [fu_ne]; exact hb_2.2.2.2.1), (by simp (disch := omega) only [fu_ne]; exact hb_2.2.2.2.2.1), (by simp (disch := omega) only [fu_ne]; exact hb_2.2.2.2.2.2.1), (by simp (disch := omega) only [fu_ne]; exact hb_2.2.2.2.2.2.2.1), (by simp (disch := omega) only [fu_ne]; exact hb_2.2.2.2.2.2.2.2.1), (by simp (disch := omega) only [fu_ne]; exact hb_2.2.2.2.2.2.2.2.2.1), (by simp (disch := omega) only [fu_ne]; exact hb_2.2.2.2.2.2.2.2.2.2.1), (by simp (disch := omega) only [fu_ne]; exact hb_2.2.2.2.2.2.2.2.2.2.2.1), (by simp (disch := omega) only [fu_ne]; exact hb_2.2.2.2.2.2.2.2.2.2.2.2.1), (by simp (disch := omega) only [fu_ne]; exact hb_2.2.2.2.2.2.2.2.2.2.2.2.2.1), (by simp (disch := omega) only [fu_ne]; exact hb_2.2.2.2.2.2.2.2.2.2.2.2.2.2.1), (by simp (disch := omega) only [fu_ne]; exact hb_2.2.2.2.2.2.2.2.2.2.2.2.2.2.2.1), (by simp (disch := omega) only [fu_ne]; exact hb_2.2.2.2.2.2.2.2.2.2.2.2.2.2.2.2.1), (by simp (disch := omega) only [fu_ne]; exact hb_2.2.2.2.2.2.2.2.2.2.2.2.2.2.2.2.2.1), (by simp (disch := omega) only [fu_ne]; exact hb_2.2.2.2.2.2.2.2.2.2.2.2.2.2.2.2.2.2.1), (by simp (disch := omega) only [fu_ne]; exact hb_2.2.2.2.2.2.2.2.2.2.2.2.2.2.2.2.2.2.2.1), (by simp (disch := omega) only [fu_ne]; exact hb_2.2.2.2.2.2.2.2.2.2.2.2.2.2.2.2.2.2.2.2.1), (by simp (disch := omega) only [fu_ne]; exact hb_2.2.2.2.2.2.2.2.2.2.2.2.2.2.2.2.2.2.2.2.2.1), (by simp (disch := omega) only [fu_ne]; exact hb_2.2.2.2.2.2.2.2.2.2.2.2.2.2.2.2.2.2.2.2.2.2.1), (by simp (disch := omega) only [fu_ne]; exact hb_2.2.2.2.2.2.2.2.2.2.2.2.2.2.2.2.2.2.2.2.2.2.2.1), (by simp (disch := omega) only [fu_ne]; exact hb_2.2.2.2.2.2.2.2.2.2.2.2.2.2.2.2.2.2.2.2.2.2.2.2.1), (by simp (disch := omega) only [fu_ne]; exact hb_2.2.2.2.2.2.2.2.2.2.2.2.2.2.2.2.2.2.2.2.2.2.2.2.2.1), (by simp (disch := omega) only [fu_ne]; exact hb_2.2.2.2.2.2.2.2.2.2.2.2.2.2.2.2.2.2.2.2.2.2.2.2.2.2.1), (by simp (disch := omega) only [fu_ne]; exact hb_2.2.2.2.2.2.2.2.2.2.2.2.2.2.2.2.2.2.2.2.2.2.2.2.2.2.2.1), (by simp (disch := omega) only [fu_ne]; exact hb_2.2.2.2.2.2.2.2.2.2.2.2.2.2.2.2.2.2.2.2.2.2.2.2.2.2.2.2.1), (by simp (disch := omega) only [fu_ne]; exact hb_2.2.2.2.2.2.2.2.2.2.2.2.2.2.2.2.2.2.2.2.2.2.2.2.2.2.2.2.2.1), (by simp (disch := omega) only [fu_ne]; exact hb_2.2.2.2.2.2.2.2.2.2.2.2.2.2.2.2.2.2.2.2.2.2.2.2.2.2.2.2.2.2.1), (by simp (disch := omega) only [fu_ne]; exact hb_2.2.2.2.2.2.2.2.2.2.2.2.2.2.2.2.2.2.2.2.2.2.2.2.2.2.2.2.2.2.2.1), (by simp (disch := omega) only [fu_ne]; exact hb_2.2.2.2.2.2.2.2.2.2.2.2.2.2.2.2.2.2.2.2.2.2.2.2.2.2.2.2.2.2.2.2.1), (by simp (disch := omega) only [fu_ne]; exact hb_2.2.2.2.2.2.2.2.2.2.2.2.2.2.2.2.2.2.2.2.2.2.2.2.2.2.2.2.2.2.2.2.2.1), (by simp (disch := omega) only [fu_ne]; exact hb_2.2.2.2.2.2.2.2.2.2.2.2.2.2.2.2.2.2.2.2.2.2.2.2.2.2.2.2.2.2.2.2.2.2.1), (by simp (disch := omega) only [fu_ne]; exact hb_2.2.2.2.2.2.2.2.2.2.2.2.2.2.2.2.2.2.2.2.2.2.2.2.2.2.2.2.2.2.2.2.2.2.2.1), (by simp (disch := omega) only [fu_ne]; exact hb_2.2.2.2.2.2.2.2.2.2.2.2.2.2.2.2.2.2.2.2.2.2.2.2.2.2.2.2.2.2.2.2.2.2.2.2.1), (by simp (disch := omega) only [fu_ne]; exact hb_2.2.2.2.2.2.2.2.2.2.2.2.2.2.2.2.2.2.2.2.2.2.2.2.2.2.2.2.2.2.2.2.2.2.2.2.2), (by simp (disch := omega) only [fu_ne]; exact hb_3.1), (by simp (disch := omega) only [fu_ne]; exact hb_3.2.1), (by simp (disch := omega) only [fu_ne]; exact hb_3.2.2.1), (by simp (disch := omega) only [fu_ne]; exact hb_3.2.2.2.1), (by simp (disch := omega) only [fu_ne]; exact hb_3.2.2.2.2.1), (by simp (disch := omega) only [fu_ne]; exact hb_3.2.2.2.2.2.1), (by simp (disch := omega) only [fu_ne]; exact hb_3.2.2.2.2.2.2.1), (by simp (disch := omega) only [fu_ne]; exact hb_3.2.2.2.2.2.2.2.1), (by simp (disch := omega) only [fu_ne]; exact hb_3.2.2.2.2.2.2.2.2.1), (by simp (disch := omega) only [fu_ne]; exact hb_3.2.2.2.2.2.2.2.2.2.1), (by simp (disch := omega) only [fu_ne]; exact hb_3.2.2.2.2.2.2.2.2.2.2.1), (by simp (disch := omega) only [fu_ne]; exact hb_3.2.2.2.2.2.2.2.2.2.2.2.1), (by simp (disch := omega) only [fu_ne]; exact hb_3.2.2.2.2.2.2.2.2.2.2.2.2.1), (by simp (disch := omega) only [fu_ne]; exact hb_3.2.2.2.2.2.2.2.2.2.2.2.2.2.1), (by simp (disch := omega) only [fu_ne]; exact hb_3.2.2.2.2.2.2.2.2.2.2.2.2.2.2.1), (by simp (disch := omega) only [fu_ne]; exact hb_3.2.2.2.2.2.2.2.2.2.2.2.2.2.2.2.1), (by simp (disch := omega) only [fu_ne]; exact hb_3.2.2.2.2.2.2.2.2.2.2.2.2.2.2.2.2.1), (by simp (disch := omega) only [fu_ne]; exact hb_3.2.2.2.2.2.2.2.2.2.2.2.2.2.2.2.2.2.1), (by simp (disch := omega) only [fu_ne]; exact hb_3.2.2.2.2.2.2.2.2.2.2.2.2.2.2.2.2.2.2.1), (by simp (disch := omega) only [fu_ne]; exact hb_3.2.2.2.2.2.2.2.2.2.2.2.2.2.2.2.2.2.2.2.1), (by simp (disch := omega) only [fu_ne]; exact hb_3.2.2.2.2.2.2.2.2.2.2.2.2.2.2.2.2.2.2.2.2.1), (by simp (disch := omega) only [fu_ne]; exact hb_3.2.2.2.2.2.2.2.2.2.2.2.2.2.2.2.2.2.2.2.2.2.1), (by simp (disch := omega) only [fu_ne]; exact hb_3.2.2.2.2.2.2.2.2.2.2.2.2.2.2.2.2.2.2.2.2.2.2.1), (by simp (disch := omega) only [fu_ne]; exact hb_3.2.2.2.2.2.2.2.2.2.2.2.2.2.2.2.2.2.2.2.2.2.2.2.1), (by simp (disch := omega) only [fu_ne]; exact hb_3.2.2.2.2.2.2.2.2.2.2.2.2.2.2.2.2.2.2.2.2.2.2.2.2.1), (by simp (disch := omega) only [fu_ne]; exact hb_3.2.2.2.2.2.2.2.2.2.2.2.2.2.2.2.2.2.2.2.2.2.2.2.2.2.1), (by simp (disch := omega) only [fu_ne]; exact hb_3.2.2.2.2.2.2.2.2.2.2.2.2.2.2.2.2.2.2.2.2.2.2.2.2.2.2.1), (by simp (disch := omega) only [fu_ne]; exact hb_3.2.2.2.2.2.2.2.2.2.2.2.2.2.2.2.2.2.2.2.2.2.2.2.2.2.2.2.1), (by simp (disch := omega) only [fu_ne]; exact hb_3.2.2.2.2.2.2.2.2.2.2.2.2.2.2.2.2.2.2.2.2.2.2.2.2.2.2.2.2.1), (by simp (disch := omega) only [fu_ne]; exact hb_3.2.2.2.2.2.2.2.2.2.2.2.2.2.2.2.2.2.2.2.2.2.2.2.2.2.2.2.2.2.1), (by simp (disch := omega) only [fu_ne]; exact hb_3.2.2.2.2.2.2.2.2.2.2.2.2.2.2.2.2.2.2.2.2.2.2.2.2.2.2.2.2.2.2.1), (by simp (disch := omega) only [fu_ne]; exact hb_3.2.2.2.2.2.2.2.2.2.2.2.2.2.2.2.2.2.2.2.2.2.2.2.2.2.2.2.2.2.2.2.1), (by simp (disch := omega) only [fu_ne]; exact hb_3.2.2.2.2.2.2.2.2.2.2.2.2.2.2.2.2.2.2.2.2.2.2.2.2.2.2.2.2.2.2.2.2.1), (by simp (disch := omega) only [fu_ne]; exact hb_3.2.2.2.2.2.2.2.2.2.2.2.2.2.2.2.2.2.2.2.2.2.2.2.2.2.2.2.2.2.2.2.2.2.1), (by simp (disch := omega) only [fu_ne]; exact hb_3.2.2.2.2.2.2.2.2.2.2.2.2.2.2.2.2.2.2.2.2.2.2.2.2.2.2.2.2.2.2.2.2.2.2.1), (by simp (disch := omega) only [fu_ne]; exact hb_3.2.2.2.2.2.2.2.2.2.2.2.2.2.2.2.2.2.2.2.2.2.2.2.2.2.2.2.2.2.2.2.2.2.2.2.1), (by simp (disch := omega) only [fu_ne]; exact hb_3.2.2.2.2.2.2.2.2.2.2.2.2.2.2.2.2.2.2.2.2.2.2.2.2.2.2.2.2.2.2.2.2.2.2.2.2), (by simp (disch := omega) only [fu_ne]; exact hb_4.1), (by simp (disch := omega) only [fu_ne]; exact hb_4.2.1), (by simp (disch := omega) only [fu_ne]; exact hb_4.2.2.1), (by simp (disch := omega) only [fu_ne]; exact hb_4.2.2.2.1), (by simp (disch := omega) only [fu_ne]; exact hb_4.2.2.2.2.1), (by simp (disch := omega) only [fu_ne]; exact hb_4.2.2.2.2.2.1), (by simp (disch := omega) only [fu_ne]; exact hb_4.2.2.2.2.2.2.1), (by simp (disch := omega) only [fu_ne]; exact hb_4.2.2.2.2.2.2.2.1), (by simp (disch := omega) only [fu_ne]; exact hb_4.2.2.2.2.2.2.2.2.1), (by simp (disch := omega) only [fu_ne]; exact hb_4.2.2.2.2.2.2.2.2.2.1), (by simp (disch := omega) only [fu_ne]; exact hb_4.2.2.2.2.2.2.2.2.2.2.1), (by simp (disch := omega) only [fu_ne]; exact hb_4.2.2.2.2.2.2.2.2.2.2.2.1), (by simp (disch := omega) only [fu_ne]; exact hb_4.2.2.2.2.2.2.2.2.2.2.2.2.1), (by simp (disch := omega) only [fu_ne]; exact hb_4.2.2.2.2.2.2.2.2.2.2.2.2.2.1), (by simp (disch := omega) only [fu_ne]; exact hb_4.2.2.2.2.2.2.2.2.2.2.2.2.2.2.1), (by simp (disch := omega) only [fu_ne]; exact hb_4.2.2.2.2.2.2.2.2.2.2.2.2.2.2.2.1), (by simp (disch := omega) only [fu_ne]; exact hb_4.2.2.2.2.2.2.2.2.2.2.2.2.2.2.2.2.1), (by simp (disch := omega) only [fu_ne]; exact hb_4.2.2.2.2.2.2.2.2.2.2.2.2.2.2.2.2.2.1), (by simp (disch := omega) only [fu_ne]; exact hb_4.2.2.2.2.2.2.2.2.2.2.2.2.2.2.2.2.2.2.1), (by simp (disch := omega) only [fu_ne]; exact hb_4.2.2.2.2.2.2.2.2.2.2.2.2.2.2.2.2.2.2.2.1), (by simp (disch := omega) only [fu_ne]; exact hb_4.2.2.2.2.2.2.2.2.2.2.2.2.2.2.2.2.2.2.2.2.1), (by simp (disch := omega) only [fu_ne]; exact hb_4.2.2.2.2.2.2.2.2.2.2.2.2.2.2.2.2.2.2.2.2.2.1), (by simp (disch := omega) only [fu_ne]; exact hb_4.2.2.2.2.2.2.2.2.2.2.2.2.2.2.2.2.2.2.2.2.2.2.1), (by simp (disch := omega) only [fu_ne]; exact hb_4.2.2.2.2.2.2.2.2.2.2.2.2.2.2.2.2.2.2.2.2.2.2.2.1), (by simp (disch := omega) only [fu_ne]; exact hb_4.2.2.2.2.2.2.2.2.2.2.2.2.2.2.2.2.2.2.2.2.2.2.2.2.1), (by simp (disch := omega) only [fu_ne]; exact hb_4.2.2.2.2.2.2.2.2.2.2.2.2.2.2.2.2.2.2.2.2.2.2.2.2.2.1), (by simp (disch := omega) only [fu_ne]; exact hb_4.2.2.2.2.2.2.2.2.2.2.2.2.2.2.2.2.2.2.2.2.2.2.2.2.2.2.1), (by simp (disch := omega) only [fu_ne]; exact hb_4.2.2.2.2.2.2.2.2.2.2.2.2.2.2.2.2.2.2.2.2.2.2.2.2.2.2.2.1), (by simp (disch := omega) only [fu_ne]; exact hb_4.2.2.2.2.2.2.2.2.2.2.2.2.2.2.2.2.2.2.2.2.2.2.2.2.2.2.2.2.1), (by simp (disch := omega) only [fu_ne]; exact hb_4.2.2.2.2.2.2.2.2.2.2.2.2.2.2.2.2.2.2.2.2.2.2.2.2.2.2.2.2.2.1), (by simp (disch := omega) only [fu_ne]; exact hb_4.2.2.2.2.2.2.2.2.2.2.2.2.2.2.2.2.2.2.2.2.2.2.2.2.2.2.2.2.2.2.1), (by simp (disch := omega) only [fu_ne]; exact hb_4.2.2.2.2.2.2.2.2.2.2.2.2.2.2.2.2.2.2.2.2.2.2.2.2.2.2.2.2.2.2.2.1), (by simp (disch := omega) only [fu_ne]; exact hb_4.2.2.2.2.2.2.2.2.2.2.2.2.2.2.2.2.2.2.2.2.2.2.2.2.2.2.2.2.2.2.2.2.1), (by simp (disch := omega) only [fu_ne]; exact hb_4.2.2.2.2.2.2.2.2.2.2.2.2.2.2.2.2.2.2.2.2.2.2.2.2.2.2.2.2.2.2.2.2.2.1), (by simp (disch := omega) only [fu_ne]; exact hb_4.2.2.2.2.2.2.2.2.2.2.2.2.2.2.2.2.2.2.2.2.2.2.2.2.2.2.2.2.2.2.2.2.2.2.1), (by simp (disch := omega) only [fu_ne]; exact hb_4.2.2.2.2.2.2.2.2.2.2.2.2.2.2.2.2.2.2.2.2.2.2.2.2.2.2.2.2.2.2.2.2.2.2.2.1), (by simp (disch := omega) only [fu_ne]; exact hb_4.2.2.2.2.2.2.2.2.2.2.2.2.2.2.2.2.2.2.2.2.2.2.2.2.2.2.2.2.2.2.2.2.2.2.2.2), (by simp (disch := omega) only [fu_ne]; exact hb_5.1), (by simp (disch := omega) only [fu_ne]; exact hb_5.2.1), (by simp (disch := omega) only [fu_ne]; exact hb_5.2.2.1), (by simp (disch := omega) only [fu_ne]; exact hb_5.2.2.2.1), (by simp (disch := omega) only [fu_ne]; exact hb_5.2.2.2.2.1), (by simp (disch := omega) only [fu_ne]; exact hb_5.2.2.2.2.2.1), (by simp (disch := omega) only [fu_ne]; exact hb_5.2.2.2.2.2.2.1), (by simp (disch := omega) only [fu_ne]; exact hb_5.2.2.2.2.2.2.2), (by simp (disch := omega) only [fu_ne]; exact hb_6.1), (by simp (disch := omega) only [fu_ne]; exact hb_6.2.1), (by simp (disch := omega) only [fu_ne]; exact hb_6.2.2), (by simp (disch := omega) only [fu_at, fu_ne, fm_at, fm_row, fm_ne, h0, ca_6])⟩, fun q hq => by simp (disch := omega) only [fu_ne, fm_ne, hf_6, hf_5, hf_4, hf_3, hf_2, hf_1]⟩
/-- what TowFieldModel() leaves -/
def B_X12 (f : Nat → AE) : Prop := f 135 = .inr (.inr (11, [.ref 136, .ref 137, .ref 138, .int 0, .ref 139, .ref 140, .int 0, .int 0, .int 0, .int 0, .int 0, .ref 141, .int 0, .int 0, .int 0, .int 0, .int 0, .ref 142, .int 0, .ref 143, .ref 144, .ref 145, .ref 146, .ref 147])) ∧ f 136 = .inl (970, upd (upd (upd (upd (upd (upd (upd (upd (upd (upd (upd (upd (upd (upd (fun _ => 0) (2) 15) (26) 4) (28) 10) (29) 2) (10) 1) (11) 2) (12) 4) (13) 8) (14) 16) (15) 32) (16) 0) (17) 1) (18) 2) (19) 3) ∧ f 137 = .inl (970, fun _ => 0) ∧ f 138 = .inl (970, fun _ => 0) ∧ f 139 = .inl (7, fun _ => 0) ∧ f 140 = .inl (100, fun _ => 0) ∧ f 141 = .inr (.inl (2, 4, va_up (va_up (va_up (va_up (fun _ => none) 0 (some (100100 + 5))) 1 (some (100100 + 6))) 2 (some (100100 + 7))) 3 (some (100100 + 8)))) ∧ f 142 = .inl (200, fun _ => 0) ∧ f 143 = .inl (200, fun _ => 0) ∧ f 144 = .inl (4, fun _ => 0) ∧ f 145 = .inl (4, fun _ => 0) ∧ f 146 = .inl (96, fun _ => 0) ∧ f 147 = .inl (24, fun _ => 0)
set_option maxHeartbeats 4000000 in
theorem K_X12 {d : Nat} (hd : 2 ≤ d) {f : Nat → AE} (h0 : f 135 = .inr (.inr (11, [.null, .null, .null, .int 0, .null, .null, .int 0, .int 0, .int 0, .int 0, .int 0, .null, .int 0, .int 0, .int 0, .int 0, .int 0, .null, .int 0, .null, .null, .null, .null, .null]))) : KCon d 12 3549 mX12_init [.ref 135] (hp (136) f) (fun h => ∃ g, h = hp (148) g ∧ B_X12 g ∧ ∀ k, k < 135 → g k = f k) := by
  refine kcon_of (by decide) (catL rfl) (Nat.le_of_ble_eq_true rfl) ?_
  intro μ ω C hr hin hz hc hk
  have C : Cx μ ω "TowFieldModel" cX12_init 2 d := C
  have hr : (mH μ).sig.returnType = none := hr
  have hin : (mH μ).name = "<init>" := hin
  rw [hp_len] at hz
  show G μ ω (RK μ ω 12 3549 _) 0 [some (.ref 135), none] [] (hp (136) f) 0 0
  refine g_al0n (pc := 0) C dX12_init_0 ?_
  refine k_obj (pc := 1) (st := []) C obX12_3 (by omega) rfl (Nat.le_of_ble_eq_true rfl) dX12_init_1 ?_
  refine g_al0n (pc := 4) C dX12_init_4 ?_
  refine g_sipush (pc := 5) (v := 970) C dX12_init_5 (by decide) ?_
  refine k_newa (pc := 8) (N := 136) (m := 970) C hz (by omega) (by omega) rfl (by decide) (by omega) (by omega) dX12_init_8 ?_
  refine k_putF (pc := 10) (a := 135) (fs := [.null, .null, .null, .int 0, .null, .null, .int 0, .int 0, .int 0, .int 0, .int 0, .null, .int 0, .int 0, .int 0, .int 0, .int 0, .null, .int 0, .null, .null, .null, .null, .null]) (fs' := [.ref 136, .null, .null, .int 0, .null, .null, .int 0, .int 0, .int 0, .int 0, .int 0, .null, .int 0, .int 0, .int 0, .int 0, .int 0, .null, .int 0, .null, .null, .null, .null, .null]) C hin uX12_9 (by omega) (by simp (disch := omega) only [fu_at, fu_ne, fm_at, fm_ne, h0]) (Nat.le_of_ble_eq_true rfl) rfl rfl rfl dX12_init_10 ?_
  refine g_al0n (pc := 13) C dX12_init_13 ?_
  refine g_sipush (pc := 14) (v := 970) C dX12_init_14 (by decide) ?_
  refine k_newa (pc := 17) (N := 137) (m := 970) C hz (by omega) (by omega) rfl (by decide) (by omega) (by omega) dX12_init_17 ?_
  refine k_putF (pc := 19) (a := 135) (fs := [.ref 136, .null, .null, .int 0, .null, .null, .int 0, .int 0, .int 0, .int 0, .int 0, .null, .int 0, .int 0, .int 0, .int 0, .int 0, .null, .int 0, .null, .null, .null, .null, .null]) (fs' := [.ref 136, .ref 137, .null, .int 0, .null, .null, .int 0, .int 0, .int 0, .int 0, .int 0, .null, .int 0, .int 0, .int 0, .int 0, .int 0, .null, .int 0, .null, .null, .null, .null, .null]) C hin uX12_13 (by omega) (by simp (disch := omega) only [fu_at, fu_ne, fm_at, fm_ne, h0]) (Nat.le_of_ble_eq_true rfl) rfl rfl rfl dX12_init_19 ?_
  refine g_al0n (pc := 22) C dX12_init_22 ?_
  refine g_sipush (pc := 23) (v := 970) C dX12_init_23 (by decide) ?_
  refine k_newa (pc := 26) (N := 138) (m := 970) C hz (by omega) (by omega) rfl (by decide) (by omega) (by omega) dX12_init_26 ?_
  refine k_putF (pc := 28) (a := 135) (fs := [.ref 136, .ref 137, .null, .int 0, .null, .null, .int 0, .int 0, .int 0, .int 0, .int 0, .null, .int 0, .int 0, .int 0, .int 0, .int 0, .null, .int 0, .null, .null, .null, .null, .null]) (fs' := [.ref 136, .ref 137, .ref 138, .int 0, .null, .null, .int 0, .int 0, .int 0, .int 0, .int 0, .null, .int 0, .int 0, .int 0, .int 0, .int 0, .null, .int 0, .null, .null, .null, .null, .null]) C hin uX12_16 (by omega) (by simp (disch := omega) only [fu_at, fu_ne, fm_at, fm_ne, h0]) (Nat.le_of_ble_eq_true rfl) rfl rfl rfl dX12_init_28 ?_
  refine g_al0n (pc := 31) C dX12_init_31 ?_
  refine g_bipush (pc := 32) (v := 7) C dX12_init_32 (by decide) ?_
  refine k_newa (pc := 34) (N := 139) (m := 7) C hz (by omega) (by omega) rfl (by decide) (by omega) (by omega) dX12_init_34 ?_
  refine k_putF (pc := 36) (a := 135) (fs := [.ref 136, .ref 137, .ref 138, .int 0, .null, .null, .int 0, .int 0, .int 0, .int 0, .int 0, .null, .int 0, .int 0, .int 0, .int 0, .int 0, .null, .int 0, .null, .null, .null, .null, .null]) (fs' := [.ref 136, .ref 137, .ref 138, .int 0, .ref 139, .null, .int 0, .int 0, .int 0, .int 0, .int 0, .null, .int 0, .int 0, .int 0, .int 0, .int 0, .null, .int 0, .null, .null, .null, .null, .null]) C hin uX12_19 (by omega) (by simp (disch := omega) only [fu_at, fu_ne, fm_at, fm_ne, h0]) (Nat.le_of_ble_eq_true rfl) rfl rfl rfl dX12_init_36 ?_
  refine g_al0n (pc := 39) C dX12_init_39 ?_
  refine g_bipush (pc := 40) (v := 100) C dX12_init_40 (by decide) ?_
  refine k_newa (pc := 42) (N := 140) (m := 100) C hz (by omega) (by omega) rfl (by decide) (by omega) (by omega) dX12_init_42 ?_
  refine k_putF (pc := 44) (a := 135) (fs := [.ref 136, .ref 137, .ref 138, .int 0, .ref 139, .null, .int 0, .int 0, .int 0, .int 0, .int 0, .null, .int 0, .int 0, .int 0, .int 0, .int 0, .null, .int 0, .null, .null, .null, .null, .null]) (fs' := [.ref 136, .ref 137, .ref 138, .int 0, .ref 139, .ref 140, .int 0, .int 0, .int 0, .int 0, .int 0, .null, .int 0, .int 0, .int 0, .int 0, .int 0, .null, .int 0, .null, .null, .null, .null, .null]) C hin uX12_22 (by omega) (by simp (disch := omega) only [fu_at, fu_ne, fm_at, fm_ne, h0]) (Nat.le_of_ble_eq_true rfl) rfl rfl rfl dX12_init_44 ?_
  refine g_al0n (pc := 47) C dX12_init_47 ?_
  refine g_iconst (pc := 48) (v := 4) C dX12_init_48 (by decide) ?_
  refine k_anew (pc := 49) (N := 141) (m := 4) C hz (by omega) (by omega) rfl (by decide) clX12_25 (by omega) (by omega) dX12_init_49 ?_
  refine g_dup (pc := 52) C dX12_init_52 rfl ?_
  refine g_iconst (pc := 53) (v := 0) C dX12_init_53 (by decide) ?_
  refine g_ldcS (pc := 54) (j := 5) C dX12_init_54 rfl rfl rfl ?_
  refine k_aast (pc := 56) (a := 141) (m := 4) (q := 0) (j := 5) (g := (fun _ => none)) C (by omega) (by simp (disch := omega) only [fu_at, fu_ne, fm_at, fm_ne, h0]) rfl rfl (by decide) (by decide) dX12_init_56 ?_
  refine g_dup (pc := 57) C dX12_init_57 rfl ?_
  refine g_iconst (pc := 58) (v := 1) C dX12_init_58 (by decide) ?_
  refine g_ldcS (pc := 59) (j := 6) C dX12_init_59 rfl rfl rfl ?_
  refine k_aast (pc := 61) (a := 141) (m := 4) (q := 1) (j := 6) (g := (va_up (fun _ => none) 0 (some (100100 + 5)))) C (by omega) (by simp (disch := omega) only [fu_at, fu_ne, fm_at, fm_ne, h0]) rfl rfl (by decide) (by decide) dX12_init_61 ?_
  refine g_dup (pc := 62) C dX12_init_62 rfl ?_
  refine g_iconst (pc := 63) (v := 2) C dX12_init_63 (by decide) ?_
  refine g_ldcS (pc := 64) (j := 7) C dX12_init_64 rfl rfl rfl ?_
  refine k_aast (pc := 66) (a := 141) (m := 4) (q := 2) (j := 7) (g := (va_up (va_up (fun _ => none) 0 (some (100100 + 5))) 1 (some (100100 + 6)))) C (by omega) (by simp (disch := omega) only [fu_at, fu_ne, fm_at, fm_ne, h0]) rfl rfl (by decide) (by decide) dX12_init_66 ?_
  refine g_dup (pc := 67) C dX12_init_67 rfl ?_
  refine g_iconst (pc := 68) (v := 3) C dX12_init_68 (by decide) ?_
  refine g_ldcS (pc := 69) (j := 8) C dX12_init_69 rfl rfl rfl ?_
  refine k_aast (pc := 71) (a := 141) (m := 4) (q := 3) (j := 8) (g := (va_up (va_up (va_up (fun _ => none) 0 (some (100100 + 5))) 1 (some (100100 + 6))) 2 (some (100100 + 7)))) C (by omega) (by simp (disch := omega) only [fu_at, fu_ne, fm_at, fm_ne, h0]) rfl rfl (by decide) (by decide) dX12_init_71 ?_
  refine k_putF (pc := 72) (a := 135) (fs := [.ref 136, .ref 137, .ref 138, .int 0, .ref 139, .ref 140, .int 0, .int 0, .int 0, .int 0, .int 0, .null, .int 0, .int 0, .int 0, .int 0, .int 0, .null, .int 0, .null, .null, .null, .null, .null]) (fs' := [.ref 136, .ref 137, .ref 138, .int 0, .ref 139, .ref 140, .int 0, .int 0, .int 0, .int 0, .int 0, .ref 141, .int 0, .int 0, .int 0, .int 0, .int 0, .null, .int 0, .null, .null, .null, .null, .null]) C hin uX12_35 (by omega) (by simp (disch := omega) only [fu_at, fu_ne, fm_at, fm_ne, h0]) (Nat.le_of_ble_eq_true rfl) rfl rfl rfl dX12_init_72 ?_
  refine g_al0n (pc := 75) C dX12_init_75 ?_
  refine g_sipush (pc := 76) (v := 200) C dX12_init_76 (by decide) ?_
  refine k_newa (pc := 79) (N := 142) (m := 200) C hz (by omega) (by omega) rfl (by decide) (by omega) (by omega) dX12_init_79 ?_
  refine k_putF (pc := 81) (a := 135) (fs := [.ref 136, .ref 137, .ref 138, .int 0, .ref 139, .ref 140, .int 0, .int 0, .int 0, .int 0, .int 0, .ref 141, .int 0, .int 0, .int 0, .int 0, .int 0, .null, .int 0, .null, .null, .null, .null, .null]) (fs' := [.ref 136, .ref 137, .ref 138, .int 0, .ref 139, .ref 140, .int 0, .int 0, .int 0, .int 0, .int 0, .ref 141, .int 0, .int 0, .int 0, .int 0, .int 0, .ref 142, .int 0, .null, .null, .null, .null, .null]) C hin uX12_39 (by omega) (by simp (disch := omega) only [fu_at, fu_ne, fm_at, fm_ne, h0]) (Nat.le_of_ble_eq_true rfl) rfl rfl rfl dX12_init_81 ?_
  refine g_al0n (pc := 84) C dX12_init_84 ?_
  refine g_sipush (pc := 85) (v := 200) C dX12_init_85 (by decide) ?_
  refine k_newa (pc := 88) (N := 143) (m := 200) C hz (by omega) (by omega) rfl (by decide) (by omega) (by omega) dX12_init_88 ?_
  refine k_putF (pc := 90) (a := 135) (fs := [.ref 136, .ref 137, .ref 138, .int 0, .ref 139, .ref 140, .int 0, .int 0, .int 0, .int 0, .int 0, .ref 141, .int 0, .int 0, .int 0, .int 0, .int 0, .ref 142, .int 0, .null, .null, .null, .null, .null]) (fs' := [.ref 136, .ref 137, .ref 138, .int 0, .ref 139, .ref 140, .int 0, .int 0, .int 0, .int 0, .int 0, .ref 141, .int 0, .int 0, .int 0, .int 0, .int 0, .ref 142, .int 0, .ref 143, .null, .null, .null, .null]) C hin uX12_42 (by omega) (by simp (disch := omega) only [fu_at, fu_ne, fm_at, fm_ne, h0]) (Nat.le_of_ble_eq_true rfl) rfl rfl rfl dX12_init_90 ?_
  refine g_al0n (pc := 93) C dX12_init_93 ?_
  refine g_iconst (pc := 94) (v := 4) C dX12_init_94 (by decide) ?_
  refine k_newa (pc := 95) (N := 144) (m := 4) C hz (by omega) (by omega) rfl (by decide) (by omega) (by omega) dX12_init_95 ?_
  refine k_putF (pc := 97) (a := 135) (fs := [.ref 136, .ref 137, .ref 138, .int 0, .ref 139, .ref 140, .int 0, .int 0, .int 0, .int 0, .int 0, .ref 141, .int 0, .int 0, .int 0, .int 0, .int 0, .ref 142, .int 0, .ref 143, .null, .null, .null, .null]) (fs' := [.ref 136, .ref 137, .ref 138, .int 0, .ref 139, .ref 140, .int 0, .int 0, .int 0, .int 0, .int 0, .ref 141, .int 0, .int 0, .int 0, .int 0, .int 0, .ref 142, .int 0, .ref 143, .ref 144, .null, .null, .null]) C hin uX12_45 (by omega) (by simp (disch := omega) only [fu_at, fu_ne, fm_at, fm_ne, h0]) (Nat.le_of_ble_eq_true rfl) rfl rfl rfl dX12_init_97 ?_
  refine g_al0n (pc := 100) C dX12_init_100 ?_
  refine g_iconst (pc := 101) (v := 4) C dX12_init_101 (by decide) ?_
  refine k_newa (pc := 102) (N := 145) (m := 4) C hz (by omega) (by omega) rfl (by decide) (by omega) (by omega) dX12_init_102 ?_
  refine k_putF (pc := 104) (a := 135) (fs := [.ref 136, .ref 137, .ref 138, .int 0, .ref 139, .ref 140, .int 0, .int 0, .int 0, .int 0, .int 0, .ref 141, .int 0, .int 0, .int 0, .int 0, .int 0, .ref 142, .int 0, .ref 143, .ref 144, .null, .null, .null]) (fs' := [.ref 136, .ref 137, .ref 138, .int 0, .ref 139, .ref 140, .int 0, .int 0, .int 0, .int 0, .int 0, .ref 141, .int 0, .int 0, .int 0, .int 0, .int 0, .ref 142, .int 0, .ref 143, .ref 144, .ref 145, .null, .null]) C hin uX12_48 (by omega) (by simp (disch := omega) only [fu_at, fu_ne, fm_at, fm_ne, h0]) (Nat.le_of_ble_eq_true rfl) rfl rfl rfl dX12_init_104 ?_
  refine g_al0n (pc := 107) C dX12_init_107 ?_
  refine g_bipush (pc := 108) (v := 96) C dX12_init_108 (by decide) ?_
  refine k_newa (pc := 110) (N := 146) (m := 96) C hz (by omega) (by omega) rfl (by decide) (by omega) (by omega) dX12_init_110 ?_
  refine k_putF (pc := 112) (a := 135) (fs := [.ref 136, .ref 137, .ref 138, .int 0, .ref 139, .ref 140, .int 0, .int 0, .int 0, .int 0, .int 0, .ref 141, .int 0, .int 0, .int 0, .int 0, .int 0, .ref 142, .int 0, .ref 143, .ref 144, .ref 145, .null, .null]) (fs' := [.ref 136, .ref 137, .ref 138, .int 0, .ref 139, .ref 140, .int 0, .int 0, .int 0, .int 0, .int 0, .ref 141, .int 0, .int 0, .int 0, .int 0, .int 0, .ref 142, .int 0, .ref 143, .ref 144, .ref 145, .ref 146, .null]) C hin uX12_51 (by omega) (by simp (disch := omega) only [fu_at, fu_ne, fm_at, fm_ne, h0]) (Nat.le_of_ble_eq_true rfl) rfl rfl rfl dX12_init_112 ?_
  refine g_al0n (pc := 115) C dX12_init_115 ?_
  refine g_bipush (pc := 116) (v := 24) C dX12_init_116 (by decide) ?_
  refine k_newa (pc := 118) (N := 147) (m := 24) C hz (by omega) (by omega) rfl (by decide) (by omega) (by omega) dX12_init_118 ?_
  refine k_putF (pc := 120) (a := 135) (fs := [.ref 136, .ref 137, .ref 138, .int 0, .ref 139, .ref 140, .int 0, .int 0, .int 0, .int 0, .int 0, .ref 141, .int 0, .int 0, .int 0, .int 0, .int 0, .ref 142, .int 0, .ref 143, .ref 144, .ref 145, .ref 146, .null]) (fs' := [.ref 136, .ref 137, .ref 138, .int 0, .ref 139, .ref 140, .int 0, .int 0, .int 0, .int 0, .int 0, .ref 141, .int 0, .int 0, .int 0, .int 0, .int 0, .ref 142, .int 0, .ref 143, .ref 144, .ref 145, .ref 146, .ref 147]) C hin uX12_54 (by omega) (by simp (disch := omega) only [fu_at, fu_ne, fm_at, fm_ne, h0]) (Nat.le_of_ble_eq_true rfl) rfl rfl rfl dX12_init_120 ?_
  refine g_al0n (pc := 123) C dX12_init_123 ?_
  refine k_get (pc := 124) (a := 135) (fs := [.ref 136, .ref 137, .ref 138, .int 0, .ref 139, .ref 140, .int 0, .int 0, .int 0, .int 0, .int 0, .ref 141, .int 0, .int 0, .int 0, .int 0, .int 0, .ref 142, .int 0, .ref 143, .ref 144, .ref 145, .ref 146, .ref 147]) (v := .ref 136) C fX12_9 (by omega) (by simp (disch := omega) only [fu_at, fu_ne, fm_at, fm_ne, h0]) rfl dX12_init_124 ?_
  refine g_iconst (pc := 127) (v := 2) C dX12_init_127 (by decide) ?_
  refine g_bipush (pc := 128) (v := 15) C dX12_init_128 (by decide) ?_
  refine k_iastv (w := 15) (hx := (by first | rfl | decide)) (pc := 130) (a := 136) (m := 970) (q := 2) (g := (fun _ => 0)) C (by omega) (by simp (disch := omega) only [fu_at, fu_ne, fm_at, fm_ne, h0]) (by first | rfl | decide) (by decide) (by decide) dX12_init_130 ?_
  refine g_al0n (pc := 131) C dX12_init_131 ?_
  refine k_get (pc := 132) (a := 135) (fs := [.ref 136, .ref 137, .ref 138, .int 0, .ref 139, .ref 140, .int 0, .int 0, .int 0, .int 0, .int 0, .ref 141, .int 0, .int 0, .int 0, .int 0, .int 0, .ref 142, .int 0, .ref 143, .ref 144, .ref 145, .ref 146, .ref 147]) (v := .ref 136) C fX12_9 (by omega) (by simp (disch := omega) only [fu_at, fu_ne, fm_at, fm_ne, h0]) rfl dX12_init_132 ?_
  refine g_bipush (pc := 135) (v := 26) C dX12_init_135 (by decide) ?_
  refine g_iconst (pc := 137) (v := 4) C dX12_init_137 (by decide) ?_
  refine k_iastv (w := 4) (hx := (by first | rfl | decide)) (pc := 138) (a := 136) (m := 970) (q := 26) (g := (upd (fun _ => 0) (2) 15)) C (by omega) (by simp (disch := omega) only [fu_at, fu_ne, fm_at, fm_ne, h0]) (by first | rfl | decide) (by decide) (by decide) dX12_init_138 ?_
  refine g_al0n (pc := 139) C dX12_init_139 ?_
  refine k_get (pc := 140) (a := 135) (fs := [.ref 136, .ref 137, .ref 138, .int 0, .ref 139, .ref 140, .int 0, .int 0, .int 0, .int 0, .int 0, .ref 141, .int 0, .int 0, .int 0, .int 0, .int 0, .ref 142, .int 0, .ref 143, .ref 144, .ref 145, .ref 146, .ref 147]) (v := .ref 136) C fX12_9 (by omega) (by simp (disch := omega) only [fu_at, fu_ne, fm_at, fm_ne, h0]) rfl dX12_init_140 ?_
  refine g_bipush (pc := 143) (v := 28) C dX12_init_143 (by decide) ?_
  refine g_bipush (pc := 145) (v := 10) C dX12_init_145 (by decide) ?_
  refine k_iastv (w := 10) (hx := (by first | rfl | decide)) (pc := 147) (a := 136) (m := 970) (q := 28) (g := (upd (upd (fun _ => 0) (2) 15) (26) 4)) C (by omega) (by simp (disch := omega) only [fu_at, fu_ne, fm_at, fm_ne, h0]) (by first | rfl | decide) (by decide) (by decide) dX12_init_147 ?_
  refine g_al0n (pc := 148) C dX12_init_148 ?_
  refine k_get (pc := 149) (a := 135) (fs := [.ref 136, .ref 137, .ref 138, .int 0, .ref 139, .ref 140, .int 0, .int 0, .int 0, .int 0, .int 0, .ref 141, .int 0, .int 0, .int 0, .int 0, .int 0, .ref 142, .int 0, .ref 143, .ref 144, .ref 145, .ref 146, .ref 147]) (v := .ref 136) C fX12_9 (by omega) (by simp (disch := omega) only [fu_at, fu_ne, fm_at, fm_ne, h0]) rfl dX12_init_149 ?_
  refine g_bipush (pc := 152) (v := 29) C dX12_init_152 (by decide) ?_
  refine g_iconst (pc := 154) (v := 2) C dX12_init_154 (by decide) ?_
  refine k_iastv (w := 2) (hx := (by first | rfl | decide)) (pc := 155) (a := 136) (m := 970) (q := 29) (g := (upd (upd (upd (fun _ => 0) (2) 15) (26) 4) (28) 10)) C (by omega) (by simp (disch := omega) only [fu_at, fu_ne, fm_at, fm_ne, h0]) (by first | rfl | decide) (by decide) (by decide) dX12_init_155 ?_
  refine g_iconst (pc := 156) (v := 0) C dX12_init_156 (by decide) ?_
  refine g_is1n (pc := 157) C dX12_init_157 ?_
  refine g_il1n (pc := 158) C dX12_init_158 ?_
  refine g_bipush (pc := 159) (v := 6) C dX12_init_159 (by decide) ?_
  refine g_icmp_geL (pc := 161) (tgt := 182) C dX12_init_161 (by decide) (fun c => absurd c (by decide)) (fun _ => ?_)
  refine g_al0n (pc := 164) C dX12_init_164 ?_
  refine k_get (pc := 165) (a := 135) (fs := [.ref 136, .ref 137, .ref 138, .int 0, .ref 139, .ref 140, .int 0, .int 0, .int 0, .int 0, .int 0, .ref 141, .int 0, .int 0, .int 0, .int 0, .int 0, .ref 142, .int 0, .ref 143, .ref 144, .ref 145, .ref 146, .ref 147]) (v := .ref 136) C fX12_9 (by omega) (by simp (disch := omega) only [fu_at, fu_ne, fm_at, fm_ne, h0]) rfl dX12_init_165 ?_
  refine g_bipush (pc := 168) (v := 10) C dX12_init_168 (by decide) ?_
  refine g_il1n (pc := 170) C dX12_init_170 ?_
  refine g_iadd (pc := 171) C dX12_init_171 ?_
  refine g_iconst (pc := 172) (v := 1) C dX12_init_172 (by decide) ?_
  refine g_il1n (pc := 173) C dX12_init_173 ?_
  refine g_ishl (pc := 174) C dX12_init_174 ?_
  refine k_iastv (w := 1) (hx := (by first | rfl | decide)) (pc := 175) (a := 136) (m := 970) (q := 10) (g := (upd (upd (upd (upd (fun _ => 0) (2) 15) (26) 4) (28) 10) (29) 2)) C (by omega) (by simp (disch := omega) only [fu_at, fu_ne, fm_at, fm_ne, h0]) (by first | rfl | decide) (by decide) (by decide) dX12_init_175 ?_
  refine g_ii1 (pc := 176) (v := 1) C dX12_init_176 (by decide) ?_
  refine g_goto (pc := 179) (tgt := 158) C dX12_init_179 (by decide) ?_
  refine g_il1n (pc := 158) C dX12_init_158 ?_
  refine g_bipush (pc := 159) (v := 6) C dX12_init_159 (by decide) ?_
  refine g_icmp_geL (pc := 161) (tgt := 182) C dX12_init_161 (by decide) (fun c => absurd c (by decide)) (fun _ => ?_)
  refine g_al0n (pc := 164) C dX12_init_164 ?_
  refine k_get (pc := 165) (a := 135) (fs := [.ref 136, .ref 137, .ref 138, .int 0, .ref 139, .ref 140, .int 0, .int 0, .int 0, .int 0, .int 0, .ref 141, .int 0, .int 0, .int 0, .int 0, .int 0, .ref 142, .int 0, .ref 143, .ref 144, .ref 145, .ref 146, .ref 147]) (v := .ref 136) C fX12_9 (by omega) (by simp (disch := omega) only [fu_at, fu_ne, fm_at, fm_ne, h0]) rfl dX12_init_165 ?_
  refine g_bipush (pc := 168) (v := 10) C dX12_init_168 (by decide) ?_
  refine g_il1n (pc := 170) C dX12_init_170 ?_
  refine g_iadd (pc := 171) C dX12_init_171 ?_
  refine g_iconst (pc := 172) (v := 1) C dX12_init_172 (by decide) ?_
  refine g_il1n (pc := 173) C dX12_init_173 ?_
  refine g_ishl (pc := 174) C dX12_init_174 ?_
  refine k_iastv (w := 2) (hx := (by first | rfl | decide)) (pc := 175) (a := 136) (m := 970) (q := 11) (g := (upd (upd (upd (upd (upd (fun _ => 0) (2) 15) (26) 4) (28) 10) (29) 2) (10) 1)) C (by omega) (by simp (disch := omega) only [fu_at, fu_ne, fm_at, fm_ne, h0]) (by first | rfl | decide) (by decide) (by decide) dX12_init_175 ?_
  refine g_ii1 (pc := 176) (v := 2) C dX12_init_176 (by decide) ?_
  refine g_goto (pc := 179) (tgt := 158) C dX12_init_179 (by decide) ?_
  refine g_il1n (pc := 158) C dX12_init_158 ?_
  refine g_bipush (pc := 159) (v := 6) C dX12_init_159 (by decide) ?_
  refine g_icmp_geL (pc := 161) (tgt := 182) C dX12_init_161 (by decide) (fun c => absurd c (by decide)) (fun _ => ?_)
  refine g_al0n (pc := 164) C dX12_init_164 ?_
  refine k_get (pc := 165) (a := 135) (fs := [.ref 136, .ref 137, .ref 138, .int 0, .ref 139, .ref 140, .int 0, .int 0, .int 0, .int 0, .int 0, .ref 141, .int 0, .int 0, .int 0, .int 0, .int 0, .ref 142, .int 0, .ref 143, .ref 144, .ref 145, .ref 146, .ref 147]) (v := .ref 136) C fX12_9 (by omega) (by simp (disch := omega) only [fu_at, fu_ne, fm_at, fm_ne, h0]) rfl dX12_init_165 ?_
  refine g_bipush (pc := 168) (v := 10) C dX12_init_168 (by decide) ?_
  refine g_il1n (pc := 170) C dX12_init_170 ?_
  refine g_iadd (pc := 171) C dX12_init_171 ?_
  refine g_iconst (pc := 172) (v := 1) C dX12_init_172 (by decide) ?_
  refine g_il1n (pc := 173) C dX12_init_173 ?_
  refine g_ishl (pc := 174) C dX12_init_174 ?_
  refine k_iastv (w := 4) (hx := (by first | rfl | decide)) (pc := 175) (a := 136) (m := 970) (q := 12) (g := (upd (upd (upd (upd (upd (upd (fun _ => 0) (2) 15) (26) 4) (28) 10) (29) 2) (10) 1) (11) 2)) C (by omega) (by simp (disch := omega) only [fu_at, fu_ne, fm_at, fm_ne, h0]) (by first | rfl | decide) (by decide) (by decide) dX12_init_175 ?_
  refine g_ii1 (pc := 176) (v := 3) C dX12_init_176 (by decide) ?_
  refine g_goto (pc := 179) (tgt := 158) C dX12_init_179 (by decide) ?_
  refine g_il1n (pc := 158) C dX12_init_158 ?_
  refine g_bipush (pc := 159) (v := 6) C dX12_init_159 (by decide) ?_
  refine g_icmp_geL (pc := 161) (tgt := 182) C dX12_init_161 (by decide) (fun c => absurd c (by decide)) (fun _ => ?_)
  refine g_al0n (pc := 164) C dX12_init_164 ?_
  refine k_get (pc := 165) (a := 135) (fs := [.ref 136, .ref 137, .ref 138, .int 0, .ref 139, .ref 140, .int 0, .int 0, .int 0, .int 0, .int 0, .ref 141, .int 0, .int 0, .int 0, .int 0, .int 0, .ref 142, .int 0, .ref 143, .ref 144, .ref 145, .ref 146, .ref 147]) (v := .ref 136) C fX12_9 (by omega) (by simp (disch := omega) only [fu_at, fu_ne, fm_at, fm_ne, h0]) rfl dX12_init_165 ?_
  refine g_bipush (pc := 168) (v := 10) C dX12_init_168 (by decide) ?_
  refine g_il1n (pc := 170) C dX12_init_170 ?_
  refine g_iadd (pc := 171) C dX12_init_171 ?_
  refine g_iconst (pc := 172) (v := 1) C dX12_init_172 (by decide) ?_
  refine g_il1n (pc := 173) C dX12_init_173 ?_
  refine g_ishl (pc := 174) C dX12_init_174 ?_
  refine k_iastv (w := 8) (hx := (by first | rfl | decide)) (pc := 175) (a := 136) (m := 970) (q := 13) (g := (upd (upd (upd (upd (upd (upd (upd (fun _ => 0) (2) 15) (26) 4) (28) 10) (29) 2) (10) 1) (11) 2) (12) 4)) C (by omega) (by simp (disch := omega) only [fu_at, fu_ne, fm_at, fm_ne, h0]) (by first | rfl | decide) (by decide) (by decide) dX12_init_175 ?_
  refine g_ii1 (pc := 176) (v := 4) C dX12_init_176 (by decide) ?_
  refine g_goto (pc := 179) (tgt := 158) C dX12_init_179 (by decide) ?_
  refine g_il1n (pc := 158) C dX12_init_158 ?_
  refine g_bipush (pc := 159) (v := 6) C dX12_init_159 (by decide) ?_
  refine g_icmp_geL (pc := 161) (tgt := 182) C dX12_init_161 (by decide) (fun c => absurd c (by decide)) (fun _ => ?_)
  refine g_al0n (pc := 164) C dX12_init_164 ?_
  refine k_get (pc := 165) (a := 135) (fs := [.ref 136, .ref 137, .ref 138, .int 0, .ref 139, .ref 140, .int 0, .int 0, .int 0, .int 0, .int 0, .ref 141, .int 0, .int 0, .int 0, .int 0, .int 0, .ref 142, .int 0, .ref 143, .ref 144, .ref 145, .ref 146, .ref 147]) (v := .ref 136) C fX12_9 (by omega) (by simp (disch := omega) only [fu_at, fu_ne, fm_at, fm_ne, h0]) rfl dX12_init_165 ?_
  refine g_bipush (pc := 168) (v := 10) C dX12_init_168 (by decide) ?_
  refine g_il1n (pc := 170) C dX12_init_170 ?_
  refine g_iadd (pc := 171) C dX12_init_171 ?_
  refine g_iconst (pc := 172) (v := 1) C dX12_init_172 (by decide) ?_
  refine g_il1n (pc := 173) C dX12_init_173 ?_
  refine g_ishl (pc := 174) C dX12_init_174 ?_
  refine k_iastv (w := 16) (hx := (by first | rfl | decide)) (pc := 175) (a := 136) (m := 970) (q := 14) (g := (upd (upd (upd (upd (upd (upd (upd (upd (fun _ => 0) (2) 15) (26) 4) (28) 10) (29) 2) (10) 1) (11) 2) (12) 4) (13) 8)) C (by omega) (by simp (disch := omega) only [fu_at, fu_ne, fm_at, fm_ne, h0]) (by first | rfl | decide) (by decide) (by decide) dX12_init_175 ?_
  refine g_ii1 (pc := 176) (v := 5) C dX12_init_176 (by decide) ?_
  refine g_goto (pc := 179) (tgt := 158) C dX12_init_179 (by decide) ?_
  refine g_il1n (pc := 158) C dX12_init_158 ?_
  refine g_bipush (pc := 159) (v := 6) C dX12_init_159 (by decide) ?_
  refine g_icmp_geL (pc := 161) (tgt := 182) C dX12_init_161 (by decide) (fun c => absurd c (by decide)) (fun _ => ?_)
  refine g_al0n (pc := 164) C dX12_init_164 ?_
  refine k_get (pc := 165) (a := 135) (fs := [.ref 136, .ref 137, .ref 138, .int 0, .ref 139, .ref 140, .int 0, .int 0, .int 0, .int 0, .int 0, .ref 141, .int 0, .int 0, .int 0, .int 0, .int 0, .ref 142, .int 0, .ref 143, .ref 144, .ref 145, .ref 146, .ref 147]) (v := .ref 136) C fX12_9 (by omega) (by simp (disch := omega) only [fu_at, fu_ne, fm_at, fm_ne, h0]) rfl dX12_init_165 ?_
  refine g_bipush (pc := 168) (v := 10) C dX12_init_168 (by decide) ?_
  refine g_il1n (pc := 170) C dX12_init_170 ?_
  refine g_iadd (pc := 171) C dX12_init_171 ?_
  refine g_iconst (pc := 172) (v := 1) C dX12_init_172 (by decide) ?_
  refine g_il1n (pc := 173) C dX12_init_173 ?_
  refine g_ishl (pc := 174) C dX12_init_174 ?_
  refine k_iastv (w := 32) (hx := (by first | rfl | decide)) (pc := 175) (a := 136) (m := 970) (q := 15) (g := (upd (upd (upd (upd (upd (upd (upd (upd (upd (fun _ => 0) (2) 15) (26) 4) (28) 10) (29) 2) (10) 1) (11) 2) (12) 4) (13) 8) (14) 16)) C (by omega) (by simp (disch := omega) only [fu_at, fu_ne, fm_at, fm_ne, h0]) (by first | rfl | decide) (by decide) (by decide) dX12_init_175 ?_
  refine g_ii1 (pc := 176) (v := 6) C dX12_init_176 (by decide) ?_
  refine g_goto (pc := 179) (tgt := 158) C dX12_init_179 (by decide) ?_
  refine g_il1n (pc := 158) C dX12_init_158 ?_
  refine g_bipush (pc := 159) (v := 6) C dX12_init_159 (by decide) ?_
  refine g_icmp_geL (pc := 161) (tgt := 182) C dX12_init_161 (by decide) (fun _ => ?_) (fun c => absurd c (by decide))
  refine g_iconst (pc := 182) (v := 0) C dX12_init_182 (by decide) ?_
  refine g_is1n (pc := 183) C dX12_init_183 ?_
  refine g_il1n (pc := 184) C dX12_init_184 ?_
  refine g_iconst (pc := 185) (v := 4) C dX12_init_185 (by decide) ?_
  refine g_icmp_geL (pc := 186) (tgt := 205) C dX12_init_186 (by decide) (fun c => absurd c (by decide)) (fun _ => ?_)
  refine g_al0n (pc := 189) C dX12_init_189 ?_
  refine k_get (pc := 190) (a := 135) (fs := [.ref 136, .ref 137, .ref 138, .int 0, .ref 139, .ref 140, .int 0, .int 0, .int 0, .int 0, .int 0, .ref 141, .int 0, .int 0, .int 0, .int 0, .int 0, .ref 142, .int 0, .ref 143, .ref 144, .ref 145, .ref 146, .ref 147]) (v := .ref 136) C fX12_9 (by omega) (by simp (disch := omega) only [fu_at, fu_ne, fm_at, fm_ne, h0]) rfl dX12_init_190 ?_
  refine g_bipush (pc := 193) (v := 16) C dX12_init_193 (by decide) ?_
  refine g_il1n (pc := 195) C dX12_init_195 ?_
  refine g_iadd (pc := 196) C dX12_init_196 ?_
  refine g_il1n (pc := 197) C dX12_init_197 ?_
  refine k_iastv (w := 0) (hx := (by first | rfl | decide)) (pc := 198) (a := 136) (m := 970) (q := 16) (g := (upd (upd (upd (upd (upd (upd (upd (upd (upd (upd (fun _ => 0) (2) 15) (26) 4) (28) 10) (29) 2) (10) 1) (11) 2) (12) 4) (13) 8) (14) 16) (15) 32)) C (by omega) (by simp (disch := omega) only [fu_at, fu_ne, fm_at, fm_ne, h0]) (by first | rfl | decide) (by decide) (by decide) dX12_init_198 ?_
  refine g_ii1 (pc := 199) (v := 1) C dX12_init_199 (by decide) ?_
  refine g_goto (pc := 202) (tgt := 184) C dX12_init_202 (by decide) ?_
  refine g_il1n (pc := 184) C dX12_init_184 ?_
  refine g_iconst (pc := 185) (v := 4) C dX12_init_185 (by decide) ?_
  refine g_icmp_geL (pc := 186) (tgt := 205) C dX12_init_186 (by decide) (fun c => absurd c (by decide)) (fun _ => ?_)
  refine g_al0n (pc := 189) C dX12_init_189 ?_
  refine k_get (pc := 190) (a := 135) (fs := [.ref 136, .ref 137, .ref 138, .int 0, .ref 139, .ref 140, .int 0, .int 0, .int 0, .int 0, .int 0, .ref 141, .int 0, .int 0, .int 0, .int 0, .int 0, .ref 142, .int 0, .ref 143, .ref 144, .ref 145, .ref 146, .ref 147]) (v := .ref 136) C fX12_9 (by omega) (by simp (disch := omega) only [fu_at, fu_ne, fm_at, fm_ne, h0]) rfl dX12_init_190 ?_
  refine g_bipush (pc := 193) (v := 16) C dX12_init_193 (by decide) ?_
  refine g_il1n (pc := 195) C dX12_init_195 ?_
  refine g_iadd (pc := 196) C dX12_init_196 ?_
  refine g_il1n (pc := 197) C dX12_init_197 ?_
  refine k_iastv (w := 1) (hx := (by first | rfl | decide)) (pc := 198) (a := 136) (m := 970) (q := 17) (g := (upd (upd (upd (upd (upd (upd (upd (upd (upd (upd (upd (fun _ => 0) (2) 15) (26) 4) (28) 10) (29) 2) (10) 1) (11) 2) (12) 4) (13) 8) (14) 16) (15) 32) (16) 0)) C (by omega) (by simp (disch := omega) only [fu_at, fu_ne, fm_at, fm_ne, h0]) (by first | rfl | decide) (by decide) (by decide) dX12_init_198 ?_
  refine g_ii1 (pc := 199) (v := 2) C dX12_init_199 (by decide) ?_
  refine g_goto (pc := 202) (tgt := 184) C dX12_init_202 (by decide) ?_
  refine g_il1n (pc := 184) C dX12_init_184 ?_
  refine g_iconst (pc := 185) (v := 4) C dX12_init_185 (by decide) ?_
  refine g_icmp_geL (pc := 186) (tgt := 205) C dX12_init_186 (by decide) (fun c => absurd c (by decide)) (fun _ => ?_)
  refine g_al0n (pc := 189) C dX12_init_189 ?_
  refine k_get (pc := 190) (a := 135) (fs := [.ref 136, .ref 137, .ref 138, .int 0, .ref 139, .ref 140, .int 0, .int 0, .int 0, .int 0, .int 0, .ref 141, .int 0, .int 0, .int 0, .int 0, .int 0, .ref 142, .int 0, .ref 143, .ref 144, .ref 145, .ref 146, .ref 147]) (v := .ref 136) C fX12_9 (by omega) (by simp (disch := omega) only [fu_at, fu_ne, fm_at, fm_ne, h0]) rfl dX12_init_190 ?_
  refine g_bipush (pc := 193) (v := 16) C dX12_init_193 (by decide) ?_
  refine g_il1n (pc := 195) C dX12_init_195 ?_
  refine g_iadd (pc := 196) C dX12_init_196 ?_
  refine g_il1n (pc := 197) C dX12_init_197 ?_
  refine k_iastv (w := 2) (hx := (by first | rfl | decide)) (pc := 198) (a := 136) (m := 970) (q := 18) (g := (upd (upd (upd (upd (upd (upd (upd (upd (upd (upd (upd (upd (fun _ => 0) (2) 15) (26) 4) (28) 10) (29) 2) (10) 1) (11) 2) (12) 4) (13) 8) (14) 16) (15) 32) (16) 0) (17) 1)) C (by omega) (by simp (disch := omega) only [fu_at, fu_ne, fm_at, fm_ne, h0]) (by first | rfl | decide) (by decide) (by decide) dX12_init_198 ?_
  refine g_ii1 (pc := 199) (v := 3) C dX12_init_199 (by decide) ?_
  refine g_goto (pc := 202) (tgt := 184) C dX12_init_202 (by decide) ?_
  refine g_il1n (pc := 184) C dX12_init_184 ?_
  refine g_iconst (pc := 185) (v := 4) C dX12_init_185 (by decide) ?_
  refine g_icmp_geL (pc := 186) (tgt := 205) C dX12_init_186 (by decide) (fun c => absurd c (by decide)) (fun _ => ?_)
  refine g_al0n (pc := 189) C dX12_init_189 ?_
  refine k_get (pc := 190) (a := 135) (fs := [.ref 136, .ref 137, .ref 138, .int 0, .ref 139, .ref 140, .int 0, .int 0, .int 0, .int 0, .int 0, .ref 141, .int 0, .int 0, .int 0, .int 0, .int 0, .ref 142, .int 0, .ref 143, .ref 144, .ref 145, .ref 146, .ref 147]) (v := .ref 136) C fX12_9 (by omega) (by simp (disch := omega) only [fu_at, fu_ne, fm_at, fm_ne, h0]) rfl dX12_init_190 ?_
  refine g_bipush (pc := 193) (v := 16) C dX12_init_193 (by decide) ?_
  refine g_il1n (pc := 195) C dX12_init_195 ?_
  refine g_iadd (pc := 196) C dX12_init_196 ?_
  refine g_il1n (pc := 197) C dX12_init_197 ?_
  refine k_iastv (w := 3) (hx := (by first | rfl | decide)) (pc := 198) (a := 136) (m := 970) (q := 19) (g := (upd (upd (upd (upd (upd (upd (upd (upd (upd (upd (upd (upd (upd (fun _ => 0) (2) 15) (26) 4) (28) 10) (29) 2) (10) 1) (11) 2) (12) 4) (13) 8) (14) 16) (15) 32) (16) 0) (17) 1) (18) 2)) C (by omega) (by simp (disch := omega) only [fu_at, fu_ne, fm_at, fm_ne, h0]) (by first | rfl | decide) (by decide) (by decide) dX12_init_198 ?_
  refine g_ii1 (pc := 199) (v := 4) C dX12_init_199 (by decide) ?_
  refine g_goto (pc := 202) (tgt := 184) C dX12_init_202 (by decide) ?_
  refine g_il1n (pc := 184) C dX12_init_184 ?_
  refine g_iconst (pc := 185) (v := 4) C dX12_init_185 (by decide) ?_
  refine g_icmp_geL (pc := 186) (tgt := 205) C dX12_init_186 (by decide) (fun _ => ?_) (fun c => absurd c (by decide))
  exact k_vret C hr dX12_init_205 (by omega) (by omega) ⟨_, rfl, ⟨(by simp (disch := omega) only [fu_at, fu_ne, fm_at, fm_row, fm_ne, h0]), (by simp (disch := omega) only [fu_at, fu_ne, fm_at, fm_row, fm_ne, h0]), (by simp (disch := omega) only [fu_at, fu_ne, fm_at, fm_row, fm_ne, h0]), (by simp (disch := omega) only [fu_at, fu_ne, fm_at, fm_row, fm_ne, h0]), (by simp (disch := omega) only [fu_at, fu_ne, fm_at, fm_row, fm_ne, h0]), (by simp (disch := omega) only [fu_at, fu_ne, fm_at, fm_row, fm_ne, h0]), (by simp (disch := omega) only [fu_at, fu_ne, fm_at, fm_row, fm_ne, h0]), (by simp (disch := omega) only [fu_at, fu_ne, fm_at, fm_row, fm_ne, h0]), (by simp (disch := omega) only [fu_at, fu_ne, fm_at, fm_row, fm_ne, h0]), (by simp (disch := omega) only [fu_at, fu_ne, fm_at, fm_row, fm_ne, h0]), (by simp (disch := omega) only [fu_at, fu_ne, fm_at, fm_row, fm_ne, h0]), (by simp (disch := omega) only [fu_at, fu_ne, fm_at, fm_row, fm_ne, h0]), (by simp (disch := omega) only [fu_at, fu_ne, fm_at, fm_row, fm_ne, h0])⟩, fun q hq => by simp (disch := omega) only [fu_ne, fm_ne]⟩
