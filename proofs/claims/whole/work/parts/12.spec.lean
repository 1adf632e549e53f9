/-! ===== what is asked, over the model's row of numbers: pure ===== -/
abbrev Nu : Type := Nat → Int32
def allL (P : Nat → Bool) : Nat → Bool
  | 0 => true
  | n + 1 => allL P n && P n
def anyL (P : Nat → Bool) : Nat → Bool
  | 0 => false
  | n + 1 => anyL P n || P n
/-- the first below n -/
def fstL (P : Nat → Bool) : Nat → Option Nat
  | 0 => none
  | n + 1 => match fstL P n with
    | some i => some i
    | none => if P n = true then some n else none
/-- the last below n -/
def lstL (P : Nat → Bool) : Nat → Option Nat
  | 0 => none
  | n + 1 => if P n = true then some n else lstL P n
def sumL (f : Nat → Int32) : Nat → Int32
  | 0 => 0
  | n + 1 => sumL f n + f n
def o2i (o : Option Nat) : Int32 := match o with
  | some k => nI k
  | none => -1
/-- a bit of a set -/
def hb (s k : Int32) : Bool := decide (¬ (s >>> (k &&& 31)) &&& 1 = 0)
/-- a set with a bit put or taken -/
def wb (s k is : Int32) : Int32 := if is = 0 then s &&& (((1 : Int32) <<< (k &&& 31)) ^^^ (-1)) else s ||| ((1 : Int32) <<< (k &&& 31))
def wi (v a b : Int32) : Prop := a ≤ v ∧ v ≤ b
/-- the counts of a row of numbers -/
def cnt (ν : Nu) (k : Nat) : Nat := (ν k).toNatClampNeg
def aA (ν : Nu) (a f : Nat) : Int32 := ν (146 + 10 * a + f)
def aP (ν : Nu) (p f : Nat) : Int32 := ν (90 + 4 * p + f)
def aG (ν : Nu) (g f : Nat) : Int32 := ν (50 + 4 * g + f)
/-- the state and till of a rope -/
def aR (ν : Nu) (w r f : Nat) : Int32 := ν (33 + 4 * w + 2 * r + f)
def rowP (ν : Nu) (g : Int32) (a : Nat) : Bool := !(decide (aA ν a 6 = 1) && decide (aA ν a 2 = g))
def inRow (ν : Nu) (g : Int32) : Bool := allL (rowP ν g) (cnt ν 7)
def airP (ν : Nu) (p : Int32) (a : Nat) : Bool := decide (aA ν a 6 = 1) && (decide (aA ν a 0 = p) || decide (aA ν a 1 = p))
def inAir (ν : Nu) (p : Int32) : Bool := anyL (airP ν p) (cnt ν 7)
def max32 (a b : Int32) : Int32 := if b ≤ a then a else b
def min32 (a b : Int32) : Int32 := if a ≤ b then a else b
def boundK (k : Int32) : Int32 := if k = 1 then 20 else if k = 3 then 10 else if k = 4 then 15 else if k = 5 then 28 else 25
def spanK (k h : Int32) : Int32 := if k = 1 then 2 else if k = 3 then 4 else if k = 2 then 1 + h / 5 else if k = 4 then max32 1 (1 + h / 5 - 1) else if k = 5 then 1 + h / 5 + 4 else 1
/-- own is kind, or under it -/
def undK (own kind : Int32) : Bool :=
  if own = 0 then decide (kind = 0) else if own = 1 then decide (kind = 1) || decide (kind = 0) else if own = 2 then decide (kind = 2) || decide (kind = 0)
  else if own = 3 then decide (kind = 3) || decide (kind = 1) || decide (kind = 0) else if own = 4 then decide (kind = 4) || decide (kind = 2) || decide (kind = 0) else decide (kind = 5) || decide (kind = 2) || decide (kind = 0)
def spanA (ν : Nu) (a : Nat) : Int32 := spanK (aA ν a 3) (aA ν a 4)
def clrP (ν : Nu) (lane k : Nat) : Bool := !(hb (ν (10 + lane)) (nI k)) || decide (ν (20 + k) ≤ ν 0)
def clearL (ν : Nu) (lane : Nat) : Bool := allL (clrP ν lane) 6
def papers (ν : Nu) (p k : Int32) : Bool := if p < 0 then false else hb (aP ν p.toNatClampNeg 1) k
def winP (ν : Nu) (kind : Int32) (w : Nat) : Bool := if kind = 3 then decide (aR ν w 0 0 = 2) && decide (aR ν w 1 0 = 2) else decide (aR ν w 0 0 = 2) || decide (aR ν w 1 0 = 2)
def winchF (ν : Nu) (kind : Int32) : Option Nat := fstL (winP ν kind) (cnt ν 5)
def plaP (ν : Nu) (p : Nat) : Bool := decide (ν (30 + p) < 0)
def planeT (ν : Nu) : Option Nat := fstL (plaP ν) (cnt ν 6)
def helpK (ν : Nu) (kind : Int32) : Bool := decide (kind = 4) || (if undK kind 1 = true then (winchF ν kind).isSome else (planeT ν).isSome)
def txtP (ν : Nu) (use : Int32) (t : Nat) : Bool := decide (ν (346 + 104 * t) = use)
def textU (ν : Nu) (use : Int32) : Option Nat := lstL (txtP ν use) (cnt ν 8)
def laneA (ν : Nu) (a : Nat) : Int32 := ν (16 + if undK (aA ν a 3) 1 = true then 0 else 1)
/-! texts: steps on a stack -/
def opK (s a b : Int32) : Int32 := if s = 10100 then a + b else if s = 10101 then a - b else if s = 10108 then a * b else if s = 10109 then (if b = 0 then 0 else a / b) else if s = 10102 then (if a < b then 1 else 0) else if s = 10103 then (if a = b then 1 else 0)
  else if s = 10104 then (if b < a then 1 else 0) else if s = 10105 then (if ¬ a = 0 ∧ ¬ b = 0 then 1 else 0) else (if ¬ a = 0 ∨ ¬ b = 0 then 1 else 0)
/-- one step on a stack: its top is the head -/
def stepT (s h m k w : Int32) (L : List Int32) : List Int32 :=
  if s < 10000 then s :: L else if s < 10100 then (if s = 10000 then h else if s = 10001 then m else if s = 10002 then k else w) :: L
  else if s = 10107 then (match L with | x :: r => (if x = 0 then 1 else 0) :: r | [] => []) else (match L with | y :: x :: r => opK s x y :: r | r => r)
def runT (cs : Nu) (h m k w : Int32) : Nat → List Int32
  | 0 => []
  | n + 1 => stepT (cs n) h m k w (runT cs h m k w n)
/-- how many are on the stack behind n steps; none: there were too few -/
def depT (cs : Nu) : Nat → Option Nat
  | 0 => some 0
  | n + 1 => match depT cs n with
    | none => none
    | some q => if cs n < 10100 then some (q + 1) else if cs n = 10107 then (if q = 0 then none else some q) else (if q < 2 then none else some (q - 1))
def codes (ν : Nu) (t : Nat) : Nu := fun k => ν (346 + 104 * t + 2 + k)
def lenT (ν : Nu) (t : Nat) : Nat := (ν (346 + 104 * t + 1)).toNatClampNeg
def worth (ν : Nu) (t : Nat) (h m k : Int32) : Int32 := (runT (codes ν t) h m k (ν 1) (lenT ν t)).headD 0
def barA (ν : Nu) (a : Nat) : Bool := match textU ν 0 with
  | some t => decide (¬ worth ν t (aA ν a 4) (aA ν a 5) (aA ν a 3) = 0)
  | none => false
def why10 (ν : Nu) (a : Nat) : Int32 := if helpK ν (aA ν a 3) = false then 10 else if clearL ν (laneA ν a).toNatClampNeg = true then 0 else 11
def why9 (ν : Nu) (a : Nat) : Int32 := if barA ν a = true then 9 else why10 ν a
def why8 (ν : Nu) (a : Nat) : Int32 := if inAir ν (aA ν a 0) = true ∨ (¬ aA ν a 1 < 0 ∧ inAir ν (aA ν a 1) = true) then 8 else why9 ν a
def why7 (ν : Nu) (a : Nat) : Int32 := if hb (ν 2) (aG ν (aA ν a 2).toNatClampNeg 2) = false then 7 else why8 ν a
def why6 (ν : Nu) (a : Nat) : Int32 := if boundK (aA ν a 3) < ν 1 then 6 else why7 ν a
def why5 (ν : Nu) (a : Nat) : Int32 := if 0 < ν 27 ∧ (aP ν (aA ν a 0).toNatClampNeg 2 < 0 ∨ ν 27 < ν 0 - aP ν (aA ν a 0).toNatClampNeg 2) ∧ papers ν (aA ν a 1) 6 = false then 5 else why6 ν a
def why4 (ν : Nu) (a : Nat) : Int32 := if papers ν (aA ν a 0) (aA ν a 3) = false ∧ ¬ (papers ν (aA ν a 1) 6 = true ∧ papers ν (aA ν a 1) (aA ν a 3) = true) then 4 else why5 ν a
def weigh (ν : Nu) (a : Nat) : Int32 := aP ν (aA ν a 0).toNatClampNeg 0 + (if aA ν a 1 < 0 then 0 else aP ν (aA ν a 1).toNatClampNeg 0)
def why3 (ν : Nu) (a : Nat) : Int32 := if aG ν (aA ν a 2).toNatClampNeg 1 < weigh ν a then 3 else why4 ν a
def why2 (ν : Nu) (a : Nat) : Int32 := if ¬ aA ν a 1 < 0 ∧ aG ν (aA ν a 2).toNatClampNeg 0 = 1 then 2 else why3 ν a
def whyA (ν : Nu) (a : Nat) : Int32 := if inRow ν (aA ν a 2) = false then 1 else why2 ν a
def dueA (ν : Nu) (a : Nat) : Int32 := aA ν a 7 + spanA ν a + max32 (aA ν a 5) (ν 29)
/-- the ask that is due first, of those below n -/
def bestD (ν : Nu) : Nat → Option Nat
  | 0 => none
  | n + 1 => match bestD ν n with
    | none => if aA ν n 6 = 1 ∧ dueA ν n ≤ ν 0 then some n else none
    | some i => if (aA ν n 6 = 1 ∧ dueA ν n ≤ ν 0) ∧ dueA ν n < dueA ν i then some n else some i
def landsS (ν : Nu) : Option Nat := match bestD ν (cnt ν 7) with
  | some a => if clearL ν (ν 18).toNatClampNeg = true then some a else none
  | none => none
def staP (ν : Nu) (a : Nat) : Bool := decide (aA ν a 6 = 0) && decide (whyA ν a = 0)
def startsS (ν : Nu) : Option Nat := fstL (staP ν) (cnt ν 7)
def druP (ν : Nu) (w : Nat) : Bool := decide (aR ν w 0 0 = 0) || decide (aR ν w 1 0 = 0)
def drumW (ν : Nu) : Option Nat := fstL (druP ν) (cnt ν 5)
def fetchS (ν : Nu) : Option Nat := match drumW ν with
  | some w => if clearL ν (ν 19).toNatClampNeg = true then some w else none
  | none => none
def nextS (ν : Nu) : Int32 := match landsS ν with
  | some a => 1000 + nI a
  | none => match startsS ν with
    | some a => 2000 + nI a
    | none => match fetchS ν with
      | some w => 3000 + nI w
      | none => 0
def costA (ν : Nu) (a : Nat) : Int32 := max32 0 (min32 9999 (match textU ν 1 with
  | some t => worth ν t (aA ν a 4) (ν 0 - aA ν a 7 - spanA ν a) (aA ν a 3)
  | none => 10 * spanA ν a + 2 * aA ν a 4 + (ν 0 - aA ν a 7 - spanA ν a)))
def downS (ν : Nu) (a : Nat) : Nu :=
  let ν1 := upd ν (146 + 10 * a + 9) (costA ν a)
  let ν2 := upd ν1 (146 + 10 * a + 6) 2
  let ν3 := upd ν2 (146 + 10 * a + 8) (ν2 0)
  let ν4 := upd ν3 (20 + (ν 18).toNatClampNeg) (ν3 0 + 2)
  let p := (ν (146 + 10 * a + 0)).toNatClampNeg
  let ν5 := upd ν4 (90 + 4 * p + 3) (ν4 (90 + 4 * p + 3) + ν4 (146 + 10 * a + 9))
  let ν6 := upd ν5 (90 + 4 * p + 2) (ν5 0)
  if ν (146 + 10 * a + 1) < 0 then ν6 else upd ν6 (90 + 4 * (ν (146 + 10 * a + 1)).toNatClampNeg + 2) (ν6 0)
def ropeS (ν : Nu) (w r : Nat) (how till : Int32) : Nu := upd (upd ν (33 + 4 * w + 2 * r) how) (33 + 4 * w + 2 * r + 1) till
/-- a launch, without rope and plane -/
def upS3 (ν : Nu) (a : Nat) : Nu :=
  let ν1 := upd ν (20 + (laneA ν a).toNatClampNeg) (ν 0 + spanA ν a)
  let ν2 := upd ν1 (146 + 10 * a + 6) 1
  upd ν2 (146 + 10 * a + 7) (ν2 0)
def upS (ν : Nu) (a : Nat) : Nu :=
  let ν3 := upS3 ν a
  if ν (146 + 10 * a + 3) = 4 then ν3
  else if undK (ν (146 + 10 * a + 3)) 1 = false then (match planeT ν3 with | some p => upd ν3 (30 + p) (ν3 0 + 2 * spanA ν a) | none => ν3)
  else match winchF ν3 (ν (146 + 10 * a + 3)) with
    | none => ν3
    | some w =>
      let ν4 := ropeS ν3 w (if ν3 (33 + 4 * w + 2 * 0) = 2 then 0 else 1) 0 (-1)
      if ν (146 + 10 * a + 3) = 3 then ropeS ν4 w 1 0 (-1) else ν4
def fetchR (ν : Nu) (w r : Nat) : Nu := if ν (33 + 4 * w + 2 * r) = 0 then ropeS ν w r 1 (ν 0 + ν 26) else ν
def fetchedS (ν : Nu) (w : Nat) : Nu := fetchR (fetchR (upd ν (20 + (ν 19).toNatClampNeg) (ν 0 + ν 26)) w 0) w 1
def openR (ν : Nu) (w r : Nat) : Nu := if (ν (33 + 4 * w + 2 * r) = 1 ∨ ν (33 + 4 * w + 2 * r) = 3) ∧ ν (33 + 4 * w + 2 * r + 1) ≤ ν 0 then ropeS ν w r (if ν (33 + 4 * w + 2 * r) = 1 then 2 else 0) (-1) else ν
def openW (ν : Nu) : Nat → Nu
  | 0 => ν
  | n + 1 => openR (openR (openW ν n) n 0) n 1
def openP (ν : Nu) : Nat → Nu
  | 0 => ν
  | n + 1 => let ν1 := openP ν n; upd ν1 (30 + n) (if ν1 (30 + n) ≤ ν1 0 then -1 else ν1 (30 + n))
def openS (ν : Nu) : Nu := let ν1 := upd ν 0 (ν 0 + 1); let ν2 := openW ν1 (cnt ν 5); openP ν2 (cnt ν 6)
def landN (ν : Nu) : Nu := match landsS ν with
  | some a => downS ν a
  | none => ν
def landC (ν : Nu) : Int32 := match landsS ν with
  | some _ => 10
  | none => 0
def startN (ν : Nu) : Nu := match startsS ν with
  | some a => upS ν a
  | none => ν
def startC (ν : Nu) (n : Int32) : Int32 := match startsS ν with
  | some _ => n + 1
  | none => n
def fetchN (ν : Nu) : Nu := match fetchS ν with
  | some w => fetchedS ν w
  | none => ν
/-- a minute: launches, and 10 for each landing; the row of numbers behind it -/
def minS (ν : Nu) : Int32 × Nu := (startC (landN ν) (landC ν), openS (fetchN (startN (landN ν))))
theorem landN_s {ν : Nu} {a : Nat} (h : landsS ν = some a) : landN ν = downS ν a ∧ landC ν = 10 := by unfold landN landC; rw [h]; exact ⟨rfl, rfl⟩
theorem landN_n {ν : Nu} (h : landsS ν = none) : landN ν = ν ∧ landC ν = 0 := by unfold landN landC; rw [h]; exact ⟨rfl, rfl⟩
theorem startN_s {ν : Nu} {a : Nat} (n : Int32) (h : startsS ν = some a) : startN ν = upS ν a ∧ startC ν n = n + 1 := by unfold startN startC; rw [h]; exact ⟨rfl, rfl⟩
theorem startN_n {ν : Nu} (n : Int32) (h : startsS ν = none) : startN ν = ν ∧ startC ν n = n := by unfold startN startC; rw [h]; exact ⟨rfl, rfl⟩
theorem fetchN_s {ν : Nu} {a : Nat} (h : fetchS ν = some a) : fetchN ν = fetchedS ν a := by unfold fetchN; rw [h]
theorem fetchN_n {ν : Nu} (h : fetchS ν = none) : fetchN ν = ν := by unfold fetchN; rw [h]
def runS (ν : Nu) : Nat → Nu
  | 0 => ν
  | n + 1 => (minS (runS ν n)).2
/-- what went in the minute behind n of them -/
def wentS (ν : Nu) (n : Nat) : Int32 := (minS (runS ν n)).1
def setL (ν : Nu) (how : Int32) : Nat → Int32
  | 0 => 0
  | n + 1 => setL ν how n ||| (if aA ν n 6 = how then (1 : Int32) <<< (nI n &&& 31) else 0)
def setS (ν : Nu) (how : Int32) : Int32 := setL ν how (cnt ν 7)
theorem allL_s (P : Nat → Bool) (n : Nat) : allL P (n + 1) = (allL P n && P n) := rfl
theorem anyL_s (P : Nat → Bool) (n : Nat) : anyL P (n + 1) = (anyL P n || P n) := rfl
theorem lstL_s (P : Nat → Bool) (n : Nat) : lstL P (n + 1) = if P n = true then some n else lstL P n := rfl
theorem sumL_s (f : Nat → Int32) (n : Nat) : sumL f (n + 1) = sumL f n + f n := rfl
