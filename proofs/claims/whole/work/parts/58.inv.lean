--deps: 54.lazy 54.mem 55.mem2 56.rmem 57.spec
/-! what holds between two calls -/
def wTape (I : Nat → Nat → Int32) (B : Nat) : Prop := ∃ n, n ≤ 2000 ∧ I (B + 1) 1 = nI n ∧ I (B + 200) 2 = nI n ∧ ∀ i, i < n → I (B + 2) i = I (B + 200 + 1) i
def wSeed (I : Nat → Nat → Int32) (B tx lv : Nat) : Prop := ∃ s, s < 10000 ∧ I (B + tx) 5 = nI s ∧ I (B + 200 + 16) lv = nI s
/-- where the ring keeps what was p-th of u -/
def rgX (u nw p : Nat) : Nat := (nw + 41 + p - u) % 40
def wUndo (I : Nat → Nat → Int32) (B rows nc : Nat) : Prop := ∃ u nw, u ≤ 40 ∧ nw < 40 ∧ I (B + 45) 0 = nI u ∧ I (B + 45) 1 = nI nw ∧ I (B + 200) 52 = nI u ∧ ∀ p, p < u → ∃ len col tm pd, famC I (B + (49 + 3 * rgX u nw p)) (B + (50 + 3 * rgX u nw p)) (B + (51 + 3 * rgX u nw p)) rows nc len col tm pd ∧ famR (fun k => I (B + 200 + 33) (38 * p + k)) rows len col tm pd
def wSlot (I : Nat → Nat → Int32) (B rows nc : Nat) : Prop := ∀ s, s < 3 → (I (B + 48) s = nI 0 ∧ I (B + 200 + 48) s = nI 0) ∨ (I (B + 48) s = nI 1 ∧ I (B + 200 + 48) s = nI 1 ∧ ∃ len col tm pd, famC I (B + (169 + 3 * s)) (B + (170 + 3 * s)) (B + (171 + 3 * s)) rows nc len col tm pd ∧ famR (fun k => I (B + 200 + 49) (38 * s + k)) rows len col tm pd)
def toldAt (I : Nat → Nat → Int32) (B nc j : Nat) : Prop := ∃ d i c b, d < 6 ∧ i < 6 ∧ c < nc ∧ b < 2 ∧ I (B + 192) j = nI d ∧ I (B + 193) j = nI i ∧ I (B + 194) j = nI c ∧ I (B + 195) j = nI b ∧ I (B + 200 + 43) j = nI d ∧ I (B + 200 + 44) j = nI i ∧ I (B + 200 + 45) j = nI c ∧ I (B + 200 + 46) j = nI b
def wTold (I : Nat → Nat → Int32) (B nc : Nat) : Prop := ∃ n, n ≤ 20 ∧ I (B + 191) 0 = nI n ∧ I (B + 200) 66 = nI n ∧ ∀ j, j < n → toldAt I B nc j
/-- a row by its number -/
def dig (b n v i : Nat) : Nat := v / b ^ (n - 1 - i) % b
def lastV (ch : Nat → Nat → Nat) (b n v : Nat) : Nat := tri ch (dig b n v) (n - 1) 0
/-- of the rows below v: how many make x, and the least -/
def madeV (ch : Nat → Nat → Nat) (b n x : Nat) : Nat → Nat
  | 0 => 0
  | v + 1 => madeV ch b n x v + (if lastV ch b n v = x then 1 else 0)
def leastV (ch : Nat → Nat → Nat) (b n x : Nat) : Nat → Option Nat
  | 0 => none
  | v + 1 => match leastV ch b n x v with
    | some w => some w
    | none => if lastV ch b n v = x then some v else none
def oI (o : Option Nat) : Int32 := match o with
  | some v => nI v
  | none => nM2
/-- who wins x: seats s of n are painted, by the number v; the first paints the even seats -/
def winV (ch : Nat → Nat → Nat) (b n x : Nat) : Nat → Nat → Prop
  | 0, v => lastV ch b n v = x
  | k + 1, v => if (n - (k + 1)) % 2 = 0 then ∃ c, c < b ∧ winV ch b n x k (v * b + c) else ∀ c, c < b → winV ch b n x k (v * b + c)
def cenN (I : Nat → Nat → Int32) (B nc : Nat) (ch : Nat → Nat → Nat) (n : Nat) : Prop := ∀ x, x < nc → I (B + 183) (n * 4 + x) = nI (madeV ch nc n x (nc ^ n)) ∧ I (B + 184) (n * 4 + x) = oI (leastV ch nc n x (nc ^ n)) ∧ ∃ f, f < 16 ∧ I (B + 185) (n * 4 + x) = nI f ∧ ∀ y, y < nc → (f / 2 ^ y % 2 = 1 ↔ winV ch nc n y (n - 1) x)
def wCen (I : Nat → Nat → Int32) (B nc : Nat) (ch : Nat → Nat → Nat) : Prop := ∀ n, 1 ≤ n → n < 9 → I (B + 182) n = nI 0 ∨ (I (B + 182) n = nI 1 ∧ cenN I B nc ch n)
def keyV : List Nat := [1384183423, 1758676, 13550, 12532058, 1903978, 298288, 316351, 377761, 249, 399641, 107681, 51266052, 377669, 2236391, 247516, 257011, 400577, 12387257, 240023, 9748424]
def wKey (L : Nat → Nat → Int64) (B : Nat) : Prop := ∀ k v, keyV[k]? = some v → L (B + 200 + 7) k = Int64.ofNat v
