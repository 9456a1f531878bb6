/-! the law's loop: one call -/
theorem by_and63 (x : Int32) : ∃ t, t < 64 ∧ x &&& nI 63 = nI t := by
  refine ⟨x.toBitVec.toNat % 64, Nat.mod_lt _ (by decide), ?_⟩
  apply Int32.toBitVec_inj.mp
  apply BitVec.eq_of_toNat_eq
  show (x.toBitVec &&& 63#32).toNat = (BitVec.ofNat 32 (x.toBitVec.toNat % 64)).toNat
  rw [BitVec.toNat_and, BitVec.toNat_ofNat, BitVec.toNat_ofNat]
  show x.toBitVec.toNat &&& (2 ^ 6 - 1) = x.toBitVec.toNat % 64 % 4294967296
  rw [Nat.and_two_pow_sub_one_eq_mod]
  show x.toBitVec.toNat % 64 = x.toBitVec.toNat % 64 % 4294967296
  have := Nat.mod_lt x.toBitVec.toNat (show 0 < 64 by decide)
  omega
theorem e_sld {α : Type} (b L : Nat) (xs : Nat → Int32) (k : zK α) (ls : zL) (st : List Value) (σ : zS) : q_sld b L xs k ls st σ = match st with
  | .int i :: .ref a :: r => if a = b ∧ ¬ (i < 0 ∨ L ≤ i.toNatClampNeg) then k ls (.int (xs i.toNatClampNeg) :: r) σ else none
  | _ => none := rfl
theorem e_sln {α : Type} (b L : Nat) (k : zK α) (ls : zL) (st : List Value) (σ : zS) : q_sln b L k ls st σ = match st with
  | .ref a :: r => if a = b then k ls (.int (Int32.ofNat L) :: r) σ else none
  | _ => none := rfl
theorem e_oL {L : Nat} : Int32.ofNat L = nI L := rfl
/-- what holds between two calls of the law -/
def lawI (σ : zS) (B : Nat) : Prop := ∃ I L Z, σ = (I, L, Z) ∧ strOk Z ∧ ∃ tx lv nc ch rows, wRest I L Z B tx lv nc ch rows ∧ ∃ len col tm pd, wFam I B tx lv nc ch rows len col tm pd
theorem lawI_ok {fc fr : zF} {args : List Value} {I : Nat → Nat → Int32} {L : Nat → Nat → Int64} {Z : zZ} {B tx lv nc : Nat} {ch : Nat → Nat → Nat} {rows : Nat} (hS : strOk Z) (ho : okOp fc fr args I L Z B tx lv nc ch rows) : ∃ v I1 I2, fc (.ref B :: args) (I, L, Z) = some (some (.int v), (I1, L, Z)) ∧ fr (.ref (B + 200) :: args) (I1, L, Z) = some (some (.int v), (I2, L, Z)) ∧ lawI (I2, L, Z) B := by
  obtain ⟨v, I1, I2, a1, a2, a3, a4⟩ := ho
  exact ⟨v, I1, I2, a1, a2, I2, L, Z, rfl, hS, tx, lv, nc, ch, rows, a3, a4⟩
