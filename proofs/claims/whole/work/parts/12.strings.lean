/-! String constants: charAt of the words, indexOf of the signs -/
def fJ0_charAt_5068e : zF := fun as σ => match as with
  | [.ref b, .int i] => if b = z_str σ 0 ∧ ¬ i < 0 ∧ i.toNatClampNeg < 160 then some (some (.int ((z_by z_tx0).getD i.toNatClampNeg 0)), σ) else none
  | _ => none
def z_ix (c : Int32) : Int32 := match (z_by z_tx1).findIdx? (fun b => b == c) with
  | some i => Int32.ofNat i
  | none => -1
def fJ0_indexOf_0f7a4 : zF := fun as σ => match as with
  | [.ref b, .int c] => if b = z_str σ 1 ∧ ¬ c < 0 ∧ c.toNatClampNeg < 256 then some (some (.int (z_ix c)), σ) else none
  | _ => none
def xJ0_charAt_5068e : zX := (RJ0, cJ0_charAt_5068e, 2, some .char, false, { frames := 6, cells := 0, slots := 0, locals := 300 }, 0, 0, 0, 0)
def xJ0_indexOf_0f7a4 : zX := (RJ0, cJ0_indexOf_0f7a4, 2, some .int, false, { frames := 6, cells := 0, slots := 0, locals := 300 }, 0, 0, 0, 0)
theorem reJ0_charAt_5068e : z_Re xJ0_charAt_5068e := ⟨rfl, rfl⟩
theorem reJ0_indexOf_0f7a4 : z_Re xJ0_indexOf_0f7a4 := ⟨rfl, rfl⟩
theorem meJ0_charAt_5068e : z_Me yJ0_charAt_5068e xJ0_charAt_5068e 1 := ⟨z_in (in_t2 (List.mem_of_getElem? (i := 215) rfl)) rfl, z_in (in_t1 (List.mem_of_getElem? (i := 14) rfl)) rfl, by decide, by decide, by decide +kernel⟩
theorem meJ0_indexOf_0f7a4 : z_Me yJ0_indexOf_0f7a4 xJ0_indexOf_0f7a4 1 := ⟨z_in (in_t3 (List.mem_of_getElem? (i := 16) rfl)) rfl, z_in (in_t1 (List.mem_of_getElem? (i := 14) rfl)) rfl, by decide, by decide, by decide +kernel⟩
theorem mJ0_charAt_5068e {l : Launch} {D : zD} {B : Nat} : z_MF l D B yJ0_charAt_5068e xJ0_charAt_5068e fJ0_charAt_5068e := sorry
theorem mJ0_indexOf_0f7a4 {l : Launch} {D : zD} {B : Nat} : z_MF l D B yJ0_indexOf_0f7a4 xJ0_indexOf_0f7a4 fJ0_indexOf_0f7a4 := sorry
