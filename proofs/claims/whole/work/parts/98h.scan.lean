/-! read: the class's tokens -/
def lxS (T : Nat → Nat) (n : Nat) : Nat → Nat
  | 0 => lxTo isBl T n 0
  | i + 1 => lxTo isBl T n (lxE T n (lxS T n i))
def lxB (T : Nat → Nat) (n : Nat) : Nat → Nat
  | 0 => 0
  | i + 1 => lxE T n (lxS T n i)
theorem lxS_B (T : Nat → Nat) (n : Nat) : ∀ i, lxS T n i = lxTo isBl T n (lxB T n i)
  | 0 => rfl
  | _ + 1 => rfl
theorem lxS_le (T : Nat → Nat) (n : Nat) : ∀ i, lxB T n i ≤ n ∧ lxS T n i ≤ n
  | 0 => ⟨Nat.zero_le _, (lxTo_spec isBl T (Nat.zero_le n)).2.1⟩
  | i + 1 => by
    have a := (lxE_le T (lxS_le T n i).2).2.1
    exact ⟨a, (lxTo_spec isBl T a).2.1⟩
def lxT (T : Nat → Nat) (n i : Nat) : Prop := lxK T n (lxS T n i) = 22 ∨ lxK T n (lxS T n i) = 23
noncomputable def lxN (T : Nat → Nat) (n : Nat) : Nat := match lsP (lxT T n) 401 with
  | some w => w + 1
  | none => 401
