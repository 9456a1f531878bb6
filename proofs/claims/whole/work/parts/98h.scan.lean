/-! read: the class's tokens -/
def lxS (T : Nat → Nat) (n : Nat) : Nat → Nat
  | 0 => lxTo isBl T n 0
  | i + 1 => lxTo isBl T n (lxE T n (lxS T n i))
def lxB (T : Nat → Nat) (n : Nat) : Nat → Nat
  | 0 => 0
  | i + 1 => lxE T n (lxS T n i)
theorem lxS_B (T : Nat → Nat) (n : Nat) : ∀ i, lxS T n i = lxTo isBl T n (lxB T n i)
  | 0 => rfl
  | _ + 1 => rfl
theorem lxS_le (T : Nat → Nat) (n : Nat) : ∀ i, lxB T n i ≤ n ∧ lxS T n i ≤ n
  | 0 => ⟨Nat.zero_le _, (lxTo_spec isBl T (Nat.zero_le n)).2.1⟩
  | i + 1 => by
    have a := (lxE_le T (lxS_le T n i).2).2.1
    exact ⟨a, (lxTo_spec isBl T a).2.1⟩
def lxT (T : Nat → Nat) (n i : Nat) : Prop := lxK T n (lxS T n i) = 22 ∨ lxK T n (lxS T n i) = 23
noncomputable def lxN (T : Nat → Nat) (n : Nat) : Nat := match lsP (lxT T n) 401 with
  | some w => w + 1
  | none => 401
theorem lsP_no {p : Nat → Prop} : ∀ {n : Nat}, lsP p n = none → ∀ i, i < n → ¬ p i
  | 0, _, i, hi => absurd hi (Nat.not_lt_zero _)
  | n + 1, h, i, hi => by
    rw [lsP] at h
    cases ho : lsP p n with
    | some w => rw [ho] at h; cases h
    | none =>
      rw [ho] at h
      by_cases g : p n
      · have h : ifP (p n) (some n) none = none := h
        rw [ifP_pos g] at h
        cases h
      · rcases Nat.eq_or_lt_of_le (Nat.lt_succ_iff.mp hi) with z | z
        · rw [z]; exact g
        · exact lsP_no ho i z
theorem lsP_first {p : Nat → Prop} : ∀ {n w : Nat}, lsP p n = some w → ∀ i, i < w → ¬ p i
  | 0, _, h, _, _ => by rw [lsP] at h; cases h
  | n + 1, w, h, i, hi => by
    rw [lsP] at h
    cases ho : lsP p n with
    | some w' =>
      rw [ho] at h
      cases h
      exact lsP_first ho i hi
    | none =>
      rw [ho] at h
      have h : ifP (p n) (some n) none = some w := h
      by_cases g : p n
      · rw [ifP_pos g] at h
        cases h
        exact lsP_no ho i hi
      · rw [ifP_neg g] at h
        cases h
theorem lxN_spec (T : Nat → Nat) (n : Nat) : 1 ≤ lxN T n ∧ lxN T n ≤ 401 ∧ (∀ i, i + 1 < lxN T n → ¬ lxT T n i) ∧ (lxN T n = 401 ∨ lxT T n (lxN T n - 1)) := by
  unfold lxN
  generalize ho : lsP (lxT T n) 401 = o
  cases o with
  | none => exact ⟨by decide, Nat.le_refl _, fun i hi => lsP_no ho i (by have hi : i + 1 < 401 := hi; omega), Or.inl rfl⟩
  | some w =>
    have a := lsP_lt ho
    exact ⟨Nat.succ_le_succ (Nat.zero_le _), a.1, fun i hi => lsP_first ho i (by have hi : i + 1 < w + 1 := hi; omega), Or.inr a.2⟩
