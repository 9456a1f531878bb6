/-! read: what the numbers of tokens are -/
theorem i2l_n : ∀ t, t < 256 → (nI t).toInt64 = Int64.ofNat t := by decide +kernel
theorem cdL_num {T : Nat → Nat} {p : Nat} : ∀ {k : Nat}, (∀ i, i < k → isDi (T (p + i))) → cdL T p k = Int64.ofNat (num 10 (fun i => T (p + i) - 48) k)
  | 0, _ => rfl
  | k + 1, h => by
    have hk := h k (by omega)
    have ih := cdL_num (T := T) (p := p) (k := k) (fun i hi => h i (by omega))
    have b : T (p + k) < 256 := by have := hk.2; omega
    rw [cdL, if_pos hk, ih, i2l_n _ b, num]
    have e : T (p + k) = (T (p + k) - 48) + 48 := by have := hk.1; omega
    generalize T (p + k) - 48 = d at e
    rw [e, Int64.ofNat_add, Int64.ofNat_add, Int64.ofNat_mul, ← Int64.add_assoc]
    exact Int64.add_sub_cancel _ _
theorem cdL_nam {T : Nat → Nat} {p : Nat} : ∀ {k : Nat}, (∀ i, i < k → isLe (T (p + i))) → cdL T p k = Int64.ofNat (num 32 (fun i => T (p + i) - 96) k)
  | 0, _ => rfl
  | k + 1, h => by
    have hk := h k (by omega)
    have ih := cdL_nam (T := T) (p := p) (k := k) (fun i hi => h i (by omega))
    have b : T (p + k) < 256 := by have := hk.2; omega
    have nd : ¬ isDi (T (p + k)) := by have := hk.1; intro q; have := q.2; omega
    rw [cdL, if_neg nd, ih, i2l_n _ b, num]
    obtain ⟨d, e⟩ : ∃ d, T (p + k) = d + 97 := ⟨T (p + k) - 97, by have := hk.1; omega⟩
    have e2 : T (p + k) - 96 = d + 1 := by omega
    rw [e2, e, Int64.ofNat_add, Int64.ofNat_add, Int64.ofNat_mul, Int64.ofNat_add, ← Int64.add_assoc, ← Int64.add_assoc]
    exact congrArg (· + 1) (Int64.add_sub_cancel _ _)
/-- letters spell their number, whatever the base above 26 -/
theorem num_inj1 {b : Nat} : ∀ {m k : Nat} {c c' : Nat → Nat}, (∀ i, i < m → 0 < c i ∧ c i < b) → (∀ i, i < k → 0 < c' i ∧ c' i < b) → num b c m = num b c' k → m = k ∧ ∀ i, i < m → c i = c' i
  | 0, 0, _, _, _, _, _ => ⟨rfl, fun i hi => absurd hi (Nat.not_lt_zero _)⟩
  | 0, k + 1, c, c', _, h2, e => by
    have := h2 k (by omega)
    rw [num, num] at e
    omega
  | m + 1, 0, c, c', h1, _, e => by
    have := h1 m (by omega)
    rw [num, num] at e
    omega
  | m + 1, k + 1, c, c', h1, h2, e => by
    have a := h1 m (by omega)
    have a' := h2 k (by omega)
    rw [num, num] at e
    have hb : 0 < b := by omega
    have r1 : (num b c m * b + c m) % b = c m := by rw [Nat.mul_comm, Nat.mul_add_mod, Nat.mod_eq_of_lt a.2]
    have r2 : (num b c' k * b + c' k) % b = c' k := by rw [Nat.mul_comm, Nat.mul_add_mod, Nat.mod_eq_of_lt a'.2]
    have ec : c m = c' k := by rw [← r1, ← r2, e]
    have en : num b c m = num b c' k := by
      rw [ec] at e
      exact Nat.eq_of_mul_eq_mul_right hb (by omega)
    obtain ⟨q1, q2⟩ := num_inj1 (fun i hi => h1 i (by omega)) (fun i hi => h2 i (by omega)) en
    subst q1
    refine ⟨rfl, fun i hi => ?_⟩
    rcases Nat.eq_or_lt_of_le (Nat.lt_succ_iff.mp hi) with z | z
    · rw [z]; exact ec
    · exact q2 i z
