/-! read: the tokens that both have -/
noncomputable def kK (T : Nat → Nat) (n i : Nat) : Nat := if i < lxN T n then lxK T n (lxS T n i) else 22
def kL (T : Nat → Nat) (n i : Nat) : Nat := lxE T n (lxS T n i) - lxS T n i
def kW (T : Nat → Nat) (n i : Nat) : Nat := num 10 (fun k => T (lxS T n i + k) - 48) (kL T n i)
def kN (T : Nat → Nat) (n a b : Nat) : Prop := kL T n a = kL T n b ∧ ∀ k, k < kL T n a → T (lxS T n a + k) = T (lxS T n b + k)
theorem wdK_le (T : Nat → Nat) (q e : Nat) : wdK T q e ≤ 20 := by
  unfold wdK
  generalize ho : lsP (isWd T q e) 20 = o
  cases o with
  | none => exact Nat.le_refl _
  | some w => exact Nat.le_of_lt (lsP_lt ho).1
theorem lxK_end {T : Nat → Nat} {n p : Nat} (h : ¬ p < n) : lxK T n p = 22 := by unfold lxK; rw [if_neg h]
theorem lxK_let {T : Nat → Nat} {n p : Nat} (h : p < n) (hl : isLe (T p)) : lxK T n p = if 8 < lxE T n p - p then 23 else wdK T p (lxE T n p) := by unfold lxK; rw [if_pos h, if_pos hl]
theorem lxK_dig {T : Nat → Nat} {n p : Nat} (h : p < n) (hl : ¬ isLe (T p)) (hd : isDi (T p)) : lxK T n p = if 4 < lxE T n p - p then 23 else 21 := by unfold lxK; rw [if_pos h, if_neg hl, if_pos hd]
theorem lxK_sgn {T : Nat → Nat} {n p : Nat} (h : p < n) (hl : ¬ isLe (T p)) (hd : ¬ isDi (T p)) : lxK T n p = if isSg (T p) then T p else 23 := by unfold lxK; rw [if_pos h, if_neg hl, if_neg hd]
theorem lxE_let {T : Nat → Nat} {n p : Nat} (h : p < n) (hl : isLe (T p)) : lxE T n p = lxTo isLe T n p := by unfold lxE; rw [if_pos h, if_pos hl]
theorem lxE_dig {T : Nat → Nat} {n p : Nat} (h : p < n) (hl : ¬ isLe (T p)) (hd : isDi (T p)) : lxE T n p = lxTo isDi T n p := by unfold lxE; rw [if_pos h, if_neg hl, if_pos hd]
theorem lxE_sgn {T : Nat → Nat} {n p : Nat} (h : p < n) (hl : ¬ isLe (T p)) (hd : ¬ isDi (T p)) : lxE T n p = p + 1 := by unfold lxE; rw [if_pos h, if_neg hl, if_neg hd]
theorem lxK_lt64 (T : Nat → Nat) (n p : Nat) : lxK T n p < 64 := by
  by_cases h : p < n
  · by_cases hl : isLe (T p)
    · rw [lxK_let h hl]
      have := wdK_le T p (lxE T n p)
      split <;> omega
    · by_cases hd : isDi (T p)
      · rw [lxK_dig h hl hd]
        split <;> omega
      · rw [lxK_sgn h hl hd]
        by_cases g : isSg (T p)
        · rw [if_pos g]
          unfold isSg at g
          omega
        · rw [if_neg g]
          decide
  · rw [lxK_end h]
    decide
theorem lxK_21 {T : Nat → Nat} {n p : Nat} (h : lxK T n p = 21) : p < n ∧ ¬ isLe (T p) ∧ isDi (T p) ∧ lxE T n p - p ≤ 4 := by
  by_cases g : p < n
  · by_cases hl : isLe (T p)
    · rw [lxK_let g hl] at h
      have := wdK_le T p (lxE T n p)
      split at h <;> omega
    · by_cases hd : isDi (T p)
      · rw [lxK_dig g hl hd] at h
        refine ⟨g, hl, hd, ?_⟩
        split at h
        · omega
        · omega
      · rw [lxK_sgn g hl hd] at h
        by_cases z : isSg (T p)
        · rw [if_pos z] at h
          unfold isSg at z
          omega
        · rw [if_neg z] at h
          omega
  · rw [lxK_end g] at h
    omega
theorem lxK_20 {T : Nat → Nat} {n p : Nat} (h : lxK T n p ≤ 20) : p < n ∧ isLe (T p) ∧ lxE T n p - p ≤ 8 := by
  by_cases g : p < n
  · by_cases hl : isLe (T p)
    · rw [lxK_let g hl] at h
      refine ⟨g, hl, ?_⟩
      split at h <;> omega
    · by_cases hd : isDi (T p)
      · rw [lxK_dig g hl hd] at h
        split at h <;> omega
      · rw [lxK_sgn g hl hd] at h
        by_cases z : isSg (T p)
        · rw [if_pos z] at h
          unfold isSg at z
          omega
        · rw [if_neg z] at h
          omega
  · rw [lxK_end g] at h
    omega
theorem lxK_22 {T : Nat → Nat} {n p : Nat} : lxK T n p = 22 ↔ ¬ p < n := by
  constructor
  · intro h g
    by_cases hl : isLe (T p)
    · rw [lxK_let g hl] at h
      have := wdK_le T p (lxE T n p)
      split at h <;> omega
    · by_cases hd : isDi (T p)
      · rw [lxK_dig g hl hd] at h
        split at h <;> omega
      · rw [lxK_sgn g hl hd] at h
        by_cases z : isSg (T p)
        · rw [if_pos z] at h
          unfold isSg at z
          omega
        · rw [if_neg z] at h
          omega
  · exact lxK_end
theorem dig_all {T : Nat → Nat} {n p : Nat} (h : p < n) (hl : ¬ isLe (T p)) (hd : isDi (T p)) : ∀ k, k < lxE T n p - p → isDi (T (p + k)) := by
  intro k hk
  rw [lxE_dig h hl hd] at hk
  exact (lxTo_spec isDi T (Nat.le_of_lt h)).2.2.1 (p + k) (by omega) (by omega)
theorem let_all {T : Nat → Nat} {n p : Nat} (h : p < n) (hl : isLe (T p)) : ∀ k, k < lxE T n p - p → isLe (T (p + k)) := by
  intro k hk
  rw [lxE_let h hl] at hk
  exact (lxTo_spec isLe T (Nat.le_of_lt h)).2.2.1 (p + k) (by omega) (by omega)
theorem kK_yes {T : Nat → Nat} {n i : Nat} (h : i < lxN T n) : kK T n i = lxK T n (lxS T n i) := if_pos h
theorem kK_no {T : Nat → Nat} {n i : Nat} (h : ¬ i < lxN T n) : kK T n i = 22 := if_neg h
theorem kK_lt {T : Nat → Nat} {n i : Nat} : kK T n i < 64 := by
  by_cases h : i < lxN T n
  · rw [kK_yes h]; exact lxK_lt64 _ _ _
  · rw [kK_no h]; decide
theorem kK_sz {T : Nat → Nat} {n : Nat} : ∀ i, kK T n i ≠ 22 → i < lxN T n := fun i h => by
  rcases Classical.em (i < lxN T n) with z | z
  · exact z
  · exact absurd (kK_no z) h
theorem kW_lt {T : Nat → Nat} {n : Nat} : ∀ i, kK T n i = 21 → kW T n i < 10000 := fun i h => by
  have hs := kK_sz (T := T) (n := n) i (by omega)
  rw [kK_yes hs] at h
  obtain ⟨a1, a2, a3, a4⟩ := lxK_21 h
  have d := dig_all a1 a2 a3
  have l : num 10 (fun k => T (lxS T n i + k) - 48) (kL T n i) < 10 ^ kL T n i := num_lt (fun k hk => by
    have := d k hk
    have := this.2
    show T (lxS T n i + k) - 48 < 10
    omega)
  have p : 10 ^ kL T n i ≤ 10 ^ 4 := Nat.pow_le_pow_right (by decide) a4
  exact Nat.lt_of_lt_of_le l p
/-- what the last token is not was passed -/
theorem kK_next {T : Nat → Nat} {n i : Nat} (hi : i < lxN T n) (h4 : i < 400) (hk : inn0 (kK T n i)) : i + 1 < lxN T n := by
  obtain ⟨n1, n2, n3, n4⟩ := lxN_spec T n
  rcases Nat.lt_or_ge (i + 1) (lxN T n) with z | z
  · exact z
  · rcases n4 with g | g
    · omega
    · have e : lxN T n - 1 = i := by omega
      rw [e] at g
      rw [kK_yes hi] at hk
      rcases g with g | g
      · exact absurd g hk.1
      · exact absurd g hk.2
theorem kK_inn {T : Nat → Nat} {n i : Nat} (hi : i + 1 < lxN T n) : inn0 (kK T n i) := by
  obtain ⟨n1, n2, n3, n4⟩ := lxN_spec T n
  have g := n3 i hi
  rw [kK_yes (by omega)]
  exact ⟨fun z => g (Or.inl z), fun z => g (Or.inr z)⟩
theorem kS_step {T : Nat → Nat} {n i : Nat} (hi : i + 1 < lxN T n) : lxS T n i < lxS T n (i + 1) := by
  have g := (kK_inn hi).1
  rw [kK_yes (by omega)] at g
  have hp : lxS T n i < n := by
    rcases Classical.em (lxS T n i < n) with z | z
    · exact z
    · exact absurd (lxK_end z) g
  obtain ⟨b1, b2⟩ := lxS_le T n i
  obtain ⟨c1, c2, c3⟩ := lxE_le T b2
  have := c3 hp
  have := (lxTo_spec isBl T c2).1
  show lxS T n i < lxTo isBl T n (lxE T n (lxS T n i))
  omega
theorem kS_lt {T : Nat → Nat} {n j : Nat} : ∀ i, j < i → i < lxN T n → lxS T n j < lxS T n i
  | 0, h, _ => absurd h (Nat.not_lt_zero _)
  | i + 1, h, hi => by
    have s := kS_step hi
    rcases Nat.eq_or_lt_of_le (Nat.lt_succ_iff.mp h) with z | z
    · rw [z]; exact s
    · exact Nat.lt_trans (kS_lt i z (by omega)) s
theorem i64_inj {a b : Nat} (ha : a < 2 ^ 62) (hb : b < 2 ^ 62) : Int64.ofNat a = Int64.ofNat b ↔ a = b := by
  constructor
  · intro h
    have h := congrArg Int64.toInt h
    rw [Int64.toInt_ofNat_of_lt (by omega), Int64.toInt_ofNat_of_lt (by omega)] at h
    omega
  · intro h; rw [h]
/-- names by their numbers, whatever the base above 26 -/
theorem nam_inj {T : Nat → Nat} {n b a c : Nat} (hb : 27 ≤ b) (ha : kK T n a = 20) (hc : kK T n c = 20) : num b (fun i => T (lxS T n a + i) - 96) (kL T n a) = num b (fun i => T (lxS T n c + i) - 96) (kL T n c) ↔ kN T n a c := by
  have go : ∀ x, kK T n x = 20 → ∀ k, k < kL T n x → isLe (T (lxS T n x + k)) := fun x hx => by
    have hs := kK_sz (T := T) (n := n) x (by omega)
    rw [kK_yes hs] at hx
    obtain ⟨a1, a2, a3⟩ := lxK_20 (Nat.le_of_eq hx)
    exact let_all a1 a2
  have ga := go a ha
  have gc := go c hc
  constructor
  · intro h
    obtain ⟨q1, q2⟩ := num_inj1 (b := b) (fun i hi => by
      have := ga i hi
      obtain ⟨u1, u2⟩ := this
      constructor
      · show 0 < T (lxS T n a + i) - 96
        omega
      · show T (lxS T n a + i) - 96 < b
        omega) (fun i hi => by
      have := gc i hi
      obtain ⟨u1, u2⟩ := this
      constructor
      · show 0 < T (lxS T n c + i) - 96
        omega
      · show T (lxS T n c + i) - 96 < b
        omega) h
    refine ⟨q1, fun k hk => ?_⟩
    have e := q2 k hk
    have e : T (lxS T n a + k) - 96 = T (lxS T n c + k) - 96 := e
    obtain ⟨u1, u2⟩ := ga k hk
    obtain ⟨w1, w2⟩ := gc k (by omega)
    omega
  · rintro ⟨h1, h2⟩
    rw [← h1]
    exact num_congr (fun i hi => by
      show T (lxS T n a + i) - 96 = T (lxS T n c + i) - 96
      rw [h2 i hi])
theorem nam_lt {T : Nat → Nat} {n b a : Nat} (hb : 27 ≤ b) (hb2 : b ≤ 32) (ha : kK T n a = 20) : num b (fun i => T (lxS T n a + i) - 96) (kL T n a) < 2 ^ 62 := by
  have hs := kK_sz (T := T) (n := n) a (by omega)
  rw [kK_yes hs] at ha
  obtain ⟨a1, a2, a3⟩ := lxK_20 (Nat.le_of_eq ha)
  have l : num b (fun i => T (lxS T n a + i) - 96) (kL T n a) < b ^ kL T n a := num_lt (fun k hk => by
    obtain ⟨u1, u2⟩ := let_all a1 a2 k hk
    show T (lxS T n a + k) - 96 < b
    omega)
  have p1 : b ^ kL T n a ≤ b ^ 8 := Nat.pow_le_pow_right (by omega) a3
  have p2 : b ^ 8 ≤ 32 ^ 8 := Nat.pow_le_pow_left hb2 8
  have p3 : 32 ^ 8 < 2 ^ 62 := by decide
  omega
theorem tokC_of {J : Nat → Nat → Int32} {M : Nat → Nat → Int64} {B dx n : Nat} {T : Nat → Nat} (h1 : J (B + (dx + 1)) 3 = nI (lxN T n)) (h2 : tkC J M B dx T n (lxN T n)) : tokC J M B dx (kK T n) (kW T n) (lxN T n) := by
  refine ⟨h1, (lxN_spec T n).2.1, fun i hi => ?_, fun i hi => kK_no (by omega)⟩
  obtain ⟨a1, a2, a3⟩ := h2 i hi
  refine ⟨by rw [kK_yes hi]; exact a1, kK_lt, fun hk => ⟨?_, kW_lt i hk⟩⟩
  rw [kK_yes hi] at hk
  obtain ⟨b1, b2, b3, b4⟩ := lxK_21 hk
  rw [a3, cdL_num (dig_all b1 b2 b3)]
  rfl
theorem namC_of {J : Nat → Nat → Int32} {M : Nat → Nat → Int64} {B dx n : Nat} {T : Nat → Nat} (h2 : tkC J M B dx T n (lxN T n)) : ∀ a b, a < lxN T n → b < lxN T n → kK T n a = 20 → kK T n b = 20 → (M (B + (dx + 3)) a = M (B + (dx + 3)) b ↔ kN T n a b) := by
  have go : ∀ x, x < lxN T n → kK T n x = 20 → M (B + (dx + 3)) x = Int64.ofNat (num 32 (fun i => T (lxS T n x + i) - 96) (kL T n x)) := fun x hx hk => by
    rw [kK_yes hx] at hk
    obtain ⟨a1, a2, a3⟩ := lxK_20 (Nat.le_of_eq hk)
    rw [(h2 x hx).2.2, cdL_nam (let_all a1 a2)]
    rfl
  intro a b ha hb ka kb
  rw [go a ha ka, go b hb kb, i64_inj (nam_lt (by decide) (by decide) ka) (nam_lt (by decide) (by decide) kb)]
  exact nam_inj (by decide) ka kb
