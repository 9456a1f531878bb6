--deps: 54.lazy 54.mem 55.mem2 56.rmem 57.spec 58.inv 59.keep 60.fin 61.ops2 62.ops3 63.tape 64.told 65.ev 66.law 67.expr
/-! code that never looks below its pile -/
def dpt : List (Nat × Nat) → Nat → Option Nat
  | [], n => some n
  | q :: c, n => if q.1 < 2 then dpt c (n + 1) else if 2 ≤ n then dpt c (n - 1) else none
theorem dpt_app (d : List (Nat × Nat)) : ∀ (c : List (Nat × Nat)) (n : Nat), dpt (c ++ d) n = (dpt c n).bind (dpt d)
  | [], n => rfl
  | q :: c, n => by
    rw [List.cons_append, dpt, dpt]
    split
    · exact dpt_app d c _
    · split
      · exact dpt_app d c _
      · rfl
def cdOK (q : Nat × Nat) : Prop := q.1 ≤ 5 ∧ (q.1 = 1 → q.2 < 9) ∧ q.2 < 10000
def goodC (c : List (Nat × Nat)) (m : Nat) : Prop := c.length ≤ m ∧ (∀ n, dpt c n = some (n + 1)) ∧ ∀ q ∈ c, cdOK q
theorem goodC.op {c d : List (Nat × Nat)} {m1 m2 k : Nat} (h1 : goodC c m1) (h2 : goodC d m2) (hk : 2 ≤ k) (hk5 : k ≤ 5) : goodC (c ++ d ++ [(k, 0)]) (m1 + m2 + 1) := by
  refine ⟨?_, fun n => ?_, fun q hq => ?_⟩
  · simp only [List.length_append, List.length_cons, List.length_nil]
    have := h1.1
    have := h2.1
    omega
  · rw [dpt_app, dpt_app, h1.2.1]
    show ((dpt d (n + 1)).bind (dpt [(k, 0)])) = _
    rw [h2.2.1]
    show dpt [(k, 0)] (n + 1 + 1) = _
    rw [dpt, if_neg (by omega), if_pos (by omega)]
    rfl
  · rcases List.mem_append.mp hq with hq | hq
    · rcases List.mem_append.mp hq with hq | hq
      · exact h1.2.2 q hq
      · exact h2.2.2 q hq
    · rw [List.mem_singleton] at hq
      subst hq
      exact ⟨hk5, fun z => by omega, by show 0 < 10000; omega⟩
theorem goodC.mono {c : List (Nat × Nat)} {m m' : Nat} (h : goodC c m) (hm : m ≤ m') : goodC c m' := ⟨Nat.le_trans h.1 hm, h.2⟩
def goodS (S : Option (List (Nat × Nat) × Nat)) (m : Nat) : Prop := match S with
  | none => True
  | some q => goodC q.1 m ∧ (q.2 = 2 ∨ q.2 = 3)
def sCnt (S : Option (List (Nat × Nat) × Nat)) : Nat := match S with
  | none => 0
  | some q => q.1.length + 1
theorem sTl_good {U : Nat → sR} {K : Nat → Nat} (hU : ∀ i j c, U i = (0, j, c) → i < j ∧ goodC c (j - i)) : ∀ n j S P j' c, sTl U K n j S P = (0, j', c) → ∀ i m, i ≤ j → sCnt S + P.length ≤ j - i → goodS S m → goodC P m → j ≤ j' ∧ goodC c (j' - i) := by
  intro n
  have fin : ∀ S (P : List (Nat × Nat)) i j m, sCnt S + P.length ≤ j - i → goodS S m → goodC P m → goodC (sJoin S P) (j - i) := by
    intro S P i j m h1 h2 h3
    cases S with
    | none => exact ⟨by simpa [sCnt, sJoin] using h1, h3.2⟩
    | some q =>
      have := goodC.op h2.1 h3 (k := q.2) (by have := h2.2; omega) (by have := h2.2; omega)
      refine ⟨?_, this.2⟩
      simp only [sJoin, List.length_append, List.length_cons, List.length_nil]
      simp only [sCnt] at h1
      omega
  induction n with
  | zero =>
    intro j S P j' c h i m h1 h2 h3 h4
    cases h
    exact ⟨Nat.le_refl _, fin S P i j m h2 h3 h4⟩
  | succ n ih =>
    intro j S P j' c h i m h1 h2 h3 h4
    rw [sTl] at h
    split at h
    · cases h
      exact ⟨Nat.le_refl _, fin S P i j m h2 h3 h4⟩
    · rename_i g
      obtain ⟨e1, e2⟩ := sBind_ok h
      obtain ⟨a1, a2, -⟩ := sAdv_ok (pr3 e1)
      obtain ⟨e3, e4⟩ := sBind_ok e2
      have e3' := pr3 e3
      rw [a2] at e3' e4
      obtain ⟨b0, b1⟩ := hU _ _ _ e3'
      generalize (U (j + 1)).2.1 = j2 at b0 b1 e4
      generalize (U (j + 1)).2.2 = c2 at b1 e4
      have h5 : sOp (K j) ≤ 5 ∧ 2 ≤ sOp (K j) := by
        unfold sOp at g ⊢
        split <;> rename_i z <;> try omega
        split <;> rename_i z2 <;> try omega
        split <;> rename_i z3 <;> try omega
        split <;> rename_i z4 <;> try omega
        rw [if_neg z, if_neg z2, if_neg z3, if_neg z4] at g
        exact absurd rfl g
      have bl := b1.1
      split at e4
      · have r := ih _ _ _ _ _ e4 i (m + (j2 - (j + 1)) + 1) (by omega) (by simp only [List.length_append, List.length_cons, List.length_nil]; omega) (by
          cases S with
          | none => trivial
          | some q => exact ⟨h3.1.mono (by omega), h3.2⟩) (h4.op b1 (by omega) (by omega))
        exact ⟨by omega, r.2⟩
      · have f := fin S P i j m h2 h3 h4
        have r := ih _ _ _ _ _ e4 i ((j - i) + (j2 - (j + 1))) (by omega) (by have := f.1; simp only [sCnt]; omega) (show goodS (some (sJoin S P, sOp (K j))) _ from ⟨f.mono (by omega), by show sOp (K j) = 2 ∨ sOp (K j) = 3; omega⟩) (b1.mono (by omega))
        exact ⟨by omega, r.2⟩
theorem sEx_good {U : Nat → sR} {K : Nat → Nat} (hU : ∀ i j c, U i = (0, j, c) → i < j ∧ goodC c (j - i)) {i j : Nat} {c : List (Nat × Nat)} (h : sEx U K i = (0, j, c)) : i < j ∧ goodC c (j - i) := by
  obtain ⟨h1, h2⟩ := sBind_ok h
  obtain ⟨b0, b1⟩ := hU _ _ _ (pr3 h1)
  have r := sTl_good hU _ _ _ _ _ _ h2 i _ (by omega) (by show 0 + _ ≤ _; have := b1.1; omega) (show goodS none _ from trivial) b1
  exact ⟨by omega, r.2⟩
theorem sLeaf_good {K W : Nat → Nat} (hK : ∀ i, K i = 21 → W i < 10000) {i j : Nat} {c : List (Nat × Nat)} (h : sLeaf K W i = (0, j, c)) : i < j ∧ goodC c (j - i) := by
  unfold sLeaf at h
  split at h
  · rename_i q
    obtain ⟨a1, a2, a3⟩ := sAdv_ok h
    subst a2 a3
    refine ⟨by omega, by simp, fun n => rfl, fun q' hq => ?_⟩
    rw [List.mem_singleton] at hq
    subst hq
    exact ⟨Nat.zero_le _, fun z => absurd (show (0 : Nat) = 1 from z) (by decide), hK i q⟩
  · split at h
    · obtain ⟨a1, a2, a3⟩ := sAdv_ok h
      subst a2 a3
      refine ⟨by omega, by simp, fun n => rfl, fun q' hq => ?_⟩
      rw [List.mem_singleton] at hq
      subst hq
      exact ⟨by show 1 ≤ 5; omega, fun z => by show K i - 11 < 9; omega, by show K i - 11 < 10000; omega⟩
    · cases h
theorem sUn_good {K W : Nat → Nat} (hK : ∀ i, K i = 21 → W i < 10000) : ∀ m i j c, sUn K W m i = (0, j, c) → i < j ∧ goodC c (j - i) := by
  intro m
  induction m with
  | zero =>
    intro i j c h
    rw [sUn] at h
    split at h
    · cases h
    · exact sLeaf_good hK h
  | succ m ih =>
    intro i j c h
    rw [sUn] at h
    split at h
    · obtain ⟨h1, h2⟩ := sBind_ok h
      obtain ⟨a1, a2, -⟩ := sAdv_ok (pr3 h1)
      obtain ⟨h3, h4⟩ := sBind_ok h2
      have h3' := pr3 h3
      rw [a2] at h3'
      obtain ⟨b0, b1⟩ := sEx_good ih h3'
      obtain ⟨h5, h6⟩ := sBind_ok h4
      obtain ⟨c1, c2, c3⟩ := sMust_ok (pr3 h5)
      rw [a2] at h6 c3
      cases h6
      rw [c3]
      exact ⟨by omega, b1.mono (by omega)⟩
    · exact sLeaf_good hK h
theorem sE_good {K W : Nat → Nat} (hK : ∀ i, K i = 21 → W i < 10000) {i j : Nat} {c : List (Nat × Nat)} (h : sE K W i = (0, j, c)) : i < j ∧ goodC c (j - i) := sEx_good (sUn_good hK 6) h
theorem tokC.int {I : Nat → Nat → Int32} {L : Nat → Nat → Int64} {B tx : Nat} {K W : Nat → Nat} {sz : Nat} (h : tokC I L B tx K W sz) (i : Nat) (hi : K i = 21) : W i < 10000 := by
  rcases Nat.lt_or_ge i sz with q | q
  · exact ((h.2.2.1 i q).2.2 hi).2
  · rw [h.2.2.2 i q] at hi; omega
