/-! read: the form of what is spelt -/
def pr {α : Type} (q : Nat × Nat × α) : Nat × Nat := (q.1, q.2.1)
theorem pr_bind {α β : Type} {d : β} {q : Nat × Nat × α} {f : Nat → α → Nat × Nat × β} {g : Nat → Nat × Nat} (h : ∀ i a, pr (f i a) = g i) : pr (sBind d q f) = thn (pr q) g := by
  by_cases e : q.1 = 0
  · rw [sBind_yes e, thn_yes (q := pr q) e]
    exact h _ _
  · rw [sBind_no e, thn_no (q := pr q) e]
    rfl
theorem pr_adv {α : Type} {i : Nat} {d c : α} : pr (sAdv i d c) = adv i := by
  unfold sAdv adv
  split <;> rfl
theorem pr_must {K : Nat → Nat} {k i : Nat} : pr (sMust K k i) = must2 K k i := by
  unfold sMust must2
  split
  · exact pr_adv
  · rfl
theorem pr_leaf {K W : Nat → Nat} {i : Nat} : pr (sLeaf K W i) = leaf2 K i := by
  unfold sLeaf leaf2
  by_cases g : K i = 21
  · rw [if_pos g, if_pos (Or.inl g)]
    exact pr_adv
  · rw [if_neg g]
    by_cases g2 : 11 ≤ K i ∧ K i ≤ 19
    · rw [if_pos g2, if_pos (Or.inr g2)]
      exact pr_adv
    · rw [if_neg g2, if_neg (fun z => z.elim g g2)]
      rfl
theorem pr_tl {K : Nat → Nat} {U : Nat → sR} {V : Nat → Nat × Nat} (hU : ∀ i, pr (U i) = V i) : ∀ n j S P, pr (sTl U K n j S P) = tl2 V K n j
  | 0, j, S, P => rfl
  | n + 1, j, S, P => by
    rw [sTl, tl2]
    by_cases g : sOp (K j) = 0
    · rw [if_pos g, if_pos g]
      rfl
    · rw [if_neg g, if_neg g, pr_bind (g := fun j1 => thn (V j1) (tl2 V K n)), pr_adv]
      intro j1 _
      rw [pr_bind (g := tl2 V K n), hU]
      intro j2 c
      split
      · exact pr_tl hU n _ _ _
      · exact pr_tl hU n _ _ _
theorem pr_ex {K : Nat → Nat} {U : Nat → sR} {V : Nat → Nat × Nat} (hU : ∀ i, pr (U i) = V i) (i : Nat) : pr (sEx U K i) = ex2 V K i := by
  unfold sEx ex2
  rw [pr_bind (g := tl2 V K 400), hU]
  intro j c
  exact pr_tl hU 400 j none c
theorem pr_un {K W : Nat → Nat} : ∀ m i, pr (sUn K W m i) = un2 K m i
  | 0, i => by
    rw [sUn, un2]
    split
    · rfl
    · exact pr_leaf
  | m + 1, i => by
    rw [sUn, un2]
    by_cases g : K i = 40
    · rw [if_pos g, if_pos g, pr_bind (g := fun j => thn (ex2 (un2 K m) K j) (must2 K 41)), pr_adv]
      intro j _
      rw [pr_bind (g := must2 K 41), pr_ex (pr_un m)]
      intro j c
      rw [pr_bind (g := fun j => (0, j)), pr_must, thn_id]
      intro j _
      rfl
    · rw [if_neg g, if_neg g]
      exact pr_leaf
theorem pr_e {K W : Nat → Nat} (i : Nat) : pr (sE K W i) = xe2 K i := pr_ex (pr_un 6) i
theorem pr_if {K W : Nat → Nat} (i : Nat) : pr (sIf K W i) = if2 K i := by
  unfold sIf if2
  refine (pr_bind fun i _ => ?_).trans (by rw [pr_adv])
  refine (pr_bind fun i _ => ?_).trans (by rw [pr_e])
  refine (pr_bind fun i _ => ?_).trans (by rw [pr_must])
  refine (pr_bind fun i _ => ?_).trans (by rw [pr_e])
  refine (pr_bind fun i _ => ?_).trans (by rw [pr_must])
  refine (pr_bind fun i _ => ?_).trans (by rw [pr_e])
  refine (pr_bind (g := fun j => (0, j)) fun i _ => ?_).trans (by rw [pr_must, thn_id])
  rfl
theorem pr_lw {K W : Nat → Nat} : ∀ n i, pr (sLw K W n i) = lw2 K n i
  | 0, i => by
    rw [sLw, lw2]
    split
    · rfl
    · rw [pr_bind (g := fun j => (0, j)), pr_e, thn_id]
      intro j c
      rfl
  | n + 1, i => by
    rw [sLw, lw2]
    by_cases g : K i = 8
    · rw [if_pos g, if_pos g, pr_bind (g := lw2 K n), pr_if]
      intro j b
      rw [pr_bind (g := fun j => (0, j)), pr_lw n, thn_id]
      intro j bs
      rfl
    · rw [if_neg g, if_neg g, pr_bind (g := fun j => (0, j)), pr_e, thn_id]
      intro j c
      rfl
/-- a token a code, at most -/
def lenOK (i : Nat) (q : sR) : Prop := q.1 = 0 → q.2.2.length + i ≤ q.2.1
theorem adv_0 {α : Type} {i : Nat} {d c : α} (h : (sAdv i d c).1 = 0) : sAdv i d c = (0, i + 1, c) ∧ i < 400 := by
  unfold sAdv at h ⊢
  by_cases g : 400 ≤ i
  · rw [if_pos g] at h
    cases h
  · rw [if_neg g]
    exact ⟨rfl, by omega⟩
theorem len_leaf {K W : Nat → Nat} {i : Nat} : lenOK i (sLeaf K W i) := by
  intro h
  unfold sLeaf at h ⊢
  by_cases g : K i = 21
  · rw [if_pos g] at h ⊢
    rw [(adv_0 h).1]
    show 1 + i ≤ i + 1
    omega
  · rw [if_neg g] at h ⊢
    by_cases g2 : 11 ≤ K i ∧ K i ≤ 19
    · rw [if_pos g2] at h ⊢
      rw [(adv_0 h).1]
      show 1 + i ≤ i + 1
      omega
    · rw [if_neg g2] at h
      cases h
theorem len_join {S : Option (List (Nat × Nat) × Nat)} {P : List (Nat × Nat)} : (sJoin S P).length = (match S with
    | none => 0
    | some q => q.1.length + 1) + P.length := by
  cases S with
  | none =>
    show P.length = 0 + P.length
    omega
  | some q =>
    show (q.1 ++ P ++ [(q.2, 0)]).length = q.1.length + 1 + P.length
    rw [List.length_append, List.length_append]
    show q.1.length + P.length + 1 = _
    omega
theorem len_tl {K : Nat → Nat} {U : Nat → sR} (hU : ∀ i, lenOK i (U i)) : ∀ n j S P, (sTl U K n j S P).1 = 0 → (sTl U K n j S P).2.2.length + j ≤ (sTl U K n j S P).2.1 + (sJoin S P).length
  | 0, j, S, P, _ => by
    show (sJoin S P).length + j ≤ j + (sJoin S P).length
    omega
  | n + 1, j, S, P, h => by
    rw [sTl] at h ⊢
    by_cases g : sOp (K j) = 0
    · rw [if_pos g]
      show (sJoin S P).length + j ≤ j + (sJoin S P).length
      omega
    · rw [if_neg g] at h ⊢
      by_cases e1 : (sAdv j () ()).1 = 0
      · rw [sBind_yes e1] at h ⊢
        rw [(adv_0 e1).1] at h ⊢
        by_cases e2 : (U (j + 1)).1 = 0
        · have l := hU (j + 1) e2
          have h : (sBind [] (U (j + 1)) fun j2 c => if 4 ≤ sOp (K j) then sTl U K n j2 S (P ++ c ++ [(sOp (K j), 0)]) else sTl U K n j2 (some (sJoin S P, sOp (K j))) c).1 = 0 := h
          show (sBind [] (U (j + 1)) fun j2 c => if 4 ≤ sOp (K j) then sTl U K n j2 S (P ++ c ++ [(sOp (K j), 0)]) else sTl U K n j2 (some (sJoin S P, sOp (K j))) c).2.2.length + j ≤ (sBind [] (U (j + 1)) fun j2 c => if 4 ≤ sOp (K j) then sTl U K n j2 S (P ++ c ++ [(sOp (K j), 0)]) else sTl U K n j2 (some (sJoin S P, sOp (K j))) c).2.1 + (sJoin S P).length
          rw [sBind_yes e2] at h ⊢
          by_cases g4 : 4 ≤ sOp (K j)
          · rw [if_pos g4] at h ⊢
            have i1 := len_tl hU n _ _ _ h
            rw [len_join, List.length_append, List.length_append] at i1
            rw [len_join]
            have l1 : [(sOp (K j), 0)].length = 1 := rfl
            omega
          · rw [if_neg g4] at h ⊢
            have i1 := len_tl hU n _ _ _ h
            rw [len_join] at i1
            have i1 : (sTl U K n (U (j + 1)).2.1 (some (sJoin S P, sOp (K j))) (U (j + 1)).2.2).2.2.length + (U (j + 1)).2.1 ≤ (sTl U K n (U (j + 1)).2.1 (some (sJoin S P, sOp (K j))) (U (j + 1)).2.2).2.1 + ((sJoin S P).length + 1 + (U (j + 1)).2.2.length) := i1
            omega
        · have h : (sBind [] (U (j + 1)) fun j2 c => if 4 ≤ sOp (K j) then sTl U K n j2 S (P ++ c ++ [(sOp (K j), 0)]) else sTl U K n j2 (some (sJoin S P, sOp (K j))) c).1 = 0 := h
          rw [sBind_no e2] at h
          exact absurd h e2
      · rw [sBind_no e1] at h
        exact absurd h e1
theorem len_ex {K : Nat → Nat} {U : Nat → sR} (hU : ∀ i, lenOK i (U i)) : ∀ i, lenOK i (sEx U K i) := by
  intro i h
  unfold sEx at h ⊢
  by_cases e : (U i).1 = 0
  · rw [sBind_yes e] at h ⊢
    have l := hU i e
    have t := len_tl hU 400 _ none _ h
    have t : (sTl U K 400 (U i).2.1 none (U i).2.2).2.2.length + (U i).2.1 ≤ (sTl U K 400 (U i).2.1 none (U i).2.2).2.1 + (U i).2.2.length := t
    omega
  · rw [sBind_no e] at h
    exact absurd h e
theorem len_un {K W : Nat → Nat} : ∀ m i, lenOK i (sUn K W m i)
  | 0, i => by
    rw [sUn]
    split
    · intro h
      cases h
    · exact len_leaf
  | m + 1, i => by
    rw [sUn]
    by_cases g : K i = 40
    · rw [if_pos g]
      intro h
      by_cases e1 : (sAdv i () ()).1 = 0
      · rw [sBind_yes e1] at h ⊢
        rw [(adv_0 e1).1] at h ⊢
        have h : (sBind [] (sEx (sUn K W m) K (i + 1)) fun j c => sBind [] (sMust K 41 j) fun j _ => (0, j, c)).1 = 0 := h
        show (sBind [] (sEx (sUn K W m) K (i + 1)) fun j c => sBind [] (sMust K 41 j) fun j _ => (0, j, c)).2.2.length + i ≤ (sBind [] (sEx (sUn K W m) K (i + 1)) fun j c => sBind [] (sMust K 41 j) fun j _ => (0, j, c)).2.1
        by_cases e2 : (sEx (sUn K W m) K (i + 1)).1 = 0
        · have l := len_ex (len_un m) (i + 1) e2
          rw [sBind_yes e2] at h ⊢
          by_cases e3 : (sMust K 41 (sEx (sUn K W m) K (i + 1)).2.1).1 = 0
          · rw [sBind_yes e3]
            have m1 := must_ok (K := K) (k := 41) (i := (sEx (sUn K W m) K (i + 1)).2.1) (by rw [← pr_must]; exact e3)
            have m2 : (sMust K 41 (sEx (sUn K W m) K (i + 1)).2.1).2.1 = (sEx (sUn K W m) K (i + 1)).2.1 + 1 := by
              have := m1.2.1
              rw [← pr_must] at this
              exact this
            show (sEx (sUn K W m) K (i + 1)).2.2.length + i ≤ (sMust K 41 (sEx (sUn K W m) K (i + 1)).2.1).2.1
            omega
          · rw [sBind_no e3] at h
            exact absurd h e3
        · rw [sBind_no e2] at h
          exact absurd h e2
      · rw [sBind_no e1] at h
        exact absurd h e1
    · rw [if_neg g]
      exact len_leaf
theorem len_e {K W : Nat → Nat} : ∀ i, lenOK i (sE K W i) := len_ex (len_un 6)
