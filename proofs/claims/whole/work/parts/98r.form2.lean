/-! read: what a well-formed tell looks like -/
theorem seats_ok {K : Nat → Nat} : ∀ n i, (seats2 K n i).1 = 0 → (∀ k, i ≤ k → k < (seats2 K n i).2 → K k = 21) ∧ K (seats2 K n i).2 ≠ 21 ∧ i ≤ (seats2 K n i).2 ∧ (seats2 K n i).2 ≤ i + n
  | 0, i, h => by
    rw [seats2] at h ⊢
    by_cases g : K i = 21
    · rw [if_pos g] at h
      cases h
    · rw [if_neg g]
      exact ⟨fun k k1 k2 => absurd k2 (by have k2 : k < i := k2; omega), g, Nat.le_refl _, Nat.le_refl _⟩
  | n + 1, i, h => by
    rw [seats2] at h ⊢
    by_cases g : K i = 21
    · rw [if_pos g] at h ⊢
      obtain ⟨a1, a2, a3⟩ := thn_ok h
      obtain ⟨b1, b2⟩ := adv_lt a1
      rw [a3]
      rw [b1] at a2 ⊢
      obtain ⟨c1, c2, c3, c4⟩ := seats_ok n (i + 1) a2
      refine ⟨fun k k1 k2 => ?_, c2, by omega, by omega⟩
      rcases Nat.eq_or_lt_of_le k1 with z | z
      · rw [← z]; exact g
      · exact c1 k z k2
    · rw [if_neg g]
      exact ⟨fun k k1 k2 => absurd k2 (by have k2 : k < i := k2; omega), g, Nat.le_refl _, by show i ≤ i + (n + 1); omega⟩
/-- a tell from i, its semicolon at s -/
def tlF (K : Nat → Nat) (nch nrow i s : Nat) : Prop := K i ≤ 7 ∧ ¬ (K i = 1 ∧ 20 ≤ nch) ∧ ¬ (K i = 2 ∧ 4 ≤ nrow) ∧ i < s ∧ s < 400 ∧ K s = 59 ∧ (∀ k, i < k → k < s → inn (K k)) ∧ (K i = 0 ∨ K i = 7 → K (i + 1) = 21 ∧ s = i + 2) ∧ (K i = 1 → K (i + 1) = 21 ∧ K (i + 2) = 21 ∧ K (i + 3) = 21 ∧ s = i + 4) ∧ (K i = 2 → K (i + 1) = 20 ∧ K (i + 2) = 21 ∧ (∀ k, i + 3 ≤ k → k < s → K k = 21) ∧ i + 3 ≤ s ∧ s ≤ i + 10) ∧ (3 ≤ K i → K i ≤ 6 → K (i + 1) = 61 ∧ (lw2 K 4 (i + 2)).1 = 0 ∧ (lw2 K 4 (i + 2)).2 = s)
theorem tell_form {K : Nat → Nat} {nch nrow i : Nat} (h : (tell2 K nch nrow i).1 = 0) : ∃ s, (tell2 K nch nrow i) = (0, s + 1) ∧ tlF K nch nrow i s := by
  unfold tell2 at h ⊢
  by_cases g : (K i = 1 ∧ 20 ≤ nch) ∨ (K i = 2 ∧ 4 ≤ nrow)
  · rw [if_pos g] at h
    cases h
  · rw [if_neg g] at h ⊢
    by_cases g2 : 7 < K i
    · rw [if_pos g2] at h
      cases h
    · rw [if_neg g2] at h ⊢
      obtain ⟨a1, a2, a3⟩ := thn_ok h
      obtain ⟨b1, b2⟩ := adv_lt a1
      rw [a3]
      rw [b1] at a2 ⊢
      obtain ⟨c1, c2, c3⟩ := thn_ok a2
      rw [c3]
      obtain ⟨d1, d2, d3, d4⟩ := must_ok c2
      rw [d4]
      have sp := spn_body (K := K) (K i) (i + 1) (by omega)
      refine ⟨_, rfl, by omega, fun z => g (Or.inl z), fun z => g (Or.inr z), ?_, d3, d1, fun k k1 k2 => sp.2.2.2 k (by omega) k2, fun z => ?_, fun z => ?_, fun z => ?_, fun z1 z2 => ?_⟩
      · have := sp.2.1; omega
      · have e : body2 K (K i) (i + 1) = num2 K 1 (i + 1) := by unfold body2; rw [if_neg (by omega), if_neg (by omega), if_neg (by omega)]
        rw [e, num_1] at c1 ⊢
        obtain ⟨m1, m2, m3, m4⟩ := must_ok c1
        exact ⟨m1, by rw [m2]⟩
      · have e : body2 K (K i) (i + 1) = num2 K 3 (i + 1) := by unfold body2; rw [if_neg (by omega), if_neg (by omega), if_pos z]
        rw [e] at c1 ⊢
        show _ ∧ _ ∧ _ ∧ (thn (must2 K 21 (i + 1)) (num2 K 2)).2 = _
        have c1 : (thn (must2 K 21 (i + 1)) (num2 K 2)).1 = 0 := c1
        obtain ⟨n1, n2, n3⟩ := thn_ok c1
        obtain ⟨m1, m2, m3, m4⟩ := must_ok n1
        rw [n3]
        rw [m2] at n2 ⊢
        have n2 : (thn (must2 K 21 (i + 1 + 1)) (num2 K 1)).1 = 0 := n2
        show _ ∧ _ ∧ _ ∧ (thn (must2 K 21 (i + 1 + 1)) (num2 K 1)).2 = _
        obtain ⟨n1', n2', n3'⟩ := thn_ok n2
        obtain ⟨m1', m2', m3', m4'⟩ := must_ok n1'
        rw [n3']
        rw [m2', num_1] at n2' ⊢
        obtain ⟨m1'', m2'', m3'', m4''⟩ := must_ok n2'
        exact ⟨m1, m1', m1'', m2''⟩
      · have e : body2 K (K i) (i + 1) = row2 K (i + 1) := by unfold body2; rw [if_pos z]
        rw [e] at c1 ⊢
        have c1 : (thn (must2 K 20 (i + 1)) fun i => thn (must2 K 21 i) (seats2 K 7)).1 = 0 := c1
        show _ ∧ _ ∧ (∀ k, _ → k < (thn (must2 K 20 (i + 1)) fun i => thn (must2 K 21 i) (seats2 K 7)).2 → _) ∧ _ ≤ (thn (must2 K 20 (i + 1)) fun i => thn (must2 K 21 i) (seats2 K 7)).2 ∧ (thn (must2 K 20 (i + 1)) fun i => thn (must2 K 21 i) (seats2 K 7)).2 ≤ _
        obtain ⟨n1, n2, n3⟩ := thn_ok c1
        obtain ⟨m1, m2, m3, m4⟩ := must_ok n1
        rw [n3]
        rw [m2] at n2 ⊢
        obtain ⟨n1', n2', n3'⟩ := thn_ok n2
        obtain ⟨m1', m2', m3', m4'⟩ := must_ok n1'
        rw [n3']
        rw [m2'] at n2' ⊢
        obtain ⟨s1, s2, s3, s4⟩ := seats_ok 7 _ n2'
        exact ⟨m1, m1', s1, s3, by omega⟩
      · have e : body2 K (K i) (i + 1) = thn (must2 K 61 (i + 1)) (lw2 K 4) := by unfold body2; rw [if_neg (by omega), if_pos ⟨z1, z2⟩]
        rw [e] at c1 ⊢
        obtain ⟨n1, n2, n3⟩ := thn_ok c1
        obtain ⟨m1, m2, m3, m4⟩ := must_ok n1
        rw [n3]
        rw [m2] at n2 ⊢
        exact ⟨m1, n2, rfl⟩
def nmOK (K : Nat → Nat) (sz : Nat) (A : Nat → Nat) : Prop := ∀ o, o < A 2 → A (40 + o) < sz ∧ K (A (40 + o)) = 20
def lnOK (A : Nat → Nat) : Prop := ∀ r, r < A 2 → 1 ≤ A (30 + r)
theorem mSeats_ok {K W : Nat → Nat} {r : Nat} (hr : r < 4) : ∀ n i (A : Nat → Nat), mOK A → r < A 2 → A (30 + r) + n ≤ 8 → (mSeats K W r n i A).1 = 0 → mOK (mSeats K W r n i A).2.2 ∧ (mSeats K W r n i A).2.2 2 = A 2 ∧ (∀ o, o < 10 → (mSeats K W r n i A).2.2 (40 + o) = A (40 + o)) ∧ (∀ q, q < 10 → q ≠ r → (mSeats K W r n i A).2.2 (30 + q) = A (30 + q)) ∧ A (30 + r) ≤ (mSeats K W r n i A).2.2 (30 + r) ∧ i ≤ (mSeats K W r n i A).2.1 ∧ (∀ k, i ≤ k → k < (mSeats K W r n i A).2.1 → K k = 21) ∧ (∀ k, 100 ≤ k → (mSeats K W r n i A).2.2 k = A k) ∧ (K i = 21 → 0 < n → A (30 + r) < (mSeats K W r n i A).2.2 (30 + r)) := by
  intro n
  induction n with
  | zero =>
    intro i A hA h2 h8 h
    exact ⟨hA, rfl, fun _ _ => rfl, fun _ _ _ => rfl, Nat.le_refl _, Nat.le_refl _, fun k k1 k2 => absurd k2 (by have k2 : k < i := k2; omega), fun _ _ => rfl, fun _ z => absurd z (Nat.lt_irrefl _)⟩
  | succ n ih =>
    intro i A hA h2 h8 h
    by_cases g : K i = 21
    · rw [mSeats_1 g] at h ⊢
      by_cases g3 : W i ≤ 3
      · rw [mCol_y g3, sBind_yes rfl] at h ⊢
        have h : (mSeats K W r n (i + 1) (fUp (fUp (fUp A 1 (max (A 1) (W i))) (50 + (r * 8 + fUp A 1 (max (A 1) (W i)) (30 + r))) (W i)) (30 + r) (fUp A 1 (max (A 1) (W i)) (30 + r) + 1))).1 = 0 := h
        have hA1 := mOK_col hA g3
        have e30 : fUp A 1 (max (A 1) (W i)) (30 + r) = A (30 + r) := fUp_ne (by omega)
        have hA2 := mOK_seat (v := W i) hA1 hr (by rw [fUp_ne (by omega)]; exact h2) (by omega) (by rw [fUp_at]; omega)
        obtain ⟨c1, c2, c3, c4, c5, c6, c7, c8, c9⟩ := ih (i + 1) _ hA2 (by rw [fUp_ne (by omega), fUp_ne (by omega), fUp_ne (by omega)]; exact h2) (by rw [fUp_at]; omega) h
        refine ⟨c1, c2.trans ?_, fun o ho => (c3 o ho).trans ?_, fun q hq hn => (c4 q hq hn).trans ?_, Nat.le_trans ?_ c5, Nat.le_trans (Nat.le_succ _) c6, fun k k1 k2 => ?_, fun k hk => (c8 k hk).trans ?_, fun _ _ => Nat.lt_of_lt_of_le ?_ c5⟩
        · rw [fUp_ne (by omega), fUp_ne (by omega), fUp_ne (by omega)]
        · rw [fUp_ne (by omega), fUp_ne (by omega), fUp_ne (by omega)]
        · rw [fUp_ne (by omega), fUp_ne (by omega), fUp_ne (by omega)]
        · rw [fUp_at]; omega
        · rcases Nat.eq_or_lt_of_le k1 with z | z
          · rw [← z]; exact g
          · exact c7 k z k2
        · rw [fUp_ne (by omega), fUp_ne (by omega), fUp_ne (by omega)]
        · rw [fUp_at]; omega
      · rw [mCol_n g3, sBind_no (by show 5 ≠ 0; decide)] at h
        cases h
    · rw [mSeats_0 g] at h ⊢
      exact ⟨hA, rfl, fun _ _ => rfl, fun _ _ _ => rfl, Nat.le_refl _, Nat.le_refl _, fun k k1 k2 => absurd k2 (by have k2 : k < i := k2; omega), fun _ _ => rfl, fun z => absurd z g⟩
theorem mOK_nc {A : Nat → Nat} {v : Nat} (h : mOK A) (h1 : 2 ≤ v) (h2 : v ≤ 4) : mOK (fUp A 0 v) := by
  obtain ⟨a1, a2, a3, a4, a5, a6, a7, a8, a9⟩ := h
  have e : ∀ k, k ≠ 0 → fUp A 0 v k = A k := fun k hk => fUp_ne hk
  refine ⟨by rw [fUp_at]; exact h1, by rw [fUp_at]; exact h2, by rw [e _ (by omega)]; exact a3, by rw [e _ (by omega)]; exact a4, by rw [e _ (by omega)]; exact a5, fun k hk => ?_, fun r hr => ?_, fun r i hr hi => ?_, fun r h1 hr => ?_⟩
  · rw [e _ (by omega), e _ (by omega)]; exact a6 k hk
  · rw [e _ (by omega)]; exact a7 r hr
  · rw [e _ (by omega)] at hi
    rw [e _ (by omega), e _ (by omega)]; exact a8 r i hr hi
  · rw [e _ (by omega)] at h1
    rw [e _ (by omega)]; exact a9 r h1 hr
theorem mOK_seed {A : Nat → Nat} {v : Nat} (h : mOK A) (h1 : v < 10000) : mOK (fUp A 3 v) := by
  obtain ⟨a1, a2, a3, a4, a5, a6, a7, a8, a9⟩ := h
  have e : ∀ k, k ≠ 3 → fUp A 3 v k = A k := fun k hk => fUp_ne hk
  refine ⟨by rw [e _ (by omega)]; exact a1, by rw [e _ (by omega)]; exact a2, by rw [e _ (by omega)]; exact a3, by rw [e _ (by omega)]; exact a4, by rw [fUp_at]; exact h1, fun k hk => ?_, fun r hr => ?_, fun r i hr hi => ?_, fun r h1 hr => ?_⟩
  · rw [e _ (by omega), e _ (by omega)]; exact a6 k hk
  · rw [e _ (by omega)]; exact a7 r hr
  · rw [e _ (by omega)] at hi
    rw [e _ (by omega), e _ (by omega)]; exact a8 r i hr hi
  · rw [e _ (by omega)] at h1
    rw [e _ (by omega)]; exact a9 r h1 hr
theorem mOK_law {A : Nat → Nat} {j v : Nat} (h : mOK A) (hj : 100 ≤ j) : mOK (fUp A j v) := by
  obtain ⟨a1, a2, a3, a4, a5, a6, a7, a8, a9⟩ := h
  have e : ∀ k, k < 100 → fUp A j v k = A k := fun k hk => fUp_ne (by omega)
  refine ⟨by rw [e _ (by omega)]; exact a1, by rw [e _ (by omega)]; exact a2, by rw [e _ (by omega)]; exact a3, by rw [e _ (by omega)]; exact a4, by rw [e _ (by omega)]; exact a5, fun k hk => ?_, fun r hr => ?_, fun r i hr hi => ?_, fun r h1 hr => ?_⟩
  · rw [e _ (by omega), e _ (by omega)]; exact a6 k hk
  · rw [e _ (by omega)]; exact a7 r hr
  · rw [e _ (by omega)] at hi
    have := a7 r hr
    rw [e _ (by omega), e _ (by omega)]; exact a8 r i hr hi
  · rw [e _ (by omega)] at h1
    rw [e _ (by omega)]; exact a9 r h1 hr
theorem mOK_child {A : Nat → Nat} {j v : Nat} (h : mOK A) (hj : j < 16) (hv : v ≤ A 1) : mOK (fUp A (10 + j) (v + 1)) := by
  obtain ⟨a1, a2, a3, a4, a5, a6, a7, a8, a9⟩ := h
  have e : ∀ k, k ≠ 10 + j → fUp A (10 + j) (v + 1) k = A k := fun k hk => fUp_ne hk
  refine ⟨by rw [e _ (by omega)]; exact a1, by rw [e _ (by omega)]; exact a2, by rw [e _ (by omega)]; exact a3, by rw [e _ (by omega)]; exact a4, by rw [e _ (by omega)]; exact a5, fun k hk => ?_, fun r hr => ?_, fun r i hr hi => ?_, fun r h1 hr => ?_⟩
  · rw [e 1 (by omega)]
    by_cases g : k = j
    · subst g
      rw [fUp_at]; omega
    · rw [e _ (by omega)]; exact a6 k hk
  · rw [e _ (by omega)]; exact a7 r hr
  · rw [e _ (by omega)] at hi
    rw [e _ (by omega), e _ (by omega)]; exact a8 r i hr hi
  · rw [e _ (by omega)] at h1
    rw [e _ (by omega)]; exact a9 r h1 hr
/-- what a tell leaves -/
def tlA (K : Nat → Nat) (sz nrow s i : Nat) (q : Nat × Nat × (Nat → Nat)) : Prop := q.1 = 0 → mOK q.2.2 ∧ q.2.2 2 = nrow + (if K i = 2 then 1 else 0) ∧ nmOK K sz q.2.2 ∧ lnOK q.2.2 ∧ i < q.2.1 ∧ q.2.1 ≤ s
theorem mTell_ok {K W : Nat → Nat} {N : Nat → Nat → Prop} {sz nch nrow i s : Nat} {A : Nat → Nat} (hF : tlF K nch nrow i s) (hz : ∀ i, K i ≠ 22 → i < sz) (hW : ∀ i, K i = 21 → W i < 10000) (hA : mOK A) (h2 : A 2 = nrow) (hn : nmOK K sz A) (hl : lnOK A) : tlA K sz nrow s i (mTell K W N i A) := by
  obtain ⟨f1, f2, f3, f4, f5, f6, f7, f8, f9, f10, f11⟩ := hF
  unfold mTell
  by_cases k0 : K i = 0
  · rw [if_pos k0]
    obtain ⟨e1, e2⟩ := f8 (Or.inl k0)
    by_cases g : 2 ≤ W (i + 1) ∧ W (i + 1) ≤ 4
    · rw [if_pos g]
      intro _
      refine ⟨mOK_nc hA g.1 g.2, ?_, fun o ho => ?_, fun r hr => ?_, by show i < i + 2; omega, by show i + 2 ≤ s; omega⟩
      · show fUp A 0 (W (i + 1)) 2 = _
        rw [fUp_ne (by omega), if_neg (by omega), h2]
        rfl
      · have ho : o < fUp A 0 (W (i + 1)) 2 := ho
        show fUp A 0 (W (i + 1)) (40 + o) < sz ∧ K (fUp A 0 (W (i + 1)) (40 + o)) = 20
        rw [fUp_ne (by omega)] at ho ⊢
        exact hn o ho
      · have hr : r < fUp A 0 (W (i + 1)) 2 := hr
        show 1 ≤ fUp A 0 (W (i + 1)) (30 + r)
        rw [fUp_ne (by omega)] at hr ⊢
        exact hl r hr
    · rw [if_neg g]
      intro z
      cases z
  · rw [if_neg k0]
    by_cases k1 : K i = 1
    · rw [if_pos k1]
      obtain ⟨e1, e2, e3, e4⟩ := f9 k1
      unfold mChild
      by_cases g0 : W (i + 1) ≤ 3
      · rw [mCol_y g0, sBind_yes rfl]
        have hA1 := mOK_col hA g0
        show tlA K sz nrow s i (sBind A (mCol W (i + 1 + 1) (fUp A 1 (max (A 1) (W (i + 1))))) _)
        by_cases g1 : W (i + 1 + 1) ≤ 3
        · rw [mCol_y g1, sBind_yes rfl]
          have hA2 := mOK_col hA1 g1
          show tlA K sz nrow s i (sBind A (mCol W (i + 1 + 1 + 1) (fUp (fUp A 1 (max (A 1) (W (i + 1)))) 1 (max (fUp A 1 (max (A 1) (W (i + 1))) 1) (W (i + 1 + 1))))) _)
          have ex : ∀ k, k ≠ 1 → fUp (fUp A 1 (max (A 1) (W (i + 1)))) 1 (max (fUp A 1 (max (A 1) (W (i + 1))) 1) (W (i + 1 + 1))) k = A k := fun k hk => by rw [fUp_ne hk, fUp_ne hk]
          generalize fUp (fUp A 1 (max (A 1) (W (i + 1)))) 1 (max (fUp A 1 (max (A 1) (W (i + 1))) 1) (W (i + 1 + 1))) = A2 at hA2 ex ⊢
          by_cases g2 : W (i + 1 + 1 + 1) ≤ 3
          · rw [mCol_y g2, sBind_yes rfl]
            have hA3 := mOK_col hA2 g2
            have hA4 := mOK_child (j := W (i + 1) * 4 + W (i + 1 + 1)) (v := W (i + 1 + 2)) hA3 (by omega) (by rw [fUp_at]; exact Nat.le_max_right _ _)
            intro _
            have ey : ∀ k, k ≠ 1 → (k < 10 ∨ 26 ≤ k) → fUp (fUp A2 1 (max (A2 1) (W (i + 1 + 1 + 1)))) (10 + (W (i + 1) * 4 + W (i + 1 + 1))) (W (i + 1 + 2) + 1) k = A k := fun k hk hk2 => by rw [fUp_ne (by omega), fUp_ne hk, ex k hk]
            refine ⟨hA4, (ey 2 (by omega) (by omega)).trans ?_, fun o ho => ?_, fun r hr => ?_, by show i < i + 1 + 1 + 1 + 1; omega, by show i + 1 + 1 + 1 + 1 ≤ s; omega⟩
            · rw [if_neg (by omega), h2]; rfl
            · have ho : o < fUp (fUp A2 1 (max (A2 1) (W (i + 1 + 1 + 1)))) (10 + (W (i + 1) * 4 + W (i + 1 + 1))) (W (i + 1 + 2) + 1) 2 := ho
              rw [ey 2 (by omega) (by omega)] at ho
              show fUp (fUp A2 1 (max (A2 1) (W (i + 1 + 1 + 1)))) (10 + (W (i + 1) * 4 + W (i + 1 + 1))) (W (i + 1 + 2) + 1) (40 + o) < sz ∧ K (fUp (fUp A2 1 (max (A2 1) (W (i + 1 + 1 + 1)))) (10 + (W (i + 1) * 4 + W (i + 1 + 1))) (W (i + 1 + 2) + 1) (40 + o)) = 20
              rw [ey _ (by omega) (by omega)]
              exact hn o ho
            · have hr : r < fUp (fUp A2 1 (max (A2 1) (W (i + 1 + 1 + 1)))) (10 + (W (i + 1) * 4 + W (i + 1 + 1))) (W (i + 1 + 2) + 1) 2 := hr
              rw [ey 2 (by omega) (by omega)] at hr
              show 1 ≤ fUp (fUp A2 1 (max (A2 1) (W (i + 1 + 1 + 1)))) (10 + (W (i + 1) * 4 + W (i + 1 + 1))) (W (i + 1 + 2) + 1) (30 + r)
              rw [ey _ (by omega) (by omega)]
              exact hl r hr
          · rw [mCol_n g2, sBind_no (by show 5 ≠ 0; decide)]
            intro z
            cases z
        · rw [mCol_n g1, sBind_no (by show 5 ≠ 0; decide)]
          intro z
          cases z
      · rw [mCol_n g0, sBind_no (by show 5 ≠ 0; decide)]
        intro z
        cases z
    · rw [if_neg k1]
      by_cases k2 : K i = 2
      · rw [if_pos k2]
        obtain ⟨e1, e2, e3, e4, e5⟩ := f10 k2
        unfold mRow
        by_cases g : ∃ o, o < A 2 ∧ N (A (40 + o)) (i + 1)
        · rw [ifP_pos g]
          intro z
          cases z
        · rw [ifP_neg g]
          have h24 : A 2 < 4 := by omega
          have hA1 := mOK_name (i := i + 1) hA h24
          have l0 : fUp (fUp A (40 + A 2) (i + 1)) 2 (A 2 + 1) (30 + A 2) = 0 := by rw [fUp_ne (by omega), fUp_ne (by omega)]; exact hA.2.2.2.2.2.2.2.2 _ (Nat.le_refl _) h24
          intro z
          obtain ⟨c1, c2, c3, c4, c5, c6, c7, c8, c9⟩ := mSeats_ok (K := K) (W := W) h24 8 (i + 1 + 1) _ hA1 (by rw [fUp_at]; omega) (by rw [l0]; decide) z
          rw [fUp_at] at c2
          refine ⟨c1, c2.trans (by rw [if_pos k2, h2]), fun o ho => ?_, fun r hr => ?_, by omega, ?_⟩
          · rw [c2] at ho
            rw [c3 o (by omega), fUp_ne (by omega)]
            by_cases q : o = A 2
            · subst q
              rw [fUp_at]
              exact ⟨hz _ (by omega), e1⟩
            · rw [fUp_ne (by omega)]
              exact hn o (by omega)
          · rw [c2] at hr
            by_cases q : r = A 2
            · subst q
              have := c9 e2 (by decide)
              omega
            · rw [c4 r (by omega) q, fUp_ne (by omega), fUp_ne (by omega)]
              exact hl r (by omega)
          · rcases Nat.lt_or_ge s (mSeats K W (A 2) 8 (i + 1 + 1) (fUp (fUp A (40 + A 2) (i + 1)) 2 (A 2 + 1))).2.1 with q | q
            · have := c7 s (by omega) q
              omega
            · exact q
      · rw [if_neg k2]
        by_cases k7 : K i = 7
        · rw [if_pos k7]
          obtain ⟨e1, e2⟩ := f8 (Or.inr k7)
          intro _
          refine ⟨mOK_seed hA (hW _ e1), ?_, fun o ho => ?_, fun r hr => ?_, by show i < i + 2; omega, by show i + 2 ≤ s; omega⟩
          · show fUp A 3 (W (i + 1)) 2 = _
            rw [fUp_ne (by omega), if_neg (by omega), h2]
            rfl
          · have ho : o < fUp A 3 (W (i + 1)) 2 := ho
            show fUp A 3 (W (i + 1)) (40 + o) < sz ∧ K (fUp A 3 (W (i + 1)) (40 + o)) = 20
            rw [fUp_ne (by omega)] at ho ⊢
            exact hn o ho
          · have hr : r < fUp A 3 (W (i + 1)) 2 := hr
            show 1 ≤ fUp A 3 (W (i + 1)) (30 + r)
            rw [fUp_ne (by omega)] at hr ⊢
            exact hl r hr
        · rw [if_neg k7]
          intro _
          have a4 := hA.2.2.2.1
          refine ⟨mOK_law hA (by omega), ?_, fun o ho => ?_, fun r hr => ?_, by show i < i + 1; omega, by show i + 1 ≤ s; omega⟩
          · show fUp A (100 + (K i - 3)) (i + 2) 2 = _
            rw [fUp_ne (by omega), if_neg (by omega), h2]
            rfl
          · have ho : o < fUp A (100 + (K i - 3)) (i + 2) 2 := ho
            show fUp A (100 + (K i - 3)) (i + 2) (40 + o) < sz ∧ K (fUp A (100 + (K i - 3)) (i + 2) (40 + o)) = 20
            rw [fUp_ne (by omega)] at ho
            rw [fUp_ne (by omega)]
            exact hn o ho
          · have hr : r < fUp A (100 + (K i - 3)) (i + 2) 2 := hr
            show 1 ≤ fUp A (100 + (K i - 3)) (i + 2) (30 + r)
            rw [fUp_ne (by omega)] at hr
            rw [fUp_ne (by omega)]
            exact hl r hr
