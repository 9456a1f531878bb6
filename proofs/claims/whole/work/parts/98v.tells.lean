/-! read: all tells, as they are spelt -/
theorem spn_tells {K : Nat → Nat} : ∀ n nch nrow i, i ≤ 400 → spn inn0 K i (tells2 K n nch nrow i)
  | 0, _, _, i, hi => spn_at (by decide) hi
  | n + 1, nch, nrow, i, hi => by
    rw [tells2]
    by_cases g : K i = 22
    · rw [if_pos g]
      exact spn_at (by decide) hi
    · rw [if_neg g]
      exact spn_thn (spn_tell i hi) (spn_tells n _ _)
theorem spn.lt {K : Nat → Nat} {i sz : Nat} {q : Nat × Nat} (h : spn inn0 K i q) (hn : ∀ i, i < sz → i < 400 → inn0 (K i) → i + 1 < sz) (hi : i < sz) : q.2 < sz := by
  obtain ⟨h1, h2, h3, h4⟩ := h
  have go : ∀ d, i + d ≤ q.2 → i + d < sz := by
    intro d
    induction d with
    | zero => exact fun _ => hi
    | succ d ih => exact fun hd => hn (i + d) (ih (by omega)) (by omega) (h4 _ (by omega) (by omega))
  have := go (q.2 - i) (by omega)
  omega
theorem tells2_end {K : Nat → Nat} : ∀ n nch nrow i, i ≤ 400 → 400 < i + 2 * n → (tells2 K n nch nrow i).1 = 0 → K (tells2 K n nch nrow i).2 = 22
  | 0, _, _, i, hi, h, _ => absurd h (by omega)
  | n + 1, nch, nrow, i, hi, h, ht => by
    rw [tells2] at ht ⊢
    by_cases g : K i = 22
    · rw [if_pos g]
      exact g
    · rw [if_neg g] at ht ⊢
      obtain ⟨t1, t2, t3⟩ := thn_ok ht
      obtain ⟨s, e, hF⟩ := tell_form t1
      have f1 := hF.2.2.2.1
      have f2 := hF.2.2.2.2.1
      rw [t3]
      rw [e] at t2 ⊢
      exact tells2_end n _ _ (s + 1) (by omega) (by omega) t2
theorem mSeats_bad {K W : Nat → Nat} {r : Nat} : ∀ n i (A : Nat → Nat), (mSeats K W r n i A).1 ≠ 0 → (mSeats K W r n i A).1 = 5 ∧ K (mSeats K W r n i A).2.1 = 21 ∧ i ≤ (mSeats K W r n i A).2.1 ∧ ∀ k, i ≤ k → k < (mSeats K W r n i A).2.1 → K k = 21
  | 0, i, A, h => absurd rfl h
  | n + 1, i, A, h => by
    by_cases g : K i = 21
    · rw [mSeats_1 g] at h ⊢
      by_cases g3 : W i ≤ 3
      · rw [mCol_y g3, sBind_yes rfl] at h ⊢
        obtain ⟨a0, a1, a2, a3⟩ := mSeats_bad n _ _ h
        refine ⟨a0, a1, Nat.le_trans (Nat.le_succ _) a2, fun k k1 k2 => ?_⟩
        rcases Nat.eq_or_lt_of_le k1 with z | z
        · rw [← z]; exact g
        · exact a3 k z k2
      · rw [mCol_n g3, sBind_no (by show 5 ≠ 0; decide)]
        exact ⟨rfl, g, Nat.le_refl _, fun k k1 k2 => absurd k2 (by have k2 : k < i := k2; omega)⟩
    · rw [mSeats_0 g] at h
      exact absurd rfl h
theorem mTell_bad {K W : Nat → Nat} {N : Nat → Nat → Prop} {nch nrow i s : Nat} {A : Nat → Nat} (hF : tlF K nch nrow i s) (h : (mTell K W N i A).1 ≠ 0) : (mTell K W N i A).1 < 8 ∧ (K (mTell K W N i A).2.1 = 20 ∨ K (mTell K W N i A).2.1 = 21) ∧ i < (mTell K W N i A).2.1 ∧ (mTell K W N i A).2.1 < s := by
  obtain ⟨f1, f2, f3, f4, f5, f6, f7, f8, f9, f10, f11⟩ := hF
  unfold mTell at h ⊢
  by_cases k0 : K i = 0
  · rw [if_pos k0] at h ⊢
    obtain ⟨e1, e2⟩ := f8 (Or.inl k0)
    by_cases g : 2 ≤ W (i + 1) ∧ W (i + 1) ≤ 4
    · rw [if_pos g] at h
      exact absurd rfl h
    · rw [if_neg g]
      exact ⟨by show 5 < 8; decide, Or.inr e1, by show i < i + 1; omega, by show i + 1 < s; omega⟩
  · rw [if_neg k0] at h ⊢
    by_cases k1 : K i = 1
    · rw [if_pos k1] at h ⊢
      obtain ⟨e1, e2, e3, e4⟩ := f9 k1
      unfold mChild at h ⊢
      by_cases g0 : W (i + 1) ≤ 3
      · rw [mCol_y g0, sBind_yes rfl] at h ⊢
        have h : (sBind A (mCol W (i + 1 + 1) (fUp A 1 (max (A 1) (W (i + 1))))) fun i2 A2 => sBind A (mCol W i2 A2) fun i3 A3 => (0, i3, fUp A3 (10 + (W (i + 1) * 4 + W (i + 1 + 1))) (W (i + 1 + 2) + 1))).1 ≠ 0 := h
        show (sBind A (mCol W (i + 1 + 1) (fUp A 1 (max (A 1) (W (i + 1))))) fun i2 A2 => sBind A (mCol W i2 A2) fun i3 A3 => (0, i3, fUp A3 (10 + (W (i + 1) * 4 + W (i + 1 + 1))) (W (i + 1 + 2) + 1))).1 < 8 ∧ (K (sBind A (mCol W (i + 1 + 1) (fUp A 1 (max (A 1) (W (i + 1))))) fun i2 A2 => sBind A (mCol W i2 A2) fun i3 A3 => (0, i3, fUp A3 (10 + (W (i + 1) * 4 + W (i + 1 + 1))) (W (i + 1 + 2) + 1))).2.1 = 20 ∨ K (sBind A (mCol W (i + 1 + 1) (fUp A 1 (max (A 1) (W (i + 1))))) fun i2 A2 => sBind A (mCol W i2 A2) fun i3 A3 => (0, i3, fUp A3 (10 + (W (i + 1) * 4 + W (i + 1 + 1))) (W (i + 1 + 2) + 1))).2.1 = 21) ∧ i < (sBind A (mCol W (i + 1 + 1) (fUp A 1 (max (A 1) (W (i + 1))))) fun i2 A2 => sBind A (mCol W i2 A2) fun i3 A3 => (0, i3, fUp A3 (10 + (W (i + 1) * 4 + W (i + 1 + 1))) (W (i + 1 + 2) + 1))).2.1 ∧ (sBind A (mCol W (i + 1 + 1) (fUp A 1 (max (A 1) (W (i + 1))))) fun i2 A2 => sBind A (mCol W i2 A2) fun i3 A3 => (0, i3, fUp A3 (10 + (W (i + 1) * 4 + W (i + 1 + 1))) (W (i + 1 + 2) + 1))).2.1 < s
        generalize fUp A 1 (max (A 1) (W (i + 1))) = A1 at h ⊢
        by_cases g1 : W (i + 1 + 1) ≤ 3
        · rw [mCol_y g1, sBind_yes rfl] at h ⊢
          generalize fUp A1 1 (max (A1 1) (W (i + 1 + 1))) = A2 at h ⊢
          have h : (sBind A (mCol W (i + 1 + 1 + 1) A2) fun i3 A3 => (0, i3, fUp A3 (10 + (W (i + 1) * 4 + W (i + 1 + 1))) (W (i + 1 + 2) + 1))).1 ≠ 0 := h
          show (sBind A (mCol W (i + 1 + 1 + 1) A2) fun i3 A3 => (0, i3, fUp A3 (10 + (W (i + 1) * 4 + W (i + 1 + 1))) (W (i + 1 + 2) + 1))).1 < 8 ∧ (K (sBind A (mCol W (i + 1 + 1 + 1) A2) fun i3 A3 => (0, i3, fUp A3 (10 + (W (i + 1) * 4 + W (i + 1 + 1))) (W (i + 1 + 2) + 1))).2.1 = 20 ∨ K (sBind A (mCol W (i + 1 + 1 + 1) A2) fun i3 A3 => (0, i3, fUp A3 (10 + (W (i + 1) * 4 + W (i + 1 + 1))) (W (i + 1 + 2) + 1))).2.1 = 21) ∧ i < (sBind A (mCol W (i + 1 + 1 + 1) A2) fun i3 A3 => (0, i3, fUp A3 (10 + (W (i + 1) * 4 + W (i + 1 + 1))) (W (i + 1 + 2) + 1))).2.1 ∧ (sBind A (mCol W (i + 1 + 1 + 1) A2) fun i3 A3 => (0, i3, fUp A3 (10 + (W (i + 1) * 4 + W (i + 1 + 1))) (W (i + 1 + 2) + 1))).2.1 < s
          by_cases g2 : W (i + 1 + 1 + 1) ≤ 3
          · rw [mCol_y g2, sBind_yes rfl] at h
            exact absurd rfl h
          · rw [mCol_n g2, sBind_no (by show 5 ≠ 0; decide)]
            exact ⟨by show 5 < 8; decide, Or.inr e3, by show i < i + 1 + 1 + 1; omega, by show i + 1 + 1 + 1 < s; omega⟩
        · rw [mCol_n g1, sBind_no (by show 5 ≠ 0; decide)]
          exact ⟨by show 5 < 8; decide, Or.inr e2, by show i < i + 1 + 1; omega, by show i + 1 + 1 < s; omega⟩
      · rw [mCol_n g0, sBind_no (by show 5 ≠ 0; decide)]
        exact ⟨by show 5 < 8; decide, Or.inr e1, by show i < i + 1; omega, by show i + 1 < s; omega⟩
    · rw [if_neg k1] at h ⊢
      by_cases k2 : K i = 2
      · rw [if_pos k2] at h ⊢
        obtain ⟨e1, e2, e3, e4, e5⟩ := f10 k2
        unfold mRow at h ⊢
        by_cases g : ∃ o, o < A 2 ∧ N (A (40 + o)) (i + 1)
        · rw [ifP_pos g]
          exact ⟨by show 3 < 8; decide, Or.inl e1, by show i < i + 1; omega, by show i + 1 < s; omega⟩
        · rw [ifP_neg g] at h ⊢
          obtain ⟨a0, a1, a2, a3⟩ := mSeats_bad _ _ _ h
          refine ⟨by rw [a0]; decide, Or.inr a1, by omega, ?_⟩
          rcases Nat.lt_trichotomy (mSeats K W (A 2) 8 (i + 1 + 1) (fUp (fUp A (40 + A 2) (i + 1)) 2 (A 2 + 1))).2.1 s with q | q | q
          · exact q
          · rw [q] at a1
            omega
          · have := a3 s (by omega) q
            omega
      · rw [if_neg k2] at h ⊢
        by_cases k7 : K i = 7
        · rw [if_pos k7] at h
          exact absurd rfl h
        · rw [if_neg k7] at h
          exact absurd rfl h
theorem mTells_bad {K W : Nat → Nat} {N : Nat → Nat → Prop} : ∀ n nch nrow i (A : Nat → Nat), (tells2 K n nch nrow i).1 = 0 → (mTells K W N n nch nrow i A).1 ≠ 0 → (mTells K W N n nch nrow i A).1 < 8 ∧ (K (mTells K W N n nch nrow i A).2.1 = 20 ∨ K (mTells K W N n nch nrow i A).2.1 = 21)
  | 0, _, _, i, A, _, h => absurd rfl h
  | n + 1, nch, nrow, i, A, ht, h => by
    rw [tells2] at ht
    rw [mTells] at h ⊢
    by_cases g : K i = 22
    · rw [if_pos g] at h
      exact absurd rfl h
    · rw [if_neg g] at ht h ⊢
      obtain ⟨t1, t2, t3⟩ := thn_ok ht
      obtain ⟨s, e, hF⟩ := tell_form t1
      by_cases q0 : (mTell K W N i A).1 = 0
      · rw [sBind_yes q0] at h ⊢
        exact mTells_bad n _ _ _ _ t2 h
      · rw [sBind_no q0]
        have b := mTell_bad hF q0
        exact ⟨b.1, b.2.1⟩
theorem mTells_ok {K W : Nat → Nat} {N : Nat → Nat → Prop} {sz : Nat} (hz : ∀ i, K i ≠ 22 → i < sz) (hW : ∀ i, K i = 21 → W i < 10000) : ∀ n nch nrow i (A : Nat → Nat), (tells2 K n nch nrow i).1 = 0 → mOK A → A 2 = nrow → nmOK K sz A → lnOK A → (mTells K W N n nch nrow i A).1 = 0 → mOK (mTells K W N n nch nrow i A).2.2 ∧ nmOK K sz (mTells K W N n nch nrow i A).2.2 ∧ lnOK (mTells K W N n nch nrow i A).2.2
  | 0, _, _, i, A, _, hA, _, hn, hl, _ => ⟨hA, hn, hl⟩
  | n + 1, nch, nrow, i, A, ht, hA, h2, hn, hl, h => by
    rw [tells2] at ht
    rw [mTells] at h ⊢
    by_cases g : K i = 22
    · rw [if_pos g]
      exact ⟨hA, hn, hl⟩
    · rw [if_neg g] at ht h ⊢
      obtain ⟨t1, t2, t3⟩ := thn_ok ht
      obtain ⟨s, e, hF⟩ := tell_form t1
      by_cases q0 : (mTell K W N i A).1 = 0
      · rw [sBind_yes q0] at h ⊢
        obtain ⟨b1, b2, b3, b4, b5, b6⟩ := mTell_ok (N := N) hF hz hW hA h2 hn hl q0
        exact mTells_ok hz hW n _ _ _ _ t2 b1 b2 b3 b4 h
      · rw [sBind_no q0] at h
        exact absurd h q0
