/-! read: the reference's rows -/
theorem q_lp_dn {α : Type} {body : zK ((zL × zS) ⊕ α)} {ls : zL} {σ : zS} {X : Option α} (e : body ls [] σ = X.map .inr) : q_lp body ls [] σ = X := by
  rw [q_lp_eq, e]
  cases X <;> rfl
theorem mSeats_fix {K W : Nat → Nat} {r : Nat} : ∀ n i (A : Nat → Nat), A (30 + r) + n ≤ 8 → r < 4 → ∀ k, k ≠ 1 → k ≠ 30 + r → (k < 50 + r * 8 ∨ 50 + r * 8 + 8 ≤ k) → (mSeats K W r n i A).2.2 k = A k
  | 0, i, A, _, _, k, _, _, _ => rfl
  | n + 1, i, A, h8, hr, k, k1, k2, k3 => by
    by_cases g : K i = 21
    · rw [mSeats_1 g]
      by_cases g3 : W i ≤ 3
      · rw [mCol_y g3, sBind_yes rfl]
        have e30 : fUp A 1 (max (A 1) (W i)) (30 + r) = A (30 + r) := fUp_ne (by omega)
        show (mSeats K W r n (i + 1) (fUp (fUp (fUp A 1 (max (A 1) (W i))) (50 + (r * 8 + fUp A 1 (max (A 1) (W i)) (30 + r))) (W i)) (30 + r) (fUp A 1 (max (A 1) (W i)) (30 + r) + 1))).2.2 k = A k
        refine (mSeats_fix n (i + 1) _ (by rw [fUp_at]; omega) hr k k1 k2 k3).trans ?_
        rw [fUp_ne k2, fUp_ne (by omega), fUp_ne k1]
      · rw [mCol_n g3, sBind_no (by show 5 ≠ 0; decide)]
    · rw [mSeats_0 g]
def pR (M sd kx a k : Nat) : Prop := pC M sd a k ∨ (a = M + 15 ∧ 8 * kx ≤ k ∧ k < 8 * kx + 8)
theorem pR_t {M sd kx : Nat} : ∀ a k, pR M sd kx a k → a ≠ M + 3 ∧ a ≠ M + 4 ∧ a ≠ M + 5 := fun a k h => by unfold pR pC pB at h; omega
theorem r_133F {I : Nat → Nat → Int32} {L : Nat → Nat → Int64} {Z : zZ} {M f j : Nat} {S : Nat → Nat} {y1 y2 y3 : Option Value} (h : isMod Z M) (hF : flQ I M S f j) : kX12_tellRow_133 [some (.ref M), y1, y2, y3] [] (I, L, Z) = some (none, (I, L, Z)) := by
  have mu := r_mustF (L := L) (x := nI 4) h hF
  obtain ⟨f1, f2, f3, f4, t, f5, f6⟩ := hF
  simp (disch := omega) only [kX12_tellRow_133, h.1, mu, f1, f2, e_push, e_pushl, e_iload, e_lload, e_aload, e_istore, e_astore, e_lstore, e_iinc, e_iadd, e_isub, e_imul, e_iand, e_ior, e_ixor, e_ishl, e_ishr, e_iushr, e_idiv, e_irem, e_ladd, e_lsub, e_lmul, e_lcmp, e_mmax, e_mmin, e_i2l, e_l2i, e_i2b, e_i2c, e_dup, e_dup2, e_pop, e_icmp_eq, e_icmp_ne, e_icmp_lt, e_icmp_ge, e_icmp_gt, e_icmp_le, e_if_eq, e_if_ne, e_if_lt, e_if_ge, e_if_gt, e_if_le, e_getI, e_getR, e_putI, e_putZ, e_putR, e_iald, e_bald, e_zald, e_lald, e_aald, e_alen, e_iast, e_bast, e_zast, e_last, e_aast, e_iret, e_zret, e_lret, e_vret, e_obj, e_callV, e_callS, e_callT, e_acpy, e_ldcS, e_dn, e_ag, z_pop, List.getElem?_cons_zero, List.getElem?_cons_succ, List.set_cons_zero, List.set_cons_succ, List.length_cons, List.length_nil, z_nol, Option.map_some, Option.toList_some, Option.toList_none, List.cons_append, List.nil_append, n_lit, n_m1, n_m2, n_m1lt, n_m1le, n_rem, n_div, n_out, n_cl, n_eq, n_le, n_lt, n_add, n_mul, n_sub, n_nle, n_yle, n_nlt, n_ylt, n_neN, z_lay, z_sz, z_str, z_stI, z_stL, z_stR, eq_self, ↓reduceIte, true_and, and_true, and_self, false_and, and_false, or_self, false_or, or_false, true_or, or_true, not_true_eq_false, not_false_eq_true, Nat.reduceLeDiff, Nat.reduceLT, Nat.reduceAdd, Nat.reduceEqDiff, Nat.reduceMul, Nat.reduceSub, Value.category, Nat.zero_le, beq_self_eq_true]
theorem r_74F {I : Nat → Nat → Int32} {L : Nat → Nat → Int64} {Z : zZ} {M f j n : Nat} {S : Nat → Nat} {y1 y2 : Option Value} (h : isMod Z M) (hF : flQ I M S f j) : q_lp bX12_tellRow_74 [some (.ref M), y1, y2, some (.int (nI n))] [] (I, L, Z) = some (none, (I, L, Z)) := by
  have e := r_133F (L := L) (y1 := y1) (y2 := y2) (y3 := some (.int (nI n))) h hF
  obtain ⟨f1, f2, f3, f4, t, f5, f6⟩ := hF
  refine q_lp_dn (X := some (none, (I, L, Z))) ?_
  simp (disch := omega) only [bX12_tellRow_74, h.1, f1, f2, e, Option.map_some, e_push, e_pushl, e_iload, e_lload, e_aload, e_istore, e_astore, e_lstore, e_iinc, e_iadd, e_isub, e_imul, e_iand, e_ior, e_ixor, e_ishl, e_ishr, e_iushr, e_idiv, e_irem, e_ladd, e_lsub, e_lmul, e_lcmp, e_mmax, e_mmin, e_i2l, e_l2i, e_i2b, e_i2c, e_dup, e_dup2, e_pop, e_icmp_eq, e_icmp_ne, e_icmp_lt, e_icmp_ge, e_icmp_gt, e_icmp_le, e_if_eq, e_if_ne, e_if_lt, e_if_ge, e_if_gt, e_if_le, e_getI, e_getR, e_putI, e_putZ, e_putR, e_iald, e_bald, e_zald, e_lald, e_aald, e_alen, e_iast, e_bast, e_zast, e_last, e_aast, e_iret, e_zret, e_lret, e_vret, e_obj, e_callV, e_callS, e_callT, e_acpy, e_ldcS, e_dn, e_ag, z_pop, List.getElem?_cons_zero, List.getElem?_cons_succ, List.set_cons_zero, List.set_cons_succ, List.length_cons, List.length_nil, z_nol, Option.map_some, Option.toList_some, Option.toList_none, List.cons_append, List.nil_append, n_lit, n_m1, n_m2, n_m1lt, n_m1le, n_rem, n_div, n_out, n_cl, n_eq, n_le, n_lt, n_add, n_mul, n_sub, n_nle, n_yle, n_nlt, n_ylt, n_neN, z_lay, z_sz, z_str, z_stI, z_stL, z_stR, eq_self, ↓reduceIte, true_and, and_true, and_self, false_and, and_false, or_self, false_or, or_false, true_or, or_true, not_true_eq_false, not_false_eq_true, Nat.reduceLeDiff, Nat.reduceLT, Nat.reduceAdd, Nat.reduceEqDiff, Nat.reduceMul, Nat.reduceSub, Value.category, Nat.zero_le, beq_self_eq_true]
/-- what the seats of a row leave -/
def stR (W K : Nat → Nat) (J J2 : Nat → Nat → Int32) (M sd r n m i n2 g g2 : Nat) (w w2 : Nat × Nat) : Prop := (w.1 ≠ 0 → w2 = w) ∧ ∀ A : Nat → Nat, w.1 = 0 → mOK A → r < A 2 → A (30 + r) = n → g = A 1 → (∀ x, x < n → J (M + 15) (8 * (4 * sd + r) + x) = nI (A (50 + (r * 8 + x)))) → ((mSeats K W r m i A).1 = 0 → w2.1 = 0 ∧ g2 = (mSeats K W r m i A).2.2 1 ∧ (mSeats K W r m i A).2.2 (30 + r) = n2 ∧ ∀ x, x < n2 → J2 (M + 15) (8 * (4 * sd + r) + x) = nI ((mSeats K W r m i A).2.2 (50 + (r * 8 + x)))) ∧ ((mSeats K W r m i A).1 ≠ 0 → w2 = ((mSeats K W r m i A).1, (mSeats K W r m i A).2.1))
theorem r_seat1 {I : Nat → Nat → Int32} {L : Nat → Nat → Int64} {Z : zZ} {M sz sd i g n r : Nat} {K W S : Nat → Nat} {w : Nat × Nat} (h : isMod Z M) (hS : tkS K W S sz) (hT : tokR I M K W S sz) (hO : okQ I M i) (hi : i < sz) (hw : wrS I M S w) (hlt : w.1 ≠ 0 → w.2 < i) (h19 : I M 19 = nI sd) (hsd : sd < 2) (hg : I (M + 12) sd = nI g) (hg4 : g < 10000) (hn : n < 8) (hr : r < 4) (hgo : n = 0 ∨ K i = 21) : ∃ J1 x g1 w1, (∀ tk : Nat, bX12_tellRow_74 [some (.ref M), some (.int (nI (4 * sd + r))), some (.int (nI tk)), some (.int (nI n))] [] (I, L, Z) = some (.inl ([some (.ref M), some (.int (nI (4 * sd + r))), some (.int (nI tk)), some (.int (nI (n + 1)))], (z_up J1 (M + 15) (8 * (4 * sd + r) + n) (nI x), L, Z)))) ∧ x ≤ 3 ∧ J1 (M + 12) sd = nI g1 ∧ g1 < 10000 ∧ pqs J1 M S (must2 K 21 i) ∧ wrS J1 M S w1 ∧ ((must2 K 21 i).1 = 0 → w1 = wc W w i ∧ (W i ≤ 3 → x = W i ∧ g1 = max g (W i))) ∧ frm (pC M sd) I J1 := by
  obtain ⟨J1, x, g1, w1, d1, d2, d3, d4, d5, d0, d6, d7⟩ := r_col (L := L) (q := (0, i)) h hS hT (pqs_ok hO) hi hw (fun _ => hlt) h19 hsd hg hg4
  rw [thn_0] at d5 d6
  have o13 := hO.1
  refine ⟨J1, x, g1, w1, fun tk => ?_, d2, d3, d4, d5, d0, d6, d7⟩
  by_cases z : n = 0
  · subst z
    simp (disch := omega) only [bX12_tellRow_74, kX12_tellRow_93, kX12_tellRow_104, h.1, mr_firstColour h, ml_firstColour h, o13, d1, e_push, e_pushl, e_iload, e_lload, e_aload, e_istore, e_astore, e_lstore, e_iinc, e_iadd, e_isub, e_imul, e_iand, e_ior, e_ixor, e_ishl, e_ishr, e_iushr, e_idiv, e_irem, e_ladd, e_lsub, e_lmul, e_lcmp, e_mmax, e_mmin, e_i2l, e_l2i, e_i2b, e_i2c, e_dup, e_dup2, e_pop, e_icmp_eq, e_icmp_ne, e_icmp_lt, e_icmp_ge, e_icmp_gt, e_icmp_le, e_if_eq, e_if_ne, e_if_lt, e_if_ge, e_if_gt, e_if_le, e_getI, e_getR, e_putI, e_putZ, e_putR, e_iald, e_bald, e_zald, e_lald, e_aald, e_alen, e_iast, e_bast, e_zast, e_last, e_aast, e_iret, e_zret, e_lret, e_vret, e_obj, e_callV, e_callS, e_callT, e_acpy, e_ldcS, e_dn, e_ag, z_pop, List.getElem?_cons_zero, List.getElem?_cons_succ, List.set_cons_zero, List.set_cons_succ, List.length_cons, List.length_nil, z_nol, Option.map_some, Option.toList_some, Option.toList_none, List.cons_append, List.nil_append, n_lit, n_m1, n_m2, n_m1lt, n_m1le, n_rem, n_div, n_out, n_cl, n_eq, n_le, n_lt, n_add, n_mul, n_sub, n_nle, n_yle, n_nlt, n_ylt, n_neN, z_lay, z_sz, z_str, z_stI, z_stL, z_stR, eq_self, ↓reduceIte, true_and, and_true, and_self, false_and, and_false, or_self, false_or, or_false, true_or, or_true, not_true_eq_false, not_false_eq_true, Nat.reduceLeDiff, Nat.reduceLT, Nat.reduceAdd, Nat.reduceEqDiff, Nat.reduceMul, Nat.reduceSub, Value.category, Nat.zero_le, beq_self_eq_true]
  · have hk := hgo.resolve_left z
    have is := r_isY (L := L) h hS hT hO hi (show 21 < 64 by decide) (show rk 21 = 2 from rfl) (by decide)
    rw [if_pos hk] at is
    have n8 : (n = 8) = False := eq_false (by omega)
    simp (disch := omega) only [bX12_tellRow_74, kX12_tellRow_93, kX12_tellRow_104, h.1, mr_firstColour h, ml_firstColour h, o13, is, z, n8, d1, e_push, e_pushl, e_iload, e_lload, e_aload, e_istore, e_astore, e_lstore, e_iinc, e_iadd, e_isub, e_imul, e_iand, e_ior, e_ixor, e_ishl, e_ishr, e_iushr, e_idiv, e_irem, e_ladd, e_lsub, e_lmul, e_lcmp, e_mmax, e_mmin, e_i2l, e_l2i, e_i2b, e_i2c, e_dup, e_dup2, e_pop, e_icmp_eq, e_icmp_ne, e_icmp_lt, e_icmp_ge, e_icmp_gt, e_icmp_le, e_if_eq, e_if_ne, e_if_lt, e_if_ge, e_if_gt, e_if_le, e_getI, e_getR, e_putI, e_putZ, e_putR, e_iald, e_bald, e_zald, e_lald, e_aald, e_alen, e_iast, e_bast, e_zast, e_last, e_aast, e_iret, e_zret, e_lret, e_vret, e_obj, e_callV, e_callS, e_callT, e_acpy, e_ldcS, e_dn, e_ag, z_pop, List.getElem?_cons_zero, List.getElem?_cons_succ, List.set_cons_zero, List.set_cons_succ, List.length_cons, List.length_nil, z_nol, Option.map_some, Option.toList_some, Option.toList_none, List.cons_append, List.nil_append, n_lit, n_m1, n_m2, n_m1lt, n_m1le, n_rem, n_div, n_out, n_cl, n_eq, n_le, n_lt, n_add, n_mul, n_sub, n_nle, n_yle, n_nlt, n_ylt, n_neN, z_lay, z_sz, z_str, z_stI, z_stL, z_stR, eq_self, ↓reduceIte, true_and, and_true, and_self, false_and, and_false, or_self, false_or, or_false, true_or, or_true, not_true_eq_false, not_false_eq_true, Nat.reduceLeDiff, Nat.reduceLT, Nat.reduceAdd, Nat.reduceEqDiff, Nat.reduceMul, Nat.reduceSub, Value.category, Nat.zero_le, beq_self_eq_true]
theorem stR.step {W K : Nat → Nat} {I J1 J2 : Nat → Nat → Int32} {M sd r n m i n2 g g1 g2 x : Nat} {w w1 w2 : Nat × Nat} (hr : r < 4) (hk : K i = 21) (hn : n + m < 8) (hf : frm (pC M sd) I J1) (h1 : w1 = wc W w i) (h2 : W i ≤ 3 → x = W i ∧ g1 = max g (W i)) (hs : stR W K (z_up J1 (M + 15) (8 * (4 * sd + r) + n) (nI x)) J2 M sd r (n + 1) m (i + 1) n2 g1 g2 w1 w2) : stR W K I J2 M sd r n (m + 1) i n2 g g2 w w2 := by
  obtain ⟨s1, s2⟩ := hs
  refine ⟨fun z => ?_, fun A z hA hr2 hn' hg' hc => ?_⟩
  · have e : w1 = w := by
      rw [h1]
      unfold wc wAdd
      rw [if_neg z]
      split <;> rfl
    rw [e] at s1
    exact s1 z
  · rw [mSeats_1 hk]
    by_cases g3 : W i ≤ 3
    · obtain ⟨x1, x2⟩ := h2 g3
      rw [mCol_y g3, sBind_yes rfl]
      have e : w1 = w := by rw [h1]; exact if_pos g3
      have e30 : fUp A 1 (max (A 1) (W i)) (30 + r) = n := by rw [fUp_ne (by omega)]; exact hn'
      have hA1 := mOK_col hA g3
      have hA2 := mOK_seat (v := W i) hA1 hr (by rw [fUp_ne (by omega)]; exact hr2) (by omega) (by rw [fUp_at]; exact Nat.le_max_right _ _)
      show ((mSeats K W r m (i + 1) (fUp (fUp (fUp A 1 (max (A 1) (W i))) (50 + (r * 8 + fUp A 1 (max (A 1) (W i)) (30 + r))) (W i)) (30 + r) (fUp A 1 (max (A 1) (W i)) (30 + r) + 1))).1 = 0 → w2.1 = 0 ∧ g2 = (mSeats K W r m (i + 1) (fUp (fUp (fUp A 1 (max (A 1) (W i))) (50 + (r * 8 + fUp A 1 (max (A 1) (W i)) (30 + r))) (W i)) (30 + r) (fUp A 1 (max (A 1) (W i)) (30 + r) + 1))).2.2 1 ∧ (mSeats K W r m (i + 1) (fUp (fUp (fUp A 1 (max (A 1) (W i))) (50 + (r * 8 + fUp A 1 (max (A 1) (W i)) (30 + r))) (W i)) (30 + r) (fUp A 1 (max (A 1) (W i)) (30 + r) + 1))).2.2 (30 + r) = n2 ∧ ∀ x, x < n2 → J2 (M + 15) (8 * (4 * sd + r) + x) = nI ((mSeats K W r m (i + 1) (fUp (fUp (fUp A 1 (max (A 1) (W i))) (50 + (r * 8 + fUp A 1 (max (A 1) (W i)) (30 + r))) (W i)) (30 + r) (fUp A 1 (max (A 1) (W i)) (30 + r) + 1))).2.2 (50 + (r * 8 + x)))) ∧ ((mSeats K W r m (i + 1) (fUp (fUp (fUp A 1 (max (A 1) (W i))) (50 + (r * 8 + fUp A 1 (max (A 1) (W i)) (30 + r))) (W i)) (30 + r) (fUp A 1 (max (A 1) (W i)) (30 + r) + 1))).1 ≠ 0 → w2 = ((mSeats K W r m (i + 1) (fUp (fUp (fUp A 1 (max (A 1) (W i))) (50 + (r * 8 + fUp A 1 (max (A 1) (W i)) (30 + r))) (W i)) (30 + r) (fUp A 1 (max (A 1) (W i)) (30 + r) + 1))).1, (mSeats K W r m (i + 1) (fUp (fUp (fUp A 1 (max (A 1) (W i))) (50 + (r * 8 + fUp A 1 (max (A 1) (W i)) (30 + r))) (W i)) (30 + r) (fUp A 1 (max (A 1) (W i)) (30 + r) + 1))).2.1))
      rw [e30] at hA2 ⊢
      rw [e] at s2
      refine s2 _ z hA2 (by rw [fUp_ne (by omega), fUp_ne (by omega), fUp_ne (by omega)]; exact hr2) fUp_at ?_ (fun y hy => ?_)
      · rw [fUp_ne (by omega), fUp_ne (by omega), fUp_at, x2, hg']
      · by_cases gy : y = n
        · subst gy
          rw [zup_at, fUp_ne (by omega), fUp_at, x1]
        · rw [zup_ne (by omega), hf _ _ (by unfold pC pB; omega), fUp_ne (by omega), fUp_ne (by omega), fUp_ne (by omega)]
          exact hc y (by omega)
    · rw [mCol_n g3, sBind_no (by show 5 ≠ 0; decide)]
      have e : w1 = (5, i) := by
        rw [h1]
        unfold wc wAdd
        rw [if_neg g3, if_pos z]
      rw [e] at s1
      exact ⟨fun z => absurd z (by show ¬ 5 = 0; decide), fun _ => s1 (by show 5 ≠ 0; decide)⟩
theorem r_seatlp {L : Nat → Nat → Int64} {Z : zZ} {M sz sd r tk : Nat} {K W S : Nat → Nat} (h : isMod Z M) (hS : tkS K W S sz) (hsd : sd < 2) (hr : r < 4) : ∀ m n i (I : Nat → Nat → Int32) (w : Nat × Nat) (g : Nat), n + m = 8 → 1 ≤ n → tokR I M K W S sz → okQ I M i → i < sz → wrS I M S w → (w.1 ≠ 0 → w.2 < i) → I M 19 = nI sd → I (M + 12) sd = nI g → g < 10000 → ((seats2 K m i).1 = 0 → ∃ J n2 g2 w2, q_lp bX12_tellRow_74 [some (Value.ref (M)), some (Value.int (nI (4 * sd + r))), some (Value.int (nI (tk))), some (Value.int (nI (n)))] [] (I, L, Z) = kX12_tellRow_133 [some (Value.ref (M)), some (Value.int (nI (4 * sd + r))), some (Value.int (nI (tk))), some (Value.int (nI (n2)))] [] (J, L, Z) ∧ okQ J M (seats2 K m i).2 ∧ n2 = n + ((seats2 K m i).2 - i) ∧ J (M + 12) sd = nI g2 ∧ g2 < 10000 ∧ wrS J M S w2 ∧ (w2.1 ≠ 0 → w2.2 < (seats2 K m i).2) ∧ stR W K I J M sd r n m i n2 g g2 w w2 ∧ frm (pR M sd (4 * sd + r)) I J) ∧ ((seats2 K m i).1 ≠ 0 → ∃ J, q_lp bX12_tellRow_74 [some (Value.ref (M)), some (Value.int (nI (4 * sd + r))), some (Value.int (nI (tk))), some (Value.int (nI (n)))] [] (I, L, Z) = some (none, (J, L, Z)) ∧ flQ J M S (seats2 K m i).1 (seats2 K m i).2 ∧ frm (pR M sd (4 * sd + r)) I J) := by
  have sz4 := hS.2.1
  have stop : ∀ m n i (I : Nat → Nat → Int32) (w : Nat × Nat) (g : Nat), n + m = 8 → 1 ≤ n → tokR I M K W S sz → okQ I M i → i < sz → wrS I M S w → (w.1 ≠ 0 → w.2 < i) → I (M + 12) sd = nI g → g < 10000 → K i ≠ 21 → ∃ J n2 g2 w2, q_lp bX12_tellRow_74 [some (Value.ref (M)), some (Value.int (nI (4 * sd + r))), some (Value.int (nI (tk))), some (Value.int (nI (n)))] [] (I, L, Z) = kX12_tellRow_133 [some (Value.ref (M)), some (Value.int (nI (4 * sd + r))), some (Value.int (nI (tk))), some (Value.int (nI (n2)))] [] (J, L, Z) ∧ okQ J M i ∧ n2 = n + (i - i) ∧ J (M + 12) sd = nI g2 ∧ g2 < 10000 ∧ wrS J M S w2 ∧ (w2.1 ≠ 0 → w2.2 < i) ∧ stR W K I J M sd r n m i n2 g g2 w w2 ∧ frm (pR M sd (4 * sd + r)) I J := by
    intro m n i I w g hm hn hT hO hi hw hlt hg hg4 gk
    have is := r_isY (L := L) h hS hT hO hi (show 21 < 64 by decide) (show rk 21 = 2 from rfl) (by decide)
    rw [if_neg gk] at is
    have o13 := hO.1
    have n0 : (n = 0) = False := eq_false (by omega)
    refine ⟨I, n, g, w, q_lp_dn ?_, hO, by omega, hg, hg4, hw, hlt, ⟨fun _ => rfl, fun A z hA hr2 hn' hg' hc => ?_⟩, frm.refl _ _⟩
    · simp (disch := omega) only [bX12_tellRow_74, h.1, o13, n0, is, e_push, e_pushl, e_iload, e_lload, e_aload, e_istore, e_astore, e_lstore, e_iinc, e_iadd, e_isub, e_imul, e_iand, e_ior, e_ixor, e_ishl, e_ishr, e_iushr, e_idiv, e_irem, e_ladd, e_lsub, e_lmul, e_lcmp, e_mmax, e_mmin, e_i2l, e_l2i, e_i2b, e_i2c, e_dup, e_dup2, e_pop, e_icmp_eq, e_icmp_ne, e_icmp_lt, e_icmp_ge, e_icmp_gt, e_icmp_le, e_if_eq, e_if_ne, e_if_lt, e_if_ge, e_if_gt, e_if_le, e_getI, e_getR, e_putI, e_putZ, e_putR, e_iald, e_bald, e_zald, e_lald, e_aald, e_alen, e_iast, e_bast, e_zast, e_last, e_aast, e_iret, e_zret, e_lret, e_vret, e_obj, e_callV, e_callS, e_callT, e_acpy, e_ldcS, e_dn, e_ag, z_pop, List.getElem?_cons_zero, List.getElem?_cons_succ, List.set_cons_zero, List.set_cons_succ, List.length_cons, List.length_nil, z_nol, Option.map_some, Option.toList_some, Option.toList_none, List.cons_append, List.nil_append, n_lit, n_m1, n_m2, n_m1lt, n_m1le, n_rem, n_div, n_out, n_cl, n_eq, n_le, n_lt, n_add, n_mul, n_sub, n_nle, n_yle, n_nlt, n_ylt, n_neN, z_lay, z_sz, z_str, z_stI, z_stL, z_stR, eq_self, ↓reduceIte, true_and, and_true, and_self, false_and, and_false, or_self, false_or, or_false, true_or, or_true, not_true_eq_false, not_false_eq_true, Nat.reduceLeDiff, Nat.reduceLT, Nat.reduceAdd, Nat.reduceEqDiff, Nat.reduceMul, Nat.reduceSub, Value.category, Nat.zero_le, beq_self_eq_true]
    · rw [mSeats_0 gk]
      exact ⟨fun _ => ⟨z, hg', hn', hc⟩, fun y => absurd rfl y⟩
  intro m
  induction m with
  | zero =>
    intro n i I w g hm hn hT hO hi hw hlt h19 hg hg4
    rw [seats2]
    by_cases gk : K i = 21
    · rw [if_pos gk]
      have is := r_isY (L := L) h hS hT hO hi (show 21 < 64 by decide) (show rk 21 = 2 from rfl) (by decide)
      rw [if_pos gk] at is
      have o13 := hO.1
      have f := r_failO (L := L) (f := 2) h hS hT hO hi
      have fl := fl_fail (S := S) hO (show i ≤ 400 by omega) (show 2 ≠ 0 by decide) (by decide)
      have ff : frm (pP M) I (z_up (z_up I M 13 (nI 2)) M 14 (nI (S i))) := fr_fail
      generalize z_up (z_up I M 13 (nI 2)) M 14 (nI (S i)) = J1 at f fl ff
      have f1 := fl.1
      obtain rfl : n = 8 := by omega
      refine ⟨fun z => absurd z (by show ¬ 2 = 0; decide), fun _ => ⟨J1, q_lp_dn (X := some (none, (J1, L, Z))) ?_, fl, ff.weak fun a k z => Or.inl (Or.inl (pP_B z))⟩⟩
      simp (disch := omega) only [bX12_tellRow_74, kX12_tellRow_93, kX12_tellRow_104, kX12_tellRow_111, h.1, o13, is, f, f1, Option.map_some, e_push, e_pushl, e_iload, e_lload, e_aload, e_istore, e_astore, e_lstore, e_iinc, e_iadd, e_isub, e_imul, e_iand, e_ior, e_ixor, e_ishl, e_ishr, e_iushr, e_idiv, e_irem, e_ladd, e_lsub, e_lmul, e_lcmp, e_mmax, e_mmin, e_i2l, e_l2i, e_i2b, e_i2c, e_dup, e_dup2, e_pop, e_icmp_eq, e_icmp_ne, e_icmp_lt, e_icmp_ge, e_icmp_gt, e_icmp_le, e_if_eq, e_if_ne, e_if_lt, e_if_ge, e_if_gt, e_if_le, e_getI, e_getR, e_putI, e_putZ, e_putR, e_iald, e_bald, e_zald, e_lald, e_aald, e_alen, e_iast, e_bast, e_zast, e_last, e_aast, e_iret, e_zret, e_lret, e_vret, e_obj, e_callV, e_callS, e_callT, e_acpy, e_ldcS, e_dn, e_ag, z_pop, List.getElem?_cons_zero, List.getElem?_cons_succ, List.set_cons_zero, List.set_cons_succ, List.length_cons, List.length_nil, z_nol, Option.map_some, Option.toList_some, Option.toList_none, List.cons_append, List.nil_append, n_lit, n_m1, n_m2, n_m1lt, n_m1le, n_rem, n_div, n_out, n_cl, n_eq, n_le, n_lt, n_add, n_mul, n_sub, n_nle, n_yle, n_nlt, n_ylt, n_neN, z_lay, z_sz, z_str, z_stI, z_stL, z_stR, eq_self, ↓reduceIte, true_and, and_true, and_self, false_and, and_false, or_self, false_or, or_false, true_or, or_true, not_true_eq_false, not_false_eq_true, Nat.reduceLeDiff, Nat.reduceLT, Nat.reduceAdd, Nat.reduceEqDiff, Nat.reduceMul, Nat.reduceSub, Value.category, Nat.zero_le, beq_self_eq_true]
    · rw [if_neg gk]
      exact ⟨fun _ => stop 0 n i I w g hm hn hT hO hi hw hlt hg hg4 gk, fun z => absurd rfl z⟩
  | succ m ih =>
    intro n i I w g hm hn hT hO hi hw hlt h19 hg hg4
    rw [seats2]
    by_cases gk : K i = 21
    · rw [if_pos gk]
      obtain ⟨J1, x, g1, w1, c2, c3, c4, c5, c6, c7, c8, c9⟩ := r_seat1 (L := L) h hS hT hO hi hw hlt h19 hsd hg hg4 (show n < 8 by omega) hr (Or.inr gk)
      have em : must2 K 21 i = adv i := if_pos gk
      rw [em] at c6 c8
      have f2 : frm (fun a _ => a = M + 15) J1 (z_up J1 (M + 15) (8 * (4 * sd + r) + n) (nI x)) := (frm.refl _ _).up rfl
      have fr : frm (pR M sd (4 * sd + r)) I (z_up J1 (M + 15) (8 * (4 * sd + r) + n) (nI x)) := (c9.weak fun a k => Or.inl).up (Or.inr ⟨rfl, by omega, by omega⟩)
      have st : q_lp bX12_tellRow_74 [some (Value.ref (M)), some (Value.int (nI (4 * sd + r))), some (Value.int (nI (tk))), some (Value.int (nI (n)))] [] (I, L, Z) = q_lp bX12_tellRow_74 [some (Value.ref (M)), some (Value.int (nI (4 * sd + r))), some (Value.int (nI (tk))), some (Value.int (nI (n + 1)))] [] (z_up J1 (M + 15) (8 * (4 * sd + r) + n) (nI x), L, Z) := by rw [q_lp_eq, c2 tk]
      by_cases ga : (adv i).1 = 0
      · obtain ⟨ap, ap4⟩ := adv_lt ga
        have ea : adv i = (0, i + 1) := Prod.ext ga ap
        rw [ea] at c6 c8 ⊢
        rw [thn_0]
        have oo := c6.1 rfl
        obtain ⟨e1, e2⟩ := c8 rfl
        have i1 : i + 1 < sz := hS.2.2.2.1 i hi (by omega) (by rw [gk]; unfold inn0; decide)
        obtain ⟨r1, r2⟩ := ih (n + 1) (i + 1) (z_up J1 (M + 15) (8 * (4 * sd + r) + n) (nI x)) w1 g1 (by omega) (by omega) (hT.kept fr pR_t) (oo.kept f2 (by omega) (by omega)) i1 (c7.kept f2 (by omega) (by omega)) (by rw [e1]; exact wc_lt hlt) (by rw [fr _ _ (by unfold pR pC pB; omega)]; exact h19) (by rw [zup_off (by omega)]; exact c4) c5
        refine ⟨fun z => ?_, fun z => ?_⟩
        · obtain ⟨J, n2, g2, w2, s1, s2, s3, s4, s5, s6, s7, s8, s9⟩ := r1 z
          have sp := (spn_seats (K := K) m (i + 1) (by omega)).2.1
          exact ⟨J, n2, g2, w2, st.trans s1, s2, by omega, s4, s5, s6, s7, stR.step hr gk (by omega) c9 e1 e2 s8, fr.trans s9⟩
        · obtain ⟨J, s1, s2, s3⟩ := r2 z
          exact ⟨J, st.trans s1, s2, fr.trans s3⟩
      · rw [thn_no ga]
        have fl := (c6.2 ga).kept f2 (by omega) (by omega) (by omega)
        exact ⟨fun z => absurd z ga, fun _ => ⟨_, st.trans (r_74F h fl), fl, fr⟩⟩
    · rw [if_neg gk]
      exact ⟨fun _ => stop (m + 1) n i I w g hm hn hT hO hi hw hlt hg hg4 gk, fun z => absurd rfl z⟩
