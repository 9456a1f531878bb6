/-! fill, and what is asked of a triangle -/
/-- a family's rows -/
def famI (I : Nat → Nat → Int32) (la ca r n : Nat) (c : Nat → Nat) : Prop := I la r = nI n ∧ n ≤ 8 ∧ ∀ i, i < n → I ca (r * 8 + i) = nI (c i)
theorem p_fill {I : Nat → Nat → Int32} {L : Nat → Nat → Int64} {Z : zZ} {b cb t ct tt a la ca r n : Nat} {ch : Nat → Nat → Nat} {c : Nat → Nat} (h : isTri Z t ct tt) (hb : isTab Z b cb) (hf : isFam Z a la ca) (hne : cb ≠ t ∧ cb ≠ ct ∧ cb ≠ tt) (hnf : la ≠ t ∧ la ≠ ct ∧ la ≠ tt ∧ ca ≠ t ∧ ca ≠ ct ∧ ca ≠ tt) (hT : tabI I cb ch) (hr : r < 4) (hF : famI I la ca r n c) (hc : ∀ i, i < n → c i < 4) (h0 : ∀ x, x < 4 → I tt x = nI 0) :
    ∃ I', fX10_fill [.ref t, .ref b, .ref a, .int (nI r)] (I, L, Z) = some (none, (I', L, Z)) ∧ trI I' t ct n ch c ∧ taI I' tt n ch c ∧ ∀ q, q ≠ t → q ≠ ct → q ≠ tt → I' q = I q := by
  obtain ⟨f1, f2, f3⟩ := hF
  obtain ⟨h1, h2, h3, h4, h5, h6, h7, h8⟩ := id h
  have htri : ∀ d i, d + i < n → tri ch c d i < 4 := tri_lt (fun a b ha hb => (hT a b ha hb).2) hc
  have e0 : fX10_fill [.ref t, .ref b, .ref a, .int (nI r)] (I, L, Z) = kX10_fill_0 [some (.ref t), some (.ref b), some (.ref a), some (.int (nI r)), none] [] (I, L, Z) := rfl
  rw [e0]
  simp (disch := omega) only [kX10_fill_0, kX10_fill_8, h1, q_push, q_pushl, q_iload, q_lload, q_aload, q_istore, q_astore, q_lstore, q_iinc, q_iadd, q_isub, q_imul, q_iand, q_ior, q_ixor, q_ishl, q_ishr, q_iushr, q_idiv, q_irem, q_ladd, q_lsub, q_lmul, q_lcmp, q_mmax, q_mmin, q_i2l, q_l2i, q_i2b, q_i2c, q_dup, q_dup2, q_pop, q_icmp_eq, q_icmp_ne, q_icmp_lt, q_icmp_ge, q_icmp_gt, q_icmp_le, q_if_eq, q_if_ne, q_if_lt, q_if_ge, q_if_gt, q_if_le, q_getI, q_getR, q_putI, q_putZ, q_putR, q_iald, q_bald, q_zald, q_lald, q_aald, q_alen, q_iast, q_bast, q_zast, q_last, q_aast, q_iret, q_zret, q_lret, q_vret, q_obj, q_callV, q_callS, q_callT, q_acpy, q_ldcS, q_dn, q_ag, z_pop, List.getElem?_cons_zero, List.getElem?_cons_succ, List.set_cons_zero, List.set_cons_succ, List.length_cons, List.length_nil, z_nol, Option.map_some, Option.toList_some, Option.toList_none, List.cons_append, List.nil_append, n_lit, n_m1, n_m2, n_m1lt, n_m1le, n_rem, n_div, n_out, n_cl, n_eq, n_le, n_lt, n_add, n_mul, n_sub, n_nle, n_yle, n_nlt, n_ylt, n_neN, z_lay, z_sz, z_str, z_stI, z_stL, z_stR, eq_self, reduceIte, true_and, and_true, and_self, false_and, and_false, or_self, false_or, or_false, true_or, or_true, not_true_eq_false, not_false_eq_true, Nat.reduceLeDiff, Nat.reduceLT, Nat.reduceAdd, Nat.reduceEqDiff, Nat.reduceMul, Nat.reduceSub, Value.category, Nat.zero_le, beq_self_eq_true]
  refine lp_ex
    (fun k ls σ => ∃ J : Nat → Nat → Int32, ls = [some (.ref t), some (.ref b), some (.ref a), some (.int (nI r)), some (.int (nI k))] ∧ σ = (J, L, Z) ∧ trI J t ct k ch c ∧ taI J tt k ch c ∧ ∀ q, q ≠ t → q ≠ ct → q ≠ tt → J q = I q) n ⟨_, rfl, rfl, ⟨if_pos ⟨rfl, rfl⟩, fun d i hdi => by omega⟩, fun s x hs hx => ?_, fun q hq _ _ => funext fun j => if_neg (fun z => hq z.1)⟩ ?_ ?_
  · have e : s = 0 := by omega
    subst e
    rw [show z_up I t 0 (nI 0) tt (0 * 4 + x) = I tt (0 * 4 + x) from if_neg (fun z => h7 z.1.symm), Nat.zero_mul, Nat.zero_add, h0 x hx]
    rfl
  · rintro ls σ ⟨J, rfl, rfl, q1, q2, q3⟩
    have a1 := p_lengthOf (I := J) (L := L) hf hr
    rw [q3 la hnf.1 hnf.2.1 hnf.2.2.1, f1] at a1
    refine ⟨J, ?_, q1, q2, q3⟩
    simp (disch := omega) only [bX10_fill_8, kX10_fill_44, hf.1, a1, q_push, q_pushl, q_iload, q_lload, q_aload, q_istore, q_astore, q_lstore, q_iinc, q_iadd, q_isub, q_imul, q_iand, q_ior, q_ixor, q_ishl, q_ishr, q_iushr, q_idiv, q_irem, q_ladd, q_lsub, q_lmul, q_lcmp, q_mmax, q_mmin, q_i2l, q_l2i, q_i2b, q_i2c, q_dup, q_dup2, q_pop, q_icmp_eq, q_icmp_ne, q_icmp_lt, q_icmp_ge, q_icmp_gt, q_icmp_le, q_if_eq, q_if_ne, q_if_lt, q_if_ge, q_if_gt, q_if_le, q_getI, q_getR, q_putI, q_putZ, q_putR, q_iald, q_bald, q_zald, q_lald, q_aald, q_alen, q_iast, q_bast, q_zast, q_last, q_aast, q_iret, q_zret, q_lret, q_vret, q_obj, q_callV, q_callS, q_callT, q_acpy, q_ldcS, q_dn, q_ag, z_pop, List.getElem?_cons_zero, List.getElem?_cons_succ, List.set_cons_zero, List.set_cons_succ, List.length_cons, List.length_nil, z_nol, Option.map_some, Option.toList_some, Option.toList_none, List.cons_append, List.nil_append, n_lit, n_m1, n_m2, n_m1lt, n_m1le, n_rem, n_div, n_out, n_cl, n_eq, n_le, n_lt, n_add, n_mul, n_sub, n_nle, n_yle, n_nlt, n_ylt, n_neN, z_lay, z_sz, z_str, z_stI, z_stL, z_stR, eq_self, reduceIte, true_and, and_true, and_self, false_and, and_false, or_self, false_or, or_false, true_or, or_true, not_true_eq_false, not_false_eq_true, Nat.reduceLeDiff, Nat.reduceLT, Nat.reduceAdd, Nat.reduceEqDiff, Nat.reduceMul, Nat.reduceSub, Value.category, Nat.zero_le, beq_self_eq_true]
  · rintro k hk ls σ ⟨J, rfl, rfl, q1, q2, q3⟩
    have a1 := p_lengthOf (I := J) (L := L) hf hr
    rw [q3 la hnf.1 hnf.2.1 hnf.2.2.1, f1] at a1
    have a2 := p_colourAt (I := J) (L := L) (i := k) hf hr (by omega)
    rw [q3 ca hnf.2.2.2.1 hnf.2.2.2.2.1 hnf.2.2.2.2.2, f3 k hk] at a2
    have hT' : tabI J cb ch := by
      unfold tabI
      rw [q3 cb hne.1 hne.2.1 hne.2.2]
      exact hT
    obtain ⟨K, a3, p1, p2, p3⟩ := p_put (I := J) (L := L) (s := k) (c := c) h hb ⟨hne.1, hne.2.1⟩ hT' (by omega) (fun i hi => hc i (by omega)) q1.2
    have hA : taI K tt k ch c := by
      unfold taI
      rw [p3 tt (Ne.symm h7) (Ne.symm h8)]
      exact q2
    obtain ⟨K2, a4, r1, r2⟩ := p_tallyEdge (I := K) (L := L) (s := k) h (by omega) (fun d i hdi => htri d i (by omega)) p1 hA
    refine ⟨_, (K2, L, Z), ?_, K2, rfl, rfl, ⟨?_, ?_⟩, r1, ?_⟩
    · simp (disch := omega) only [bX10_fill_8, hf.1, h1, a1, a2, a3, a4, q_push, q_pushl, q_iload, q_lload, q_aload, q_istore, q_astore, q_lstore, q_iinc, q_iadd, q_isub, q_imul, q_iand, q_ior, q_ixor, q_ishl, q_ishr, q_iushr, q_idiv, q_irem, q_ladd, q_lsub, q_lmul, q_lcmp, q_mmax, q_mmin, q_i2l, q_l2i, q_i2b, q_i2c, q_dup, q_dup2, q_pop, q_icmp_eq, q_icmp_ne, q_icmp_lt, q_icmp_ge, q_icmp_gt, q_icmp_le, q_if_eq, q_if_ne, q_if_lt, q_if_ge, q_if_gt, q_if_le, q_getI, q_getR, q_putI, q_putZ, q_putR, q_iald, q_bald, q_zald, q_lald, q_aald, q_alen, q_iast, q_bast, q_zast, q_last, q_aast, q_iret, q_zret, q_lret, q_vret, q_obj, q_callV, q_callS, q_callT, q_acpy, q_ldcS, q_dn, q_ag, z_pop, List.getElem?_cons_zero, List.getElem?_cons_succ, List.set_cons_zero, List.set_cons_succ, List.length_cons, List.length_nil, z_nol, Option.map_some, Option.toList_some, Option.toList_none, List.cons_append, List.nil_append, n_lit, n_m1, n_m2, n_m1lt, n_m1le, n_rem, n_div, n_out, n_cl, n_eq, n_le, n_lt, n_add, n_mul, n_sub, n_nle, n_yle, n_nlt, n_ylt, n_neN, z_lay, z_sz, z_str, z_stI, z_stL, z_stR, eq_self, reduceIte, true_and, and_true, and_self, false_and, and_false, or_self, false_or, or_false, true_or, or_true, not_true_eq_false, not_false_eq_true, Nat.reduceLeDiff, Nat.reduceLT, Nat.reduceAdd, Nat.reduceEqDiff, Nat.reduceMul, Nat.reduceSub, Value.category, Nat.zero_le, beq_self_eq_true]
    · rw [r2 t h7, p2]
    · intro d i hdi
      rw [r2 ct h8]
      exact p1 d i hdi
    · intro q hq1 hq2 hq3
      rw [r2 q hq3, p3 q hq1 hq2, q3 q hq1 hq2 hq3]
theorem p_tally {I : Nat → Nat → Int32} {L : Nat → Nat → Int64} {Z : zZ} {t ct tt n x : Nat} {ch : Nat → Nat → Nat} {c : Nat → Nat} (h : isTri Z t ct tt) (hA : taI I tt n ch c) (hn : n ≤ 8) (hx : x < 4) : fX10_tally [.ref t, .int (nI n), .int (nI x)] (I, L, Z) = some (some (.int (nI (tal ch c n x))), (I, L, Z)) := by
  obtain ⟨h1, h2, h3, h4, h5, h6, h7, h8⟩ := id h
  have v := hA n x (Nat.le_refl _) hx
  show kX10_tally_0 [some (.ref t), some (.int (nI n)), some (.int (nI x))] [] (I, L, Z) = _
  simp (disch := omega) only [kX10_tally_0, kX10_tally_25, kX10_tally_26, h1, h3, h5, n_and3, v, q_push, q_pushl, q_iload, q_lload, q_aload, q_istore, q_astore, q_lstore, q_iinc, q_iadd, q_isub, q_imul, q_iand, q_ior, q_ixor, q_ishl, q_ishr, q_iushr, q_idiv, q_irem, q_ladd, q_lsub, q_lmul, q_lcmp, q_mmax, q_mmin, q_i2l, q_l2i, q_i2b, q_i2c, q_dup, q_dup2, q_pop, q_icmp_eq, q_icmp_ne, q_icmp_lt, q_icmp_ge, q_icmp_gt, q_icmp_le, q_if_eq, q_if_ne, q_if_lt, q_if_ge, q_if_gt, q_if_le, q_getI, q_getR, q_putI, q_putZ, q_putR, q_iald, q_bald, q_zald, q_lald, q_aald, q_alen, q_iast, q_bast, q_zast, q_last, q_aast, q_iret, q_zret, q_lret, q_vret, q_obj, q_callV, q_callS, q_callT, q_acpy, q_ldcS, q_dn, q_ag, z_pop, List.getElem?_cons_zero, List.getElem?_cons_succ, List.set_cons_zero, List.set_cons_succ, List.length_cons, List.length_nil, z_nol, Option.map_some, Option.toList_some, Option.toList_none, List.cons_append, List.nil_append, n_lit, n_m1, n_m2, n_m1lt, n_m1le, n_rem, n_div, n_out, n_cl, n_eq, n_le, n_lt, n_add, n_mul, n_sub, n_nle, n_yle, n_nlt, n_ylt, n_neN, z_lay, z_sz, z_str, z_stI, z_stL, z_stR, eq_self, reduceIte, true_and, and_true, and_self, false_and, and_false, or_self, false_or, or_false, true_or, or_true, not_true_eq_false, not_false_eq_true, Nat.reduceLeDiff, Nat.reduceLT, Nat.reduceAdd, Nat.reduceEqDiff, Nat.reduceMul, Nat.reduceSub, Value.category, Nat.zero_le, beq_self_eq_true]
theorem p_lastChild {I : Nat → Nat → Int32} {L : Nat → Nat → Int64} {Z : zZ} {t ct tt n : Nat} {ch : Nat → Nat → Nat} {c : Nat → Nat} (h : isTri Z t ct tt) (hC : trI I t ct n ch c) (h0 : 0 < n) (hn : n ≤ 8) : fX10_lastChild [.ref t] (I, L, Z) = some (some (.int (nI (tri ch c (n - 1) 0))), (I, L, Z)) := by
  have a1 := p_cell (I := I) (L := L) (d := n - 1) (i := 0) h (by omega) (by omega)
  rw [hC.2 (n - 1) 0 (by omega)] at a1
  show kX10_lastChild_0 [some (.ref t)] [] (I, L, Z) = _
  simp (disch := omega) only [kX10_lastChild_0, h.1, hC.1, a1, q_push, q_pushl, q_iload, q_lload, q_aload, q_istore, q_astore, q_lstore, q_iinc, q_iadd, q_isub, q_imul, q_iand, q_ior, q_ixor, q_ishl, q_ishr, q_iushr, q_idiv, q_irem, q_ladd, q_lsub, q_lmul, q_lcmp, q_mmax, q_mmin, q_i2l, q_l2i, q_i2b, q_i2c, q_dup, q_dup2, q_pop, q_icmp_eq, q_icmp_ne, q_icmp_lt, q_icmp_ge, q_icmp_gt, q_icmp_le, q_if_eq, q_if_ne, q_if_lt, q_if_ge, q_if_gt, q_if_le, q_getI, q_getR, q_putI, q_putZ, q_putR, q_iald, q_bald, q_zald, q_lald, q_aald, q_alen, q_iast, q_bast, q_zast, q_last, q_aast, q_iret, q_zret, q_lret, q_vret, q_obj, q_callV, q_callS, q_callT, q_acpy, q_ldcS, q_dn, q_ag, z_pop, List.getElem?_cons_zero, List.getElem?_cons_succ, List.set_cons_zero, List.set_cons_succ, List.length_cons, List.length_nil, z_nol, Option.map_some, Option.toList_some, Option.toList_none, List.cons_append, List.nil_append, n_lit, n_m1, n_m2, n_m1lt, n_m1le, n_rem, n_div, n_out, n_cl, n_eq, n_le, n_lt, n_add, n_mul, n_sub, n_nle, n_yle, n_nlt, n_ylt, n_neN, z_lay, z_sz, z_str, z_stI, z_stL, z_stR, eq_self, reduceIte, true_and, and_true, and_self, false_and, and_false, or_self, false_or, or_false, true_or, or_true, not_true_eq_false, not_false_eq_true, Nat.reduceLeDiff, Nat.reduceLT, Nat.reduceAdd, Nat.reduceEqDiff, Nat.reduceMul, Nat.reduceSub, Value.category, Nat.zero_le, beq_self_eq_true]
/-- a fair triangle -/
def fairT (ch : Nat → Nat → Nat) (c : Nat → Nat) (n nc : Nat) : Prop := ∀ x y, x < nc → y < nc → tal ch c n x ≤ tal ch c n y + 1
def minN (f : Nat → Nat) : Nat → Nat
  | 0 => f 0
  | k + 1 => if f (k + 1) < minN f k then f (k + 1) else minN f k
def maxN (f : Nat → Nat) : Nat → Nat
  | 0 => f 0
  | k + 1 => if maxN f k < f (k + 1) then f (k + 1) else maxN f k
theorem minN_le (f : Nat → Nat) : ∀ k i, i ≤ k → minN f k ≤ f i
  | 0, i, h => by
    have e : i = 0 := by omega
    subst e
    exact Nat.le_refl _
  | k + 1, i, h => by
    have ih := minN_le f k
    rw [minN]
    rcases Nat.lt_or_ge k i with hl | hl
    · have e : i = k + 1 := by omega
      subst e
      split <;> omega
    · have := ih i hl
      split <;> omega
theorem minN_at (f : Nat → Nat) : ∀ k, ∃ i, i ≤ k ∧ minN f k = f i
  | 0 => ⟨0, Nat.le_refl _, rfl⟩
  | k + 1 => by
    obtain ⟨i, h1, h2⟩ := minN_at f k
    rw [minN]
    split
    · exact ⟨k + 1, Nat.le_refl _, rfl⟩
    · exact ⟨i, by omega, h2⟩
theorem le_maxN (f : Nat → Nat) : ∀ k i, i ≤ k → f i ≤ maxN f k
  | 0, i, h => by
    have e : i = 0 := by omega
    subst e
    exact Nat.le_refl _
  | k + 1, i, h => by
    have ih := le_maxN f k
    rw [maxN]
    rcases Nat.lt_or_ge k i with hl | hl
    · have e : i = k + 1 := by omega
      subst e
      split <;> omega
    · have := ih i hl
      split <;> omega
theorem maxN_at (f : Nat → Nat) : ∀ k, ∃ i, i ≤ k ∧ maxN f k = f i
  | 0 => ⟨0, Nat.le_refl _, rfl⟩
  | k + 1 => by
    obtain ⟨i, h1, h2⟩ := maxN_at f k
    rw [maxN]
    split
    · exact ⟨k + 1, Nat.le_refl _, rfl⟩
    · exact ⟨i, by omega, h2⟩
theorem fairT_iff {ch : Nat → Nat → Nat} {c : Nat → Nat} {n nc : Nat} (hnc : 2 ≤ nc) : fairT ch c n nc ↔ maxN (tal ch c n) (nc - 1) ≤ minN (tal ch c n) (nc - 1) + 1 := by
  constructor
  · intro h
    obtain ⟨i, h1, h2⟩ := maxN_at (tal ch c n) (nc - 1)
    obtain ⟨j, h3, h4⟩ := minN_at (tal ch c n) (nc - 1)
    rw [h2, h4]
    exact h i j (by omega) (by omega)
  · intro h x y hx hy
    have h1 := le_maxN (tal ch c n) (nc - 1) x (by omega)
    have h2 := minN_le (tal ch c n) (nc - 1) y (by omega)
    omega
