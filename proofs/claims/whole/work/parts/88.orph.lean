/-! rows without parents -/
/-- the right parents, by the left ones and the child -/
def rpR (ch : Nat → Nat → Nat) (s c l a : Nat) : Nat → Nat
  | 0 => a
  | k + 1 => if s / 2 ^ l % 2 = 1 ∧ ch l k = c then rpR ch s c l a k ||| 2 ^ k else rpR ch s c l a k
def rpL (ch : Nat → Nat → Nat) (nc s c : Nat) : Nat → Nat
  | 0 => 0
  | l + 1 => rpR ch s c l (rpL ch nc s c l) nc
def ofK (ch : Nat → Nat → Nat) (nc s c : Nat) : Nat → Nat
  | 0 => 0
  | k + 1 => if s / 2 ^ (k / 4) % 2 = 1 ∧ k % 4 < nc ∧ ch (k / 4) (k % 4) = c then ofK ch nc s c k ||| 2 ^ (k % 4) else ofK ch nc s c k
theorem rpR_lt {ch : Nat → Nat → Nat} {nc s c l a : Nat} (ha : a < 2 ^ nc) : ∀ {k : Nat}, k ≤ nc → rpR ch s c l a k < 2 ^ nc
  | 0, _ => ha
  | k + 1, h => by
    rw [rpR]
    split
    · exact or_lt16 (rpR_lt ha (by omega)) (p2_lt (by omega))
    · exact rpR_lt ha (by omega)
theorem rpL_lt {ch : Nat → Nat → Nat} {nc s c : Nat} : ∀ {l : Nat}, rpL ch nc s c l < 2 ^ nc
  | 0 => Nat.two_pow_pos nc
  | l + 1 => rpR_lt rpL_lt (Nat.le_refl _)
theorem ofK_lt {ch : Nat → Nat → Nat} {nc s c : Nat} : ∀ {k : Nat}, ofK ch nc s c k < 2 ^ nc
  | 0 => Nat.two_pow_pos nc
  | k + 1 => by
    rw [ofK]
    split
    · rename_i q
      exact or_lt16 ofK_lt (p2_lt q.2.1)
    · exact ofK_lt
theorem rpR_tb {ch : Nat → Nat → Nat} {s c l a j : Nat} : ∀ {k : Nat}, (rpR ch s c l a k).testBit j = true ↔ a.testBit j = true ∨ (j < k ∧ s.testBit l = true ∧ ch l j = c)
  | 0 => by simp [rpR]
  | k + 1 => by
    rw [rpR]
    split
    · rename_i q
      rw [Nat.testBit_or, Nat.testBit_two_pow, Bool.or_eq_true, rpR_tb (k := k), decide_eq_true_iff]
      have q1 := tb_iff.mp q.1
      constructor
      · rintro ((h | h) | h)
        · exact Or.inl h
        · exact Or.inr ⟨by omega, h.2⟩
        · subst h; exact Or.inr ⟨by omega, q1, q.2⟩
      · rintro (h | h)
        · exact Or.inl (Or.inl h)
        · by_cases e : k = j
          · exact Or.inr e
          · exact Or.inl (Or.inr ⟨by omega, h.2⟩)
    · rename_i q
      rw [rpR_tb (k := k)]
      constructor
      · rintro (h | h)
        · exact Or.inl h
        · exact Or.inr ⟨by omega, h.2⟩
      · rintro (h | h)
        · exact Or.inl h
        · by_cases e : j = k
          · subst e; exact absurd ⟨tb_iff.mpr h.2.1, h.2.2⟩ q
          · exact Or.inr ⟨by omega, h.2⟩
theorem rpL_tb {ch : Nat → Nat → Nat} {nc s c j : Nat} : ∀ {l : Nat}, (rpL ch nc s c l).testBit j = true ↔ ∃ k, k < l ∧ j < nc ∧ s.testBit k = true ∧ ch k j = c
  | 0 => by simp [rpL]
  | l + 1 => by
    rw [rpL, rpR_tb, rpL_tb (l := l)]
    constructor
    · rintro (⟨k, h1, h2⟩ | h)
      · exact ⟨k, by omega, h2⟩
      · exact ⟨l, by omega, h⟩
    · rintro ⟨k, h1, h2⟩
      by_cases e : k = l
      · subst e; exact Or.inr h2
      · exact Or.inl ⟨k, by omega, h2⟩
theorem ofK_tb {ch : Nat → Nat → Nat} {nc s c j : Nat} : ∀ {k : Nat}, (ofK ch nc s c k).testBit j = true ↔ ∃ i, i < k ∧ s.testBit (i / 4) = true ∧ j < nc ∧ i % 4 = j ∧ ch (i / 4) (i % 4) = c
  | 0 => by simp [ofK]
  | k + 1 => by
    rw [ofK]
    split
    · rename_i q
      rw [Nat.testBit_or, Nat.testBit_two_pow, Bool.or_eq_true, ofK_tb (k := k), decide_eq_true_iff]
      have q1 := tb_iff.mp q.1
      constructor
      · rintro (⟨i, h1, h2⟩ | h)
        · exact ⟨i, by omega, h2⟩
        · exact ⟨k, by omega, q1, by omega, h, q.2.2⟩
      · rintro ⟨i, h1, h2⟩
        by_cases e : i = k
        · subst e; exact Or.inr h2.2.2.1
        · exact Or.inl ⟨i, by omega, h2⟩
    · rename_i q
      rw [ofK_tb (k := k)]
      constructor
      · rintro ⟨i, h1, h2⟩
        exact ⟨i, by omega, h2⟩
      · rintro ⟨i, h1, h2⟩
        by_cases e : i = k
        · subst e; exact absurd ⟨tb_iff.mpr h2.1, by omega, h2.2.2.2⟩ q
        · exact ⟨i, by omega, h2⟩
theorem of_rp {ch : Nat → Nat → Nat} {nc s c : Nat} (h4 : nc ≤ 4) (hs : s < 2 ^ nc) : ofK ch nc s c 16 = rpL ch nc s c nc := sbN.anti (fun j hj => by
    obtain ⟨i, h1, h2, h3, h5, h6⟩ := ofK_tb.mp hj
    subst h5
    exact rpL_tb.mpr ⟨i / 4, tb_lt hs h2, h3, h2, h6⟩) (fun j hj => by
    obtain ⟨k, h1, h2, h3, h5⟩ := rpL_tb.mp hj
    refine ofK_tb.mpr ⟨k * 4 + j, by omega, ?_, h2, by omega, ?_⟩
    · rw [show (k * 4 + j) / 4 = k by omega]; exact h3
    · rw [show (k * 4 + j) / 4 = k by omega, show (k * 4 + j) % 4 = j by omega]; exact h5)
theorem p_rightParents {I : Nat → Nat → Int32} {L : Nat → Nat → Int64} {Z : zZ} {b cb nc s c : Nat} {ch : Nat → Nat → Nat} (h : isTab Z b cb) (hn : I b 0 = nI nc) (h2 : 2 ≤ nc) (h4 : nc ≤ 4) (hT : tabI I cb ch) (hs : s < 2 ^ nc) (hc : c < nc) : fX5_rightParents [.ref b, .int (nI s), .int (nI c)] (I, L, Z) = some (some (.int (nI (rpL ch nc s c nc))), (I, L, Z)) := by
  have h16 := lt16 h4
  show kX5_rightParents_0 [some (.ref (b)), some (.int (nI (s))), some (.int (nI (c))), none, none, none] [] (I, L, Z) = _
  simp (disch := omega) only [kX5_rightParents_0, kX5_rightParents_5, e_push, e_pushl, e_iload, e_lload, e_aload, e_istore, e_astore, e_lstore, e_iinc, e_iadd, e_isub, e_imul, e_iand, e_ior, e_ixor, e_ishl, e_ishr, e_iushr, e_idiv, e_irem, e_ladd, e_lsub, e_lmul, e_lcmp, e_mmax, e_mmin, e_i2l, e_l2i, e_i2b, e_i2c, e_dup, e_dup2, e_pop, e_icmp_eq, e_icmp_ne, e_icmp_lt, e_icmp_ge, e_icmp_gt, e_icmp_le, e_if_eq, e_if_ne, e_if_lt, e_if_ge, e_if_gt, e_if_le, e_getI, e_getR, e_putI, e_putZ, e_putR, e_iald, e_bald, e_zald, e_lald, e_aald, e_alen, e_iast, e_bast, e_zast, e_last, e_aast, e_iret, e_zret, e_lret, e_vret, e_obj, e_callV, e_callS, e_callT, e_acpy, e_ldcS, e_dn, e_ag, z_pop, List.getElem?_cons_zero, List.getElem?_cons_succ, List.set_cons_zero, List.set_cons_succ, List.length_cons, List.length_nil, z_nol, Option.map_some, Option.toList_some, Option.toList_none, List.cons_append, List.nil_append, n_lit, n_m1, n_m2, n_m1lt, n_m1le, n_rem, n_div, n_out, n_cl, n_eq, n_le, n_lt, n_add, n_mul, n_sub, n_nle, n_yle, n_nlt, n_ylt, n_neN, z_lay, z_sz, z_str, z_stI, z_stL, z_stR, eq_self, ↓reduceIte, true_and, and_true, and_self, false_and, and_false, or_self, false_or, or_false, true_or, or_true, not_true_eq_false, not_false_eq_true, Nat.reduceLeDiff, Nat.reduceLT, Nat.reduceAdd, Nat.reduceEqDiff, Nat.reduceMul, Nat.reduceSub, Value.category, Nat.zero_le, beq_self_eq_true]
  refine lp_one (fun l ls σ => ∃ x, ls = [some (.ref (b)), some (.int (nI (s))), some (.int (nI (c))), some (.int (nI (rpL ch nc s c l))), some (.int (nI (l))), x] ∧ σ = (I, L, Z)) nc ⟨none, rfl, rfl⟩ ?_ ?_
  · rintro ls σ ⟨x, rfl, rfl⟩
    simp (disch := omega) only [bX5_rightParents_5, kX5_rightParents_66, h.1, hn, e_push, e_pushl, e_iload, e_lload, e_aload, e_istore, e_astore, e_lstore, e_iinc, e_iadd, e_isub, e_imul, e_iand, e_ior, e_ixor, e_ishl, e_ishr, e_iushr, e_idiv, e_irem, e_ladd, e_lsub, e_lmul, e_lcmp, e_mmax, e_mmin, e_i2l, e_l2i, e_i2b, e_i2c, e_dup, e_dup2, e_pop, e_icmp_eq, e_icmp_ne, e_icmp_lt, e_icmp_ge, e_icmp_gt, e_icmp_le, e_if_eq, e_if_ne, e_if_lt, e_if_ge, e_if_gt, e_if_le, e_getI, e_getR, e_putI, e_putZ, e_putR, e_iald, e_bald, e_zald, e_lald, e_aald, e_alen, e_iast, e_bast, e_zast, e_last, e_aast, e_iret, e_zret, e_lret, e_vret, e_obj, e_callV, e_callS, e_callT, e_acpy, e_ldcS, e_dn, e_ag, z_pop, List.getElem?_cons_zero, List.getElem?_cons_succ, List.set_cons_zero, List.set_cons_succ, List.length_cons, List.length_nil, z_nol, Option.map_some, Option.toList_some, Option.toList_none, List.cons_append, List.nil_append, n_lit, n_m1, n_m2, n_m1lt, n_m1le, n_rem, n_div, n_out, n_cl, n_eq, n_le, n_lt, n_add, n_mul, n_sub, n_nle, n_yle, n_nlt, n_ylt, n_neN, z_lay, z_sz, z_str, z_stI, z_stL, z_stR, eq_self, ↓reduceIte, true_and, and_true, and_self, false_and, and_false, or_self, false_or, or_false, true_or, or_true, not_true_eq_false, not_false_eq_true, Nat.reduceLeDiff, Nat.reduceLT, Nat.reduceAdd, Nat.reduceEqDiff, Nat.reduceMul, Nat.reduceSub, Value.category, Nat.zero_le, beq_self_eq_true]
  · rintro l hl ls σ ⟨x, rfl, rfl⟩
    have e1 : bX5_rightParents_5 [some (.ref (b)), some (.int (nI (s))), some (.int (nI (c))), some (.int (nI (rpL ch nc s c l))), some (.int (nI (l))), x] [] (I, L, Z) = q_lp bX5_rightParents_17 [some (.ref (b)), some (.int (nI (s))), some (.int (nI (c))), some (.int (nI (rpL ch nc s c l))), some (.int (nI (l))), some (.int (nI (0)))] [] (I, L, Z) := by
      simp (disch := omega) only [bX5_rightParents_5, kX5_rightParents_17, h.1, hn, e_push, e_pushl, e_iload, e_lload, e_aload, e_istore, e_astore, e_lstore, e_iinc, e_iadd, e_isub, e_imul, e_iand, e_ior, e_ixor, e_ishl, e_ishr, e_iushr, e_idiv, e_irem, e_ladd, e_lsub, e_lmul, e_lcmp, e_mmax, e_mmin, e_i2l, e_l2i, e_i2b, e_i2c, e_dup, e_dup2, e_pop, e_icmp_eq, e_icmp_ne, e_icmp_lt, e_icmp_ge, e_icmp_gt, e_icmp_le, e_if_eq, e_if_ne, e_if_lt, e_if_ge, e_if_gt, e_if_le, e_getI, e_getR, e_putI, e_putZ, e_putR, e_iald, e_bald, e_zald, e_lald, e_aald, e_alen, e_iast, e_bast, e_zast, e_last, e_aast, e_iret, e_zret, e_lret, e_vret, e_obj, e_callV, e_callS, e_callT, e_acpy, e_ldcS, e_dn, e_ag, z_pop, List.getElem?_cons_zero, List.getElem?_cons_succ, List.set_cons_zero, List.set_cons_succ, List.length_cons, List.length_nil, z_nol, Option.map_some, Option.toList_some, Option.toList_none, List.cons_append, List.nil_append, n_lit, n_m1, n_m2, n_m1lt, n_m1le, n_rem, n_div, n_out, n_cl, n_eq, n_le, n_lt, n_add, n_mul, n_sub, n_nle, n_yle, n_nlt, n_ylt, n_neN, z_lay, z_sz, z_str, z_stI, z_stL, z_stR, eq_self, ↓reduceIte, true_and, and_true, and_self, false_and, and_false, or_self, false_or, or_false, true_or, or_true, not_true_eq_false, not_false_eq_true, Nat.reduceLeDiff, Nat.reduceLT, Nat.reduceAdd, Nat.reduceEqDiff, Nat.reduceMul, Nat.reduceSub, Value.category, Nat.zero_le, beq_self_eq_true]
    refine ⟨[some (.ref (b)), some (.int (nI (s))), some (.int (nI (c))), some (.int (nI (rpL ch nc s c (l + 1)))), some (.int (nI (l + 1))), some (.int (nI (nc)))], (I, L, Z), ?_, _, rfl, rfl⟩
    rw [e1]
    refine lp_for (fun k => [some (.ref (b)), some (.int (nI (s))), some (.int (nI (c))), some (.int (nI (rpR ch s c l (rpL ch nc s c l) k))), some (.int (nI (l))), some (.int (nI (k)))]) (fun _ => (I, L, Z)) nc ?_ ?_
    · have e2 : rpL ch nc s c (l + 1) = rpR ch s c l (rpL ch nc s c l) nc := rfl
      rw [e2]
      simp (disch := omega) only [bX5_rightParents_17, kX5_rightParents_60, h.1, hn, e_push, e_pushl, e_iload, e_lload, e_aload, e_istore, e_astore, e_lstore, e_iinc, e_iadd, e_isub, e_imul, e_iand, e_ior, e_ixor, e_ishl, e_ishr, e_iushr, e_idiv, e_irem, e_ladd, e_lsub, e_lmul, e_lcmp, e_mmax, e_mmin, e_i2l, e_l2i, e_i2b, e_i2c, e_dup, e_dup2, e_pop, e_icmp_eq, e_icmp_ne, e_icmp_lt, e_icmp_ge, e_icmp_gt, e_icmp_le, e_if_eq, e_if_ne, e_if_lt, e_if_ge, e_if_gt, e_if_le, e_getI, e_getR, e_putI, e_putZ, e_putR, e_iald, e_bald, e_zald, e_lald, e_aald, e_alen, e_iast, e_bast, e_zast, e_last, e_aast, e_iret, e_zret, e_lret, e_vret, e_obj, e_callV, e_callS, e_callT, e_acpy, e_ldcS, e_dn, e_ag, z_pop, List.getElem?_cons_zero, List.getElem?_cons_succ, List.set_cons_zero, List.set_cons_succ, List.length_cons, List.length_nil, z_nol, Option.map_some, Option.toList_some, Option.toList_none, List.cons_append, List.nil_append, n_lit, n_m1, n_m2, n_m1lt, n_m1le, n_rem, n_div, n_out, n_cl, n_eq, n_le, n_lt, n_add, n_mul, n_sub, n_nle, n_yle, n_nlt, n_ylt, n_neN, z_lay, z_sz, z_str, z_stI, z_stL, z_stR, eq_self, ↓reduceIte, true_and, and_true, and_self, false_and, and_false, or_self, false_or, or_false, true_or, or_true, not_true_eq_false, not_false_eq_true, Nat.reduceLeDiff, Nat.reduceLT, Nat.reduceAdd, Nat.reduceEqDiff, Nat.reduceMul, Nat.reduceSub, Value.category, Nat.zero_le, beq_self_eq_true]
    · intro k hk
      have c1 := p_hasCol (σ := (I, L, Z)) (s := s) (k := l) (by omega) (by omega)
      have c2 := p_childOf (I := I) (L := L) (x := l) (y := k) h hT (by omega) (by omega)
      have t2 := (hT l k (by omega) (by omega)).2
      have e3 : rpR ch s c l (rpL ch nc s c l) (k + 1) = if s / 2 ^ l % 2 = 1 ∧ ch l k = c then rpR ch s c l (rpL ch nc s c l) k ||| 2 ^ k else rpR ch s c l (rpL ch nc s c l) k := rfl
      rcases (by omega : s / 2 ^ l % 2 = 0 ∨ s / 2 ^ l % 2 = 1) with q1 | q1
      · rw [q1] at c1
        rw [e3, if_neg (by omega)]
        simp (disch := omega) only [bX5_rightParents_17, kX5_rightParents_54, h.1, hn, c1, e_push, e_pushl, e_iload, e_lload, e_aload, e_istore, e_astore, e_lstore, e_iinc, e_iadd, e_isub, e_imul, e_iand, e_ior, e_ixor, e_ishl, e_ishr, e_iushr, e_idiv, e_irem, e_ladd, e_lsub, e_lmul, e_lcmp, e_mmax, e_mmin, e_i2l, e_l2i, e_i2b, e_i2c, e_dup, e_dup2, e_pop, e_icmp_eq, e_icmp_ne, e_icmp_lt, e_icmp_ge, e_icmp_gt, e_icmp_le, e_if_eq, e_if_ne, e_if_lt, e_if_ge, e_if_gt, e_if_le, e_getI, e_getR, e_putI, e_putZ, e_putR, e_iald, e_bald, e_zald, e_lald, e_aald, e_alen, e_iast, e_bast, e_zast, e_last, e_aast, e_iret, e_zret, e_lret, e_vret, e_obj, e_callV, e_callS, e_callT, e_acpy, e_ldcS, e_dn, e_ag, z_pop, List.getElem?_cons_zero, List.getElem?_cons_succ, List.set_cons_zero, List.set_cons_succ, List.length_cons, List.length_nil, z_nol, Option.map_some, Option.toList_some, Option.toList_none, List.cons_append, List.nil_append, n_lit, n_m1, n_m2, n_m1lt, n_m1le, n_rem, n_div, n_out, n_cl, n_eq, n_le, n_lt, n_add, n_mul, n_sub, n_nle, n_yle, n_nlt, n_ylt, n_neN, z_lay, z_sz, z_str, z_stI, z_stL, z_stR, eq_self, ↓reduceIte, true_and, and_true, and_self, false_and, and_false, or_self, false_or, or_false, true_or, or_true, not_true_eq_false, not_false_eq_true, Nat.reduceLeDiff, Nat.reduceLT, Nat.reduceAdd, Nat.reduceEqDiff, Nat.reduceMul, Nat.reduceSub, Value.category, Nat.zero_le, beq_self_eq_true]
      · rw [q1] at c1
        by_cases q2 : ch l k = c
        · rw [q2] at c2
          rw [e3, if_pos ⟨q1, q2⟩]
          simp (disch := omega) only [bX5_rightParents_17, kX5_rightParents_54, h.1, hn, c1, c2, n_shl, n_or, e_push, e_pushl, e_iload, e_lload, e_aload, e_istore, e_astore, e_lstore, e_iinc, e_iadd, e_isub, e_imul, e_iand, e_ior, e_ixor, e_ishl, e_ishr, e_iushr, e_idiv, e_irem, e_ladd, e_lsub, e_lmul, e_lcmp, e_mmax, e_mmin, e_i2l, e_l2i, e_i2b, e_i2c, e_dup, e_dup2, e_pop, e_icmp_eq, e_icmp_ne, e_icmp_lt, e_icmp_ge, e_icmp_gt, e_icmp_le, e_if_eq, e_if_ne, e_if_lt, e_if_ge, e_if_gt, e_if_le, e_getI, e_getR, e_putI, e_putZ, e_putR, e_iald, e_bald, e_zald, e_lald, e_aald, e_alen, e_iast, e_bast, e_zast, e_last, e_aast, e_iret, e_zret, e_lret, e_vret, e_obj, e_callV, e_callS, e_callT, e_acpy, e_ldcS, e_dn, e_ag, z_pop, List.getElem?_cons_zero, List.getElem?_cons_succ, List.set_cons_zero, List.set_cons_succ, List.length_cons, List.length_nil, z_nol, Option.map_some, Option.toList_some, Option.toList_none, List.cons_append, List.nil_append, n_lit, n_m1, n_m2, n_m1lt, n_m1le, n_rem, n_div, n_out, n_cl, n_eq, n_le, n_lt, n_add, n_mul, n_sub, n_nle, n_yle, n_nlt, n_ylt, n_neN, z_lay, z_sz, z_str, z_stI, z_stL, z_stR, eq_self, ↓reduceIte, true_and, and_true, and_self, false_and, and_false, or_self, false_or, or_false, true_or, or_true, not_true_eq_false, not_false_eq_true, Nat.reduceLeDiff, Nat.reduceLT, Nat.reduceAdd, Nat.reduceEqDiff, Nat.reduceMul, Nat.reduceSub, Value.category, Nat.zero_le, beq_self_eq_true]
        · rw [e3, if_neg (fun z => q2 z.2)]
          simp (disch := omega) only [bX5_rightParents_17, kX5_rightParents_54, h.1, hn, c1, c2, q2, e_push, e_pushl, e_iload, e_lload, e_aload, e_istore, e_astore, e_lstore, e_iinc, e_iadd, e_isub, e_imul, e_iand, e_ior, e_ixor, e_ishl, e_ishr, e_iushr, e_idiv, e_irem, e_ladd, e_lsub, e_lmul, e_lcmp, e_mmax, e_mmin, e_i2l, e_l2i, e_i2b, e_i2c, e_dup, e_dup2, e_pop, e_icmp_eq, e_icmp_ne, e_icmp_lt, e_icmp_ge, e_icmp_gt, e_icmp_le, e_if_eq, e_if_ne, e_if_lt, e_if_ge, e_if_gt, e_if_le, e_getI, e_getR, e_putI, e_putZ, e_putR, e_iald, e_bald, e_zald, e_lald, e_aald, e_alen, e_iast, e_bast, e_zast, e_last, e_aast, e_iret, e_zret, e_lret, e_vret, e_obj, e_callV, e_callS, e_callT, e_acpy, e_ldcS, e_dn, e_ag, z_pop, List.getElem?_cons_zero, List.getElem?_cons_succ, List.set_cons_zero, List.set_cons_succ, List.length_cons, List.length_nil, z_nol, Option.map_some, Option.toList_some, Option.toList_none, List.cons_append, List.nil_append, n_lit, n_m1, n_m2, n_m1lt, n_m1le, n_rem, n_div, n_out, n_cl, n_eq, n_le, n_lt, n_add, n_mul, n_sub, n_nle, n_yle, n_nlt, n_ylt, n_neN, z_lay, z_sz, z_str, z_stI, z_stL, z_stR, eq_self, ↓reduceIte, true_and, and_true, and_self, false_and, and_false, or_self, false_or, or_false, true_or, or_true, not_true_eq_false, not_false_eq_true, Nat.reduceLeDiff, Nat.reduceLT, Nat.reduceAdd, Nat.reduceEqDiff, Nat.reduceMul, Nat.reduceSub, Value.category, Nat.zero_le, beq_self_eq_true]
theorem r_onFrom {I : Nat → Nat → Int32} {L : Nat → Nat → Int64} {Z : zZ} {M lv nc s c : Nat} {ch : Nat → Nat → Nat} (h : isMod Z M) (hT : refTab I M lv nc ch) (hs : s < 16) (hc : c < nc) : fX12_onFrom [.ref M, .int (nI s), .int (nI c)] (I, L, Z) = some (some (.int (nI (ofK ch nc s c 16))), (I, L, Z)) := by
  have h4 := hT.2.2.2.2.1
  show kX12_onFrom_0 [some (.ref (M)), some (.int (nI (s))), some (.int (nI (c))), none, none] [] (I, L, Z) = _
  simp (disch := omega) only [kX12_onFrom_0, kX12_onFrom_5, e_push, e_pushl, e_iload, e_lload, e_aload, e_istore, e_astore, e_lstore, e_iinc, e_iadd, e_isub, e_imul, e_iand, e_ior, e_ixor, e_ishl, e_ishr, e_iushr, e_idiv, e_irem, e_ladd, e_lsub, e_lmul, e_lcmp, e_mmax, e_mmin, e_i2l, e_l2i, e_i2b, e_i2c, e_dup, e_dup2, e_pop, e_icmp_eq, e_icmp_ne, e_icmp_lt, e_icmp_ge, e_icmp_gt, e_icmp_le, e_if_eq, e_if_ne, e_if_lt, e_if_ge, e_if_gt, e_if_le, e_getI, e_getR, e_putI, e_putZ, e_putR, e_iald, e_bald, e_zald, e_lald, e_aald, e_alen, e_iast, e_bast, e_zast, e_last, e_aast, e_iret, e_zret, e_lret, e_vret, e_obj, e_callV, e_callS, e_callT, e_acpy, e_ldcS, e_dn, e_ag, z_pop, List.getElem?_cons_zero, List.getElem?_cons_succ, List.set_cons_zero, List.set_cons_succ, List.length_cons, List.length_nil, z_nol, Option.map_some, Option.toList_some, Option.toList_none, List.cons_append, List.nil_append, n_lit, n_m1, n_m2, n_m1lt, n_m1le, n_rem, n_div, n_out, n_cl, n_eq, n_le, n_lt, n_add, n_mul, n_sub, n_nle, n_yle, n_nlt, n_ylt, n_neN, z_lay, z_sz, z_str, z_stI, z_stL, z_stR, eq_self, ↓reduceIte, true_and, and_true, and_self, false_and, and_false, or_self, false_or, or_false, true_or, or_true, not_true_eq_false, not_false_eq_true, Nat.reduceLeDiff, Nat.reduceLT, Nat.reduceAdd, Nat.reduceEqDiff, Nat.reduceMul, Nat.reduceSub, Value.category, Nat.zero_le, beq_self_eq_true]
  refine lp_for (fun k => [some (.ref (M)), some (.int (nI (s))), some (.int (nI (c))), some (.int (nI (ofK ch nc s c k))), some (.int (nI (k)))]) (fun _ => (I, L, Z)) 16 ?_ ?_
  · simp (disch := omega) only [bX12_onFrom_5, kX12_onFrom_66, e_push, e_pushl, e_iload, e_lload, e_aload, e_istore, e_astore, e_lstore, e_iinc, e_iadd, e_isub, e_imul, e_iand, e_ior, e_ixor, e_ishl, e_ishr, e_iushr, e_idiv, e_irem, e_ladd, e_lsub, e_lmul, e_lcmp, e_mmax, e_mmin, e_i2l, e_l2i, e_i2b, e_i2c, e_dup, e_dup2, e_pop, e_icmp_eq, e_icmp_ne, e_icmp_lt, e_icmp_ge, e_icmp_gt, e_icmp_le, e_if_eq, e_if_ne, e_if_lt, e_if_ge, e_if_gt, e_if_le, e_getI, e_getR, e_putI, e_putZ, e_putR, e_iald, e_bald, e_zald, e_lald, e_aald, e_alen, e_iast, e_bast, e_zast, e_last, e_aast, e_iret, e_zret, e_lret, e_vret, e_obj, e_callV, e_callS, e_callT, e_acpy, e_ldcS, e_dn, e_ag, z_pop, List.getElem?_cons_zero, List.getElem?_cons_succ, List.set_cons_zero, List.set_cons_succ, List.length_cons, List.length_nil, z_nol, Option.map_some, Option.toList_some, Option.toList_none, List.cons_append, List.nil_append, n_lit, n_m1, n_m2, n_m1lt, n_m1le, n_rem, n_div, n_out, n_cl, n_eq, n_le, n_lt, n_add, n_mul, n_sub, n_nle, n_yle, n_nlt, n_ylt, n_neN, z_lay, z_sz, z_str, z_stI, z_stL, z_stR, eq_self, ↓reduceIte, true_and, and_true, and_self, false_and, and_false, or_self, false_or, or_false, true_or, or_true, not_true_eq_false, not_false_eq_true, Nat.reduceLeDiff, Nat.reduceLT, Nat.reduceAdd, Nat.reduceEqDiff, Nat.reduceMul, Nat.reduceSub, Value.category, Nat.zero_le, beq_self_eq_true]
  · intro k hk
    have b := n_bitS (k / 4) (by omega) s hs
    have c1 := r_colK (I := I) (L := L) (k := k % 4) h hT (by omega)
    have c2 := r_childOf (I := I) (L := L) (a := k / 4) (b := k % 4) h hT (by omega) (by omega)
    have t2 := (hT.2.2.2.2.2 (k / 4) (k % 4) (by omega) (by omega)).1
    have e3 : ofK ch nc s c (k + 1) = if s / 2 ^ (k / 4) % 2 = 1 ∧ k % 4 < nc ∧ ch (k / 4) (k % 4) = c then ofK ch nc s c k ||| 2 ^ (k % 4) else ofK ch nc s c k := rfl
    rcases (by omega : s / 2 ^ (k / 4) % 2 = 0 ∨ s / 2 ^ (k / 4) % 2 = 1) with q1 | q1
    · rw [q1] at b
      rw [e3, if_neg (by omega)]
      simp (disch := omega) only [bX12_onFrom_5, kX12_onFrom_60, b, e_push, e_pushl, e_iload, e_lload, e_aload, e_istore, e_astore, e_lstore, e_iinc, e_iadd, e_isub, e_imul, e_iand, e_ior, e_ixor, e_ishl, e_ishr, e_iushr, e_idiv, e_irem, e_ladd, e_lsub, e_lmul, e_lcmp, e_mmax, e_mmin, e_i2l, e_l2i, e_i2b, e_i2c, e_dup, e_dup2, e_pop, e_icmp_eq, e_icmp_ne, e_icmp_lt, e_icmp_ge, e_icmp_gt, e_icmp_le, e_if_eq, e_if_ne, e_if_lt, e_if_ge, e_if_gt, e_if_le, e_getI, e_getR, e_putI, e_putZ, e_putR, e_iald, e_bald, e_zald, e_lald, e_aald, e_alen, e_iast, e_bast, e_zast, e_last, e_aast, e_iret, e_zret, e_lret, e_vret, e_obj, e_callV, e_callS, e_callT, e_acpy, e_ldcS, e_dn, e_ag, z_pop, List.getElem?_cons_zero, List.getElem?_cons_succ, List.set_cons_zero, List.set_cons_succ, List.length_cons, List.length_nil, z_nol, Option.map_some, Option.toList_some, Option.toList_none, List.cons_append, List.nil_append, n_lit, n_m1, n_m2, n_m1lt, n_m1le, n_rem, n_div, n_out, n_cl, n_eq, n_le, n_lt, n_add, n_mul, n_sub, n_nle, n_yle, n_nlt, n_ylt, n_neN, z_lay, z_sz, z_str, z_stI, z_stL, z_stR, eq_self, ↓reduceIte, true_and, and_true, and_self, false_and, and_false, or_self, false_or, or_false, true_or, or_true, not_true_eq_false, not_false_eq_true, Nat.reduceLeDiff, Nat.reduceLT, Nat.reduceAdd, Nat.reduceEqDiff, Nat.reduceMul, Nat.reduceSub, Value.category, Nat.zero_le, beq_self_eq_true]
    · rw [q1] at b
      by_cases q2 : k % 4 < nc
      · rw [if_pos q2] at c1
        by_cases q3 : ch (k / 4) (k % 4) = c
        · rw [q3] at c2
          rw [e3, if_pos ⟨q1, q2, q3⟩]
          simp (disch := omega) only [bX12_onFrom_5, kX12_onFrom_60, h.1, b, c1, c2, n_shl, n_or, e_push, e_pushl, e_iload, e_lload, e_aload, e_istore, e_astore, e_lstore, e_iinc, e_iadd, e_isub, e_imul, e_iand, e_ior, e_ixor, e_ishl, e_ishr, e_iushr, e_idiv, e_irem, e_ladd, e_lsub, e_lmul, e_lcmp, e_mmax, e_mmin, e_i2l, e_l2i, e_i2b, e_i2c, e_dup, e_dup2, e_pop, e_icmp_eq, e_icmp_ne, e_icmp_lt, e_icmp_ge, e_icmp_gt, e_icmp_le, e_if_eq, e_if_ne, e_if_lt, e_if_ge, e_if_gt, e_if_le, e_getI, e_getR, e_putI, e_putZ, e_putR, e_iald, e_bald, e_zald, e_lald, e_aald, e_alen, e_iast, e_bast, e_zast, e_last, e_aast, e_iret, e_zret, e_lret, e_vret, e_obj, e_callV, e_callS, e_callT, e_acpy, e_ldcS, e_dn, e_ag, z_pop, List.getElem?_cons_zero, List.getElem?_cons_succ, List.set_cons_zero, List.set_cons_succ, List.length_cons, List.length_nil, z_nol, Option.map_some, Option.toList_some, Option.toList_none, List.cons_append, List.nil_append, n_lit, n_m1, n_m2, n_m1lt, n_m1le, n_rem, n_div, n_out, n_cl, n_eq, n_le, n_lt, n_add, n_mul, n_sub, n_nle, n_yle, n_nlt, n_ylt, n_neN, z_lay, z_sz, z_str, z_stI, z_stL, z_stR, eq_self, ↓reduceIte, true_and, and_true, and_self, false_and, and_false, or_self, false_or, or_false, true_or, or_true, not_true_eq_false, not_false_eq_true, Nat.reduceLeDiff, Nat.reduceLT, Nat.reduceAdd, Nat.reduceEqDiff, Nat.reduceMul, Nat.reduceSub, Value.category, Nat.zero_le, beq_self_eq_true]
        · rw [e3, if_neg (fun z => q3 z.2.2)]
          simp (disch := omega) only [bX12_onFrom_5, kX12_onFrom_60, h.1, b, c1, c2, q3, e_push, e_pushl, e_iload, e_lload, e_aload, e_istore, e_astore, e_lstore, e_iinc, e_iadd, e_isub, e_imul, e_iand, e_ior, e_ixor, e_ishl, e_ishr, e_iushr, e_idiv, e_irem, e_ladd, e_lsub, e_lmul, e_lcmp, e_mmax, e_mmin, e_i2l, e_l2i, e_i2b, e_i2c, e_dup, e_dup2, e_pop, e_icmp_eq, e_icmp_ne, e_icmp_lt, e_icmp_ge, e_icmp_gt, e_icmp_le, e_if_eq, e_if_ne, e_if_lt, e_if_ge, e_if_gt, e_if_le, e_getI, e_getR, e_putI, e_putZ, e_putR, e_iald, e_bald, e_zald, e_lald, e_aald, e_alen, e_iast, e_bast, e_zast, e_last, e_aast, e_iret, e_zret, e_lret, e_vret, e_obj, e_callV, e_callS, e_callT, e_acpy, e_ldcS, e_dn, e_ag, z_pop, List.getElem?_cons_zero, List.getElem?_cons_succ, List.set_cons_zero, List.set_cons_succ, List.length_cons, List.length_nil, z_nol, Option.map_some, Option.toList_some, Option.toList_none, List.cons_append, List.nil_append, n_lit, n_m1, n_m2, n_m1lt, n_m1le, n_rem, n_div, n_out, n_cl, n_eq, n_le, n_lt, n_add, n_mul, n_sub, n_nle, n_yle, n_nlt, n_ylt, n_neN, z_lay, z_sz, z_str, z_stI, z_stL, z_stR, eq_self, ↓reduceIte, true_and, and_true, and_self, false_and, and_false, or_self, false_or, or_false, true_or, or_true, not_true_eq_false, not_false_eq_true, Nat.reduceLeDiff, Nat.reduceLT, Nat.reduceAdd, Nat.reduceEqDiff, Nat.reduceMul, Nat.reduceSub, Value.category, Nat.zero_le, beq_self_eq_true]
      · rw [if_neg q2] at c1
        rw [e3, if_neg (fun z => q2 z.2.1)]
        simp (disch := omega) only [bX12_onFrom_5, kX12_onFrom_60, h.1, b, c1, e_push, e_pushl, e_iload, e_lload, e_aload, e_istore, e_astore, e_lstore, e_iinc, e_iadd, e_isub, e_imul, e_iand, e_ior, e_ixor, e_ishl, e_ishr, e_iushr, e_idiv, e_irem, e_ladd, e_lsub, e_lmul, e_lcmp, e_mmax, e_mmin, e_i2l, e_l2i, e_i2b, e_i2c, e_dup, e_dup2, e_pop, e_icmp_eq, e_icmp_ne, e_icmp_lt, e_icmp_ge, e_icmp_gt, e_icmp_le, e_if_eq, e_if_ne, e_if_lt, e_if_ge, e_if_gt, e_if_le, e_getI, e_getR, e_putI, e_putZ, e_putR, e_iald, e_bald, e_zald, e_lald, e_aald, e_alen, e_iast, e_bast, e_zast, e_last, e_aast, e_iret, e_zret, e_lret, e_vret, e_obj, e_callV, e_callS, e_callT, e_acpy, e_ldcS, e_dn, e_ag, z_pop, List.getElem?_cons_zero, List.getElem?_cons_succ, List.set_cons_zero, List.set_cons_succ, List.length_cons, List.length_nil, z_nol, Option.map_some, Option.toList_some, Option.toList_none, List.cons_append, List.nil_append, n_lit, n_m1, n_m2, n_m1lt, n_m1le, n_rem, n_div, n_out, n_cl, n_eq, n_le, n_lt, n_add, n_mul, n_sub, n_nle, n_yle, n_nlt, n_ylt, n_neN, z_lay, z_sz, z_str, z_stI, z_stL, z_stR, eq_self, ↓reduceIte, true_and, and_true, and_self, false_and, and_false, or_self, false_or, or_false, true_or, or_true, not_true_eq_false, not_false_eq_true, Nat.reduceLeDiff, Nat.reduceLT, Nat.reduceAdd, Nat.reduceEqDiff, Nat.reduceMul, Nat.reduceSub, Value.category, Nat.zero_le, beq_self_eq_true]
/-- what is counted, one seat more -/
def orC (R : Nat → Nat → Nat) (f : Nat → Int32) (s : Nat) (g : Nat → Int32) : Nat → Nat → Int32
  | 0 => g
  | c + 1 => fun u => if u = R s c then orC R f s g c u + f s else orC R f s g c u
def orS (R : Nat → Nat → Nat) (f : Nat → Int32) (nc : Nat) : Nat → Nat → Int32
  | 0 => fun _ => nI 0
  | s + 1 => orC R f s (orS R f nc s) nc
def orN (R : Nat → Nat → Nat) (nc : Nat) : Nat → Nat → Int32
  | 0 => fun u => if u = 2 ^ nc - 1 then nI 1 else nI 0
  | i + 1 => orS R (orN R nc i) nc (2 ^ nc)
theorem orC_congr {R R' : Nat → Nat → Nat} {f f' : Nat → Int32} {s nc : Nat} {g g' : Nat → Int32} (hg : g = g') (hf : f s = f' s) : ∀ k, k ≤ nc → (∀ c, c < nc → R s c = R' s c) → orC R f s g k = orC R' f' s g' k := by
  intro k hk hR
  induction k with
  | zero => exact hg
  | succ k ih =>
    funext u
    show (if u = R s k then orC R f s g k u + f s else orC R f s g k u) = (if u = R' s k then orC R' f' s g' k u + f' s else orC R' f' s g' k u)
    rw [ih (by omega), hR k (by omega), hf]
theorem orS_congr {R R' : Nat → Nat → Nat} {f f' : Nat → Int32} {nc : Nat} : ∀ m, (∀ s, s < m → f s = f' s ∧ ∀ c, c < nc → R s c = R' s c) → orS R f nc m = orS R' f' nc m
  | 0, _ => rfl
  | m + 1, h => orC_congr (orS_congr m (fun s hs => h s (by omega))) (h m (by omega)).1 nc (Nat.le_refl _) (h m (by omega)).2
theorem orC_zero {R : Nat → Nat → Nat} {f : Nat → Int32} {s : Nat} {g : Nat → Int32} (hf : f s = nI 0) : ∀ k, orC R f s g k = g
  | 0 => rfl
  | k + 1 => by
    funext u
    show (if u = R s k then orC R f s g k u + f s else orC R f s g k u) = g u
    rw [orC_zero hf k, hf, i_add0]
    split <;> rfl
theorem orS_more {R : Nat → Nat → Nat} {f : Nat → Int32} {nc m : Nat} : ∀ d, (∀ s, m ≤ s → f s = nI 0) → orS R f nc (m + d) = orS R f nc m
  | 0, _ => rfl
  | d + 1, h => (orC_zero (h (m + d) (by omega)) nc).trans (orS_more d h)
theorem orC_out {R : Nat → Nat → Nat} {f : Nat → Int32} {s nc m : Nat} {g : Nat → Int32} (hg : ∀ u, m ≤ u → g u = nI 0) (hR : ∀ c, R s c < m) : ∀ k u, m ≤ u → orC R f s g k u = nI 0
  | 0, u, h => hg u h
  | k + 1, u, h => by
    show (if u = R s k then orC R f s g k u + f s else orC R f s g k u) = nI 0
    rw [if_neg (by have := hR k; omega)]
    exact orC_out (nc := nc) hg hR k u h
theorem orS_out {R : Nat → Nat → Nat} {f : Nat → Int32} {nc m : Nat} (hR : ∀ s c, R s c < m) : ∀ t u, m ≤ u → orS R f nc t u = nI 0
  | 0, _, _ => rfl
  | t + 1, u, h => orC_out (nc := nc) (orS_out hR t) (hR t) nc u h
theorem orN_out {R : Nat → Nat → Nat} {nc : Nat} (hR : ∀ s c, R s c < 2 ^ nc) : ∀ i u, 2 ^ nc ≤ u → orN R nc i u = nI 0
  | 0, u, h => if_neg (by have := Nat.two_pow_pos nc; omega)
  | i + 1, u, h => orS_out hR _ u h
