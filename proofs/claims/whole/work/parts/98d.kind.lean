/-! read: the class's kind of a token -/
noncomputable def lxK (T : Nat → Nat) (n p : Nat) : Nat := if p < n then (if isLe (T p) then (if 8 < lxE T n p - p then 23 else wdK T p (lxE T n p)) else if isDi (T p) then (if 4 < lxE T n p - p then 23 else 21) else if isSg (T p) then T p else 23) else 22
theorem lxE_le (T : Nat → Nat) {n p : Nat} (hp : p ≤ n) : p ≤ lxE T n p ∧ lxE T n p ≤ n ∧ (p < n → p < lxE T n p) := by
  unfold lxE
  by_cases g : p < n
  · rw [if_pos g]
    by_cases g2 : isLe (T p)
    · rw [if_pos g2]
      obtain ⟨a1, a2, a3, a4⟩ := lxTo_spec isLe T hp
      refine ⟨a1, a2, fun _ => ?_⟩
      rcases Nat.eq_or_lt_of_le a1 with e | e
      · exact absurd g2 (by have q := a4 (by omega); rw [← e] at q; exact q)
      · exact e
    · rw [if_neg g2]
      by_cases g3 : isDi (T p)
      · rw [if_pos g3]
        obtain ⟨a1, a2, a3, a4⟩ := lxTo_spec isDi T hp
        refine ⟨a1, a2, fun _ => ?_⟩
        rcases Nat.eq_or_lt_of_le a1 with e | e
        · exact absurd g3 (by have q := a4 (by omega); rw [← e] at q; exact q)
        · exact e
      · rw [if_neg g3]
        exact ⟨by omega, by omega, fun _ => by omega⟩
  · rw [if_neg g]
    exact ⟨by omega, by omega, fun q => absurd q g⟩
theorem sgV_yes {t : Nat} (h : isSg t) : ∃ w, w < 9 ∧ sgV t = nI w := by
  unfold sgV
  have hx : lsP (fun j => gB j = t) 9 ≠ none := by
    intro q
    obtain ⟨j, hj, hg⟩ := (sg_iff t).mp h
    obtain ⟨k, hk, hk1, hk2⟩ : ∃ k, k < 9 ∧ (∀ i, i < k → ¬ gB i = t) ∧ gB k = t := by
      have : ∀ m, ∀ j, j < m → j < 9 → gB j = t → ∃ k, k < 9 ∧ (∀ i, i < k → ¬ gB i = t) ∧ gB k = t := by
        intro m
        induction m with
        | zero => exact fun j h => absurd h (Nat.not_lt_zero _)
        | succ m ih =>
          intro j h1 h2 h3
          by_cases z : ∃ i, i < j ∧ gB i = t
          · obtain ⟨i, z1, z2⟩ := z
            exact ih i (by omega) (by omega) z2
          · exact ⟨j, h2, fun i hi hh => z ⟨i, hi, hh⟩, h3⟩
      exact this 9 j hj hj hg
    rw [lsP_some (p := fun j => gB j = t) hk1 hk2 hk] at q
    cases q
  generalize ho : lsP (fun j => gB j = t) 9 = o at hx ⊢
  cases o with
  | none => exact absurd rfl hx
  | some w => exact ⟨w, (lsP_lt ho).1, rfl⟩
theorem sgV_no {t : Nat} (h : ¬ isSg t) : sgV t = nM1 := by
  unfold sgV
  rw [lsP_none (p := fun j => gB j = t) (fun i hi hg => h ((sg_iff t).mpr ⟨i, hi, hg⟩))]
theorem p_kindOf {I : Nat → Nat → Int32} {L : Nat → Nat → Int64} {Z : zZ} {B tx n : Nat} {T : Nat → Nat} (h : isCls Z B tx) (hS : strOk Z) (hT : tpC I B T n) {p : Nat} (hp : p ≤ n) : fX8_kindOf [.ref (B + 1), .int (nI p), .int (nI (lxE T n p))] (I, L, Z) = some (some (.int (nI (lxK T n p))), (I, L, Z)) := by
  have hn := hT.1
  have h2 := hT.2.1
  obtain ⟨e1, e2, e3⟩ := lxE_le T hp
  have kw := p_wordOrName (I := I) (L := L) h hS hT hp e2
  unfold lxK
  generalize lxE T n p = e at e1 e2 e3 kw ⊢
  show kX8_kindOf_0 [some (Value.ref ((B + 1))), some (Value.int (nI (p))), some (Value.int (nI (e))), none] [] (I, L, Z) = _
  by_cases g : p < n
  · have k1 := p_isLetter (I := I) (L := L) h hT p g
    have k2 := p_isDigit (I := I) (L := L) h hT p g
    have k3 := p_byteAt6 (I := I) (L := L) h hT p (by omega)
    have b := (hT.2.2 p g).2
    rw [byC, if_pos g] at k3
    rw [if_pos g]
    by_cases g2 : isLe (T p)
    · rw [if_pos g2] at k1
      rw [if_pos g2]
      by_cases g3 : 8 < e - p
      · rw [if_pos g3]
        simp (disch := omega) only [kX8_kindOf_84, kX8_kindOf_61, kX8_kindOf_38, kX8_kindOf_0, cl_1 h, h2, k1, e_push, e_pushl, e_iload, e_lload, e_aload, e_istore, e_astore, e_lstore, e_iinc, e_iadd, e_isub, e_imul, e_iand, e_ior, e_ixor, e_ishl, e_ishr, e_iushr, e_idiv, e_irem, e_ladd, e_lsub, e_lmul, e_lcmp, e_mmax, e_mmin, e_i2l, e_l2i, e_i2b, e_i2c, e_dup, e_dup2, e_pop, e_icmp_eq, e_icmp_ne, e_icmp_lt, e_icmp_ge, e_icmp_gt, e_icmp_le, e_if_eq, e_if_ne, e_if_lt, e_if_ge, e_if_gt, e_if_le, e_getI, e_getR, e_putI, e_putZ, e_putR, e_iald, e_bald, e_zald, e_lald, e_aald, e_alen, e_iast, e_bast, e_zast, e_last, e_aast, e_iret, e_zret, e_lret, e_vret, e_obj, e_callV, e_callS, e_callT, e_acpy, e_ldcS, e_dn, e_ag, z_pop, List.getElem?_cons_zero, List.getElem?_cons_succ, List.set_cons_zero, List.set_cons_succ, List.length_cons, List.length_nil, z_nol, Option.map_some, Option.toList_some, Option.toList_none, List.cons_append, List.nil_append, n_lit, n_m1, n_m2, n_m1lt, n_m1le, n_rem, n_div, n_out, n_cl, n_eq, n_le, n_lt, n_add, n_mul, n_sub, n_nle, n_yle, n_nlt, n_ylt, n_neN, z_lay, z_sz, z_str, z_stI, z_stL, z_stR, eq_self, ↓reduceIte, true_and, and_true, and_self, false_and, and_false, or_self, false_or, or_false, true_or, or_true, not_true_eq_false, not_false_eq_true, Nat.reduceLeDiff, Nat.reduceLT, Nat.reduceAdd, Nat.reduceEqDiff, Nat.reduceMul, Nat.reduceSub, Value.category, Nat.zero_le, beq_self_eq_true]
      · rw [if_neg g3]
        simp (disch := omega) only [kX8_kindOf_84, kX8_kindOf_61, kX8_kindOf_38, kX8_kindOf_0, cl_1 h, h2, k1, kw, e_push, e_pushl, e_iload, e_lload, e_aload, e_istore, e_astore, e_lstore, e_iinc, e_iadd, e_isub, e_imul, e_iand, e_ior, e_ixor, e_ishl, e_ishr, e_iushr, e_idiv, e_irem, e_ladd, e_lsub, e_lmul, e_lcmp, e_mmax, e_mmin, e_i2l, e_l2i, e_i2b, e_i2c, e_dup, e_dup2, e_pop, e_icmp_eq, e_icmp_ne, e_icmp_lt, e_icmp_ge, e_icmp_gt, e_icmp_le, e_if_eq, e_if_ne, e_if_lt, e_if_ge, e_if_gt, e_if_le, e_getI, e_getR, e_putI, e_putZ, e_putR, e_iald, e_bald, e_zald, e_lald, e_aald, e_alen, e_iast, e_bast, e_zast, e_last, e_aast, e_iret, e_zret, e_lret, e_vret, e_obj, e_callV, e_callS, e_callT, e_acpy, e_ldcS, e_dn, e_ag, z_pop, List.getElem?_cons_zero, List.getElem?_cons_succ, List.set_cons_zero, List.set_cons_succ, List.length_cons, List.length_nil, z_nol, Option.map_some, Option.toList_some, Option.toList_none, List.cons_append, List.nil_append, n_lit, n_m1, n_m2, n_m1lt, n_m1le, n_rem, n_div, n_out, n_cl, n_eq, n_le, n_lt, n_add, n_mul, n_sub, n_nle, n_yle, n_nlt, n_ylt, n_neN, z_lay, z_sz, z_str, z_stI, z_stL, z_stR, eq_self, ↓reduceIte, true_and, and_true, and_self, false_and, and_false, or_self, false_or, or_false, true_or, or_true, not_true_eq_false, not_false_eq_true, Nat.reduceLeDiff, Nat.reduceLT, Nat.reduceAdd, Nat.reduceEqDiff, Nat.reduceMul, Nat.reduceSub, Value.category, Nat.zero_le, beq_self_eq_true]
    · rw [if_neg g2] at k1
      rw [if_neg g2]
      by_cases g3 : isDi (T p)
      · rw [if_pos g3] at k2
        rw [if_pos g3]
        by_cases g4 : 4 < e - p
        · rw [if_pos g4]
          simp (disch := omega) only [kX8_kindOf_84, kX8_kindOf_61, kX8_kindOf_38, kX8_kindOf_0, cl_1 h, h2, k1, k2, e_push, e_pushl, e_iload, e_lload, e_aload, e_istore, e_astore, e_lstore, e_iinc, e_iadd, e_isub, e_imul, e_iand, e_ior, e_ixor, e_ishl, e_ishr, e_iushr, e_idiv, e_irem, e_ladd, e_lsub, e_lmul, e_lcmp, e_mmax, e_mmin, e_i2l, e_l2i, e_i2b, e_i2c, e_dup, e_dup2, e_pop, e_icmp_eq, e_icmp_ne, e_icmp_lt, e_icmp_ge, e_icmp_gt, e_icmp_le, e_if_eq, e_if_ne, e_if_lt, e_if_ge, e_if_gt, e_if_le, e_getI, e_getR, e_putI, e_putZ, e_putR, e_iald, e_bald, e_zald, e_lald, e_aald, e_alen, e_iast, e_bast, e_zast, e_last, e_aast, e_iret, e_zret, e_lret, e_vret, e_obj, e_callV, e_callS, e_callT, e_acpy, e_ldcS, e_dn, e_ag, z_pop, List.getElem?_cons_zero, List.getElem?_cons_succ, List.set_cons_zero, List.set_cons_succ, List.length_cons, List.length_nil, z_nol, Option.map_some, Option.toList_some, Option.toList_none, List.cons_append, List.nil_append, n_lit, n_m1, n_m2, n_m1lt, n_m1le, n_rem, n_div, n_out, n_cl, n_eq, n_le, n_lt, n_add, n_mul, n_sub, n_nle, n_yle, n_nlt, n_ylt, n_neN, z_lay, z_sz, z_str, z_stI, z_stL, z_stR, eq_self, ↓reduceIte, true_and, and_true, and_self, false_and, and_false, or_self, false_or, or_false, true_or, or_true, not_true_eq_false, not_false_eq_true, Nat.reduceLeDiff, Nat.reduceLT, Nat.reduceAdd, Nat.reduceEqDiff, Nat.reduceMul, Nat.reduceSub, Value.category, Nat.zero_le, beq_self_eq_true]
        · rw [if_neg g4]
          simp (disch := omega) only [kX8_kindOf_84, kX8_kindOf_61, kX8_kindOf_38, kX8_kindOf_0, cl_1 h, h2, k1, k2, e_push, e_pushl, e_iload, e_lload, e_aload, e_istore, e_astore, e_lstore, e_iinc, e_iadd, e_isub, e_imul, e_iand, e_ior, e_ixor, e_ishl, e_ishr, e_iushr, e_idiv, e_irem, e_ladd, e_lsub, e_lmul, e_lcmp, e_mmax, e_mmin, e_i2l, e_l2i, e_i2b, e_i2c, e_dup, e_dup2, e_pop, e_icmp_eq, e_icmp_ne, e_icmp_lt, e_icmp_ge, e_icmp_gt, e_icmp_le, e_if_eq, e_if_ne, e_if_lt, e_if_ge, e_if_gt, e_if_le, e_getI, e_getR, e_putI, e_putZ, e_putR, e_iald, e_bald, e_zald, e_lald, e_aald, e_alen, e_iast, e_bast, e_zast, e_last, e_aast, e_iret, e_zret, e_lret, e_vret, e_obj, e_callV, e_callS, e_callT, e_acpy, e_ldcS, e_dn, e_ag, z_pop, List.getElem?_cons_zero, List.getElem?_cons_succ, List.set_cons_zero, List.set_cons_succ, List.length_cons, List.length_nil, z_nol, Option.map_some, Option.toList_some, Option.toList_none, List.cons_append, List.nil_append, n_lit, n_m1, n_m2, n_m1lt, n_m1le, n_rem, n_div, n_out, n_cl, n_eq, n_le, n_lt, n_add, n_mul, n_sub, n_nle, n_yle, n_nlt, n_ylt, n_neN, z_lay, z_sz, z_str, z_stI, z_stL, z_stR, eq_self, ↓reduceIte, true_and, and_true, and_self, false_and, and_false, or_self, false_or, or_false, true_or, or_true, not_true_eq_false, not_false_eq_true, Nat.reduceLeDiff, Nat.reduceLT, Nat.reduceAdd, Nat.reduceEqDiff, Nat.reduceMul, Nat.reduceSub, Value.category, Nat.zero_le, beq_self_eq_true]
      · rw [if_neg g3] at k2
        rw [if_neg g3]
        have k4 := p_indexOf (I := I) (L := L) (Z := Z) hS b
        have k5 := i2c_n (T p) b
        by_cases g4 : isSg (T p)
        · obtain ⟨w, hw, ew⟩ := sgV_yes g4
          rw [if_pos g4]
          rw [ew] at k4
          simp (disch := omega) only [kX8_kindOf_84, kX8_kindOf_61, kX8_kindOf_38, kX8_kindOf_0, cl_1 h, h2, k1, k2, k3, k5, k4, e_push, e_pushl, e_iload, e_lload, e_aload, e_istore, e_astore, e_lstore, e_iinc, e_iadd, e_isub, e_imul, e_iand, e_ior, e_ixor, e_ishl, e_ishr, e_iushr, e_idiv, e_irem, e_ladd, e_lsub, e_lmul, e_lcmp, e_mmax, e_mmin, e_i2l, e_l2i, e_i2b, e_i2c, e_dup, e_dup2, e_pop, e_icmp_eq, e_icmp_ne, e_icmp_lt, e_icmp_ge, e_icmp_gt, e_icmp_le, e_if_eq, e_if_ne, e_if_lt, e_if_ge, e_if_gt, e_if_le, e_getI, e_getR, e_putI, e_putZ, e_putR, e_iald, e_bald, e_zald, e_lald, e_aald, e_alen, e_iast, e_bast, e_zast, e_last, e_aast, e_iret, e_zret, e_lret, e_vret, e_obj, e_callV, e_callS, e_callT, e_acpy, e_ldcS, e_dn, e_ag, z_pop, List.getElem?_cons_zero, List.getElem?_cons_succ, List.set_cons_zero, List.set_cons_succ, List.length_cons, List.length_nil, z_nol, Option.map_some, Option.toList_some, Option.toList_none, List.cons_append, List.nil_append, n_lit, n_m1, n_m2, n_m1lt, n_m1le, n_rem, n_div, n_out, n_cl, n_eq, n_le, n_lt, n_add, n_mul, n_sub, n_nle, n_yle, n_nlt, n_ylt, n_neN, z_lay, z_sz, z_str, z_stI, z_stL, z_stR, eq_self, ↓reduceIte, true_and, and_true, and_self, false_and, and_false, or_self, false_or, or_false, true_or, or_true, not_true_eq_false, not_false_eq_true, Nat.reduceLeDiff, Nat.reduceLT, Nat.reduceAdd, Nat.reduceEqDiff, Nat.reduceMul, Nat.reduceSub, Value.category, Nat.zero_le, beq_self_eq_true]
        · rw [if_neg g4]
          rw [sgV_no g4] at k4
          have m1 : nM1 < nI 0 := by decide
          simp (disch := omega) only [kX8_kindOf_84, kX8_kindOf_61, kX8_kindOf_38, kX8_kindOf_0, cl_1 h, h2, k1, k2, k3, k5, k4, m1, e_push, e_pushl, e_iload, e_lload, e_aload, e_istore, e_astore, e_lstore, e_iinc, e_iadd, e_isub, e_imul, e_iand, e_ior, e_ixor, e_ishl, e_ishr, e_iushr, e_idiv, e_irem, e_ladd, e_lsub, e_lmul, e_lcmp, e_mmax, e_mmin, e_i2l, e_l2i, e_i2b, e_i2c, e_dup, e_dup2, e_pop, e_icmp_eq, e_icmp_ne, e_icmp_lt, e_icmp_ge, e_icmp_gt, e_icmp_le, e_if_eq, e_if_ne, e_if_lt, e_if_ge, e_if_gt, e_if_le, e_getI, e_getR, e_putI, e_putZ, e_putR, e_iald, e_bald, e_zald, e_lald, e_aald, e_alen, e_iast, e_bast, e_zast, e_last, e_aast, e_iret, e_zret, e_lret, e_vret, e_obj, e_callV, e_callS, e_callT, e_acpy, e_ldcS, e_dn, e_ag, z_pop, List.getElem?_cons_zero, List.getElem?_cons_succ, List.set_cons_zero, List.set_cons_succ, List.length_cons, List.length_nil, z_nol, Option.map_some, Option.toList_some, Option.toList_none, List.cons_append, List.nil_append, n_lit, n_m1, n_m2, n_m1lt, n_m1le, n_rem, n_div, n_out, n_cl, n_eq, n_le, n_lt, n_add, n_mul, n_sub, n_nle, n_yle, n_nlt, n_ylt, n_neN, z_lay, z_sz, z_str, z_stI, z_stL, z_stR, eq_self, ↓reduceIte, true_and, and_true, and_self, false_and, and_false, or_self, false_or, or_false, true_or, or_true, not_true_eq_false, not_false_eq_true, Nat.reduceLeDiff, Nat.reduceLT, Nat.reduceAdd, Nat.reduceEqDiff, Nat.reduceMul, Nat.reduceSub, Value.category, Nat.zero_le, beq_self_eq_true]
  · rw [if_neg g]
    simp (disch := omega) only [kX8_kindOf_84, kX8_kindOf_61, kX8_kindOf_38, kX8_kindOf_0, cl_1 h, h2, e_push, e_pushl, e_iload, e_lload, e_aload, e_istore, e_astore, e_lstore, e_iinc, e_iadd, e_isub, e_imul, e_iand, e_ior, e_ixor, e_ishl, e_ishr, e_iushr, e_idiv, e_irem, e_ladd, e_lsub, e_lmul, e_lcmp, e_mmax, e_mmin, e_i2l, e_l2i, e_i2b, e_i2c, e_dup, e_dup2, e_pop, e_icmp_eq, e_icmp_ne, e_icmp_lt, e_icmp_ge, e_icmp_gt, e_icmp_le, e_if_eq, e_if_ne, e_if_lt, e_if_ge, e_if_gt, e_if_le, e_getI, e_getR, e_putI, e_putZ, e_putR, e_iald, e_bald, e_zald, e_lald, e_aald, e_alen, e_iast, e_bast, e_zast, e_last, e_aast, e_iret, e_zret, e_lret, e_vret, e_obj, e_callV, e_callS, e_callT, e_acpy, e_ldcS, e_dn, e_ag, z_pop, List.getElem?_cons_zero, List.getElem?_cons_succ, List.set_cons_zero, List.set_cons_succ, List.length_cons, List.length_nil, z_nol, Option.map_some, Option.toList_some, Option.toList_none, List.cons_append, List.nil_append, n_lit, n_m1, n_m2, n_m1lt, n_m1le, n_rem, n_div, n_out, n_cl, n_eq, n_le, n_lt, n_add, n_mul, n_sub, n_nle, n_yle, n_nlt, n_ylt, n_neN, z_lay, z_sz, z_str, z_stI, z_stL, z_stR, eq_self, ↓reduceIte, true_and, and_true, and_self, false_and, and_false, or_self, false_or, or_false, true_or, or_true, not_true_eq_false, not_false_eq_true, Nat.reduceLeDiff, Nat.reduceLT, Nat.reduceAdd, Nat.reduceEqDiff, Nat.reduceMul, Nat.reduceSub, Value.category, Nat.zero_le, beq_self_eq_true]
