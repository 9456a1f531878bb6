/-! read: the class's kinds of tokens -/
def pdW (T : Nat → Nat) (q e i : Nat) : Nat := if q + i < e then T (q + i) else 32
def isWd (T : Nat → Nat) (q e w : Nat) : Prop := ∀ i, i < 8 → wB (w * 8 + i) = pdW T q e i
theorem p_isWord {I : Nat → Nat → Int32} {L : Nat → Nat → Int64} {Z : zZ} {B tx n : Nat} {T : Nat → Nat} (h : isCls Z B tx) (hS : strOk Z) (hT : tpC I B T n) {q e w : Nat} (hq : q ≤ n) (he : e ≤ n) (hw : w < 20) : fX8_isWord [.ref (B + 1), .int (nI q), .int (nI e), .int (nI w)] (I, L, Z) = some (ifP (isWd T q e w) (some (.int (nI 1))) (some (.int (nI 0))), (I, L, Z)) := by
  have hn := hT.1
  have c0 : ∀ i, i < 8 → fJ0_charAt_5068e [.ref (Z.2.2.2 0), .int (nI (w * 8 + i))] (I, L, Z) = some (some (.int (nI (wB (w * 8 + i)))), (I, L, Z)) := fun i hi => p_charAt hS (by omega)
  have key := lp_allP (body := bX8_isWord_3) (ls := [some (Value.ref ((B + 1))), some (Value.int (nI (q))), some (Value.int (nI (e))), some (Value.int (nI (w))), some (Value.int (nI (0))), none]) (σ := (I, L, Z)) (fun i ls => ∃ x, ls = [some (Value.ref ((B + 1))), some (Value.int (nI (q))), some (Value.int (nI (e))), some (Value.int (nI (w))), some (Value.int (nI (i))), x]) 8 (fun i => wB (w * 8 + i) = pdW T q e i) (a1 := (some (.int (nI 1)), (I, L, Z))) (a0 := (some (.int (nI 0)), (I, L, Z))) ⟨none, rfl⟩
    (fun ls g => by
      obtain ⟨x, rfl⟩ := g
      simp (disch := omega) only [bX8_isWord_3, kX8_isWord_58, e_push, e_pushl, e_iload, e_lload, e_aload, e_istore, e_astore, e_lstore, e_iinc, e_iadd, e_isub, e_imul, e_iand, e_ior, e_ixor, e_ishl, e_ishr, e_iushr, e_idiv, e_irem, e_ladd, e_lsub, e_lmul, e_lcmp, e_mmax, e_mmin, e_i2l, e_l2i, e_i2b, e_i2c, e_dup, e_dup2, e_pop, e_icmp_eq, e_icmp_ne, e_icmp_lt, e_icmp_ge, e_icmp_gt, e_icmp_le, e_if_eq, e_if_ne, e_if_lt, e_if_ge, e_if_gt, e_if_le, e_getI, e_getR, e_putI, e_putZ, e_putR, e_iald, e_bald, e_zald, e_lald, e_aald, e_alen, e_iast, e_bast, e_zast, e_last, e_aast, e_iret, e_zret, e_lret, e_vret, e_obj, e_callV, e_callS, e_callT, e_acpy, e_ldcS, e_dn, e_ag, z_pop, List.getElem?_cons_zero, List.getElem?_cons_succ, List.set_cons_zero, List.set_cons_succ, List.length_cons, List.length_nil, z_nol, Option.map_some, Option.toList_some, Option.toList_none, List.cons_append, List.nil_append, n_lit, n_m1, n_m2, n_m1lt, n_m1le, n_rem, n_div, n_out, n_cl, n_eq, n_le, n_lt, n_add, n_mul, n_sub, n_nle, n_yle, n_nlt, n_ylt, n_neN, z_lay, z_sz, z_str, z_stI, z_stL, z_stR, eq_self, ↓reduceIte, true_and, and_true, and_self, false_and, and_false, or_self, false_or, or_false, true_or, or_true, not_true_eq_false, not_false_eq_true, Nat.reduceLeDiff, Nat.reduceLT, Nat.reduceAdd, Nat.reduceEqDiff, Nat.reduceMul, Nat.reduceSub, Value.category, Nat.zero_le, beq_self_eq_true])
    (fun i hi hp ls g => by
      obtain ⟨x, rfl⟩ := g
      have c1 := c0 i hi
      have b1 := wB_lt (w * 8 + i) (by omega)
      refine ⟨[some (Value.ref ((B + 1))), some (Value.int (nI (q))), some (Value.int (nI (e))), some (Value.int (nI (w))), some (Value.int (nI (i + 1))), some (Value.int (nI (pdW T q e i)))], ?_, some (.int (nI (pdW T q e i))), rfl⟩
      rw [hp] at c1 b1
      revert c1 b1
      unfold pdW
      by_cases g : q + i < e
      · have hb := p_byteAt6 (I := I) (L := L) h hT (q + i) (by omega)
        rw [byC, if_pos (by omega)] at hb
        rw [if_pos g]
        intro c1 b1
        simp (disch := omega) only [bX8_isWord_3, kX8_isWord_31, cl_1 h, hb, c1, e_push, e_pushl, e_iload, e_lload, e_aload, e_istore, e_astore, e_lstore, e_iinc, e_iadd, e_isub, e_imul, e_iand, e_ior, e_ixor, e_ishl, e_ishr, e_iushr, e_idiv, e_irem, e_ladd, e_lsub, e_lmul, e_lcmp, e_mmax, e_mmin, e_i2l, e_l2i, e_i2b, e_i2c, e_dup, e_dup2, e_pop, e_icmp_eq, e_icmp_ne, e_icmp_lt, e_icmp_ge, e_icmp_gt, e_icmp_le, e_if_eq, e_if_ne, e_if_lt, e_if_ge, e_if_gt, e_if_le, e_getI, e_getR, e_putI, e_putZ, e_putR, e_iald, e_bald, e_zald, e_lald, e_aald, e_alen, e_iast, e_bast, e_zast, e_last, e_aast, e_iret, e_zret, e_lret, e_vret, e_obj, e_callV, e_callS, e_callT, e_acpy, e_ldcS, e_dn, e_ag, z_pop, List.getElem?_cons_zero, List.getElem?_cons_succ, List.set_cons_zero, List.set_cons_succ, List.length_cons, List.length_nil, z_nol, Option.map_some, Option.toList_some, Option.toList_none, List.cons_append, List.nil_append, n_lit, n_m1, n_m2, n_m1lt, n_m1le, n_rem, n_div, n_out, n_cl, n_eq, n_le, n_lt, n_add, n_mul, n_sub, n_nle, n_yle, n_nlt, n_ylt, n_neN, z_lay, z_sz, z_str, z_stI, z_stL, z_stR, eq_self, ↓reduceIte, true_and, and_true, and_self, false_and, and_false, or_self, false_or, or_false, true_or, or_true, not_true_eq_false, not_false_eq_true, Nat.reduceLeDiff, Nat.reduceLT, Nat.reduceAdd, Nat.reduceEqDiff, Nat.reduceMul, Nat.reduceSub, Value.category, Nat.zero_le, beq_self_eq_true]
      · rw [if_neg g]
        intro c1 b1
        simp (disch := omega) only [bX8_isWord_3, kX8_isWord_31, cl_1 h, c1, e_push, e_pushl, e_iload, e_lload, e_aload, e_istore, e_astore, e_lstore, e_iinc, e_iadd, e_isub, e_imul, e_iand, e_ior, e_ixor, e_ishl, e_ishr, e_iushr, e_idiv, e_irem, e_ladd, e_lsub, e_lmul, e_lcmp, e_mmax, e_mmin, e_i2l, e_l2i, e_i2b, e_i2c, e_dup, e_dup2, e_pop, e_icmp_eq, e_icmp_ne, e_icmp_lt, e_icmp_ge, e_icmp_gt, e_icmp_le, e_if_eq, e_if_ne, e_if_lt, e_if_ge, e_if_gt, e_if_le, e_getI, e_getR, e_putI, e_putZ, e_putR, e_iald, e_bald, e_zald, e_lald, e_aald, e_alen, e_iast, e_bast, e_zast, e_last, e_aast, e_iret, e_zret, e_lret, e_vret, e_obj, e_callV, e_callS, e_callT, e_acpy, e_ldcS, e_dn, e_ag, z_pop, List.getElem?_cons_zero, List.getElem?_cons_succ, List.set_cons_zero, List.set_cons_succ, List.length_cons, List.length_nil, z_nol, Option.map_some, Option.toList_some, Option.toList_none, List.cons_append, List.nil_append, n_lit, n_m1, n_m2, n_m1lt, n_m1le, n_rem, n_div, n_out, n_cl, n_eq, n_le, n_lt, n_add, n_mul, n_sub, n_nle, n_yle, n_nlt, n_ylt, n_neN, z_lay, z_sz, z_str, z_stI, z_stL, z_stR, eq_self, ↓reduceIte, true_and, and_true, and_self, false_and, and_false, or_self, false_or, or_false, true_or, or_true, not_true_eq_false, not_false_eq_true, Nat.reduceLeDiff, Nat.reduceLT, Nat.reduceAdd, Nat.reduceEqDiff, Nat.reduceMul, Nat.reduceSub, Value.category, Nat.zero_le, beq_self_eq_true])
    (fun i hi hp ls g => by
      obtain ⟨x, rfl⟩ := g
      have c1 := c0 i hi
      have b1 := wB_lt (w * 8 + i) (by omega)
      revert hp
      unfold pdW
      generalize wB (w * 8 + i) = y at c1 b1
      by_cases g : q + i < e
      · have hb := p_byteAt6 (I := I) (L := L) h hT (q + i) (by omega)
        have b2 := (hT.2.2 (q + i) (by omega)).2
        rw [byC, if_pos (by omega)] at hb
        rw [if_pos g]
        intro hp
        simp (disch := omega) only [bX8_isWord_3, kX8_isWord_31, kX8_isWord_50, cl_1 h, hb, c1, hp, e_push, e_pushl, e_iload, e_lload, e_aload, e_istore, e_astore, e_lstore, e_iinc, e_iadd, e_isub, e_imul, e_iand, e_ior, e_ixor, e_ishl, e_ishr, e_iushr, e_idiv, e_irem, e_ladd, e_lsub, e_lmul, e_lcmp, e_mmax, e_mmin, e_i2l, e_l2i, e_i2b, e_i2c, e_dup, e_dup2, e_pop, e_icmp_eq, e_icmp_ne, e_icmp_lt, e_icmp_ge, e_icmp_gt, e_icmp_le, e_if_eq, e_if_ne, e_if_lt, e_if_ge, e_if_gt, e_if_le, e_getI, e_getR, e_putI, e_putZ, e_putR, e_iald, e_bald, e_zald, e_lald, e_aald, e_alen, e_iast, e_bast, e_zast, e_last, e_aast, e_iret, e_zret, e_lret, e_vret, e_obj, e_callV, e_callS, e_callT, e_acpy, e_ldcS, e_dn, e_ag, z_pop, List.getElem?_cons_zero, List.getElem?_cons_succ, List.set_cons_zero, List.set_cons_succ, List.length_cons, List.length_nil, z_nol, Option.map_some, Option.toList_some, Option.toList_none, List.cons_append, List.nil_append, n_lit, n_m1, n_m2, n_m1lt, n_m1le, n_rem, n_div, n_out, n_cl, n_eq, n_le, n_lt, n_add, n_mul, n_sub, n_nle, n_yle, n_nlt, n_ylt, n_neN, z_lay, z_sz, z_str, z_stI, z_stL, z_stR, eq_self, ↓reduceIte, true_and, and_true, and_self, false_and, and_false, or_self, false_or, or_false, true_or, or_true, not_true_eq_false, not_false_eq_true, Nat.reduceLeDiff, Nat.reduceLT, Nat.reduceAdd, Nat.reduceEqDiff, Nat.reduceMul, Nat.reduceSub, Value.category, Nat.zero_le, beq_self_eq_true]
      · rw [if_neg g]
        intro hp
        simp (disch := omega) only [bX8_isWord_3, kX8_isWord_31, kX8_isWord_50, cl_1 h, c1, hp, e_push, e_pushl, e_iload, e_lload, e_aload, e_istore, e_astore, e_lstore, e_iinc, e_iadd, e_isub, e_imul, e_iand, e_ior, e_ixor, e_ishl, e_ishr, e_iushr, e_idiv, e_irem, e_ladd, e_lsub, e_lmul, e_lcmp, e_mmax, e_mmin, e_i2l, e_l2i, e_i2b, e_i2c, e_dup, e_dup2, e_pop, e_icmp_eq, e_icmp_ne, e_icmp_lt, e_icmp_ge, e_icmp_gt, e_icmp_le, e_if_eq, e_if_ne, e_if_lt, e_if_ge, e_if_gt, e_if_le, e_getI, e_getR, e_putI, e_putZ, e_putR, e_iald, e_bald, e_zald, e_lald, e_aald, e_alen, e_iast, e_bast, e_zast, e_last, e_aast, e_iret, e_zret, e_lret, e_vret, e_obj, e_callV, e_callS, e_callT, e_acpy, e_ldcS, e_dn, e_ag, z_pop, List.getElem?_cons_zero, List.getElem?_cons_succ, List.set_cons_zero, List.set_cons_succ, List.length_cons, List.length_nil, z_nol, Option.map_some, Option.toList_some, Option.toList_none, List.cons_append, List.nil_append, n_lit, n_m1, n_m2, n_m1lt, n_m1le, n_rem, n_div, n_out, n_cl, n_eq, n_le, n_lt, n_add, n_mul, n_sub, n_nle, n_yle, n_nlt, n_ylt, n_neN, z_lay, z_sz, z_str, z_stI, z_stL, z_stR, eq_self, ↓reduceIte, true_and, and_true, and_self, false_and, and_false, or_self, false_or, or_false, true_or, or_true, not_true_eq_false, not_false_eq_true, Nat.reduceLeDiff, Nat.reduceLT, Nat.reduceAdd, Nat.reduceEqDiff, Nat.reduceMul, Nat.reduceSub, Value.category, Nat.zero_le, beq_self_eq_true])
  show kX8_isWord_0 [some (Value.ref ((B + 1))), some (Value.int (nI (q))), some (Value.int (nI (e))), some (Value.int (nI (w))), none, none] [] (I, L, Z) = _
  simp (disch := omega) only [kX8_isWord_0, kX8_isWord_3, e_push, e_pushl, e_iload, e_lload, e_aload, e_istore, e_astore, e_lstore, e_iinc, e_iadd, e_isub, e_imul, e_iand, e_ior, e_ixor, e_ishl, e_ishr, e_iushr, e_idiv, e_irem, e_ladd, e_lsub, e_lmul, e_lcmp, e_mmax, e_mmin, e_i2l, e_l2i, e_i2b, e_i2c, e_dup, e_dup2, e_pop, e_icmp_eq, e_icmp_ne, e_icmp_lt, e_icmp_ge, e_icmp_gt, e_icmp_le, e_if_eq, e_if_ne, e_if_lt, e_if_ge, e_if_gt, e_if_le, e_getI, e_getR, e_putI, e_putZ, e_putR, e_iald, e_bald, e_zald, e_lald, e_aald, e_alen, e_iast, e_bast, e_zast, e_last, e_aast, e_iret, e_zret, e_lret, e_vret, e_obj, e_callV, e_callS, e_callT, e_acpy, e_ldcS, e_dn, e_ag, z_pop, List.getElem?_cons_zero, List.getElem?_cons_succ, List.set_cons_zero, List.set_cons_succ, List.length_cons, List.length_nil, z_nol, Option.map_some, Option.toList_some, Option.toList_none, List.cons_append, List.nil_append, n_lit, n_m1, n_m2, n_m1lt, n_m1le, n_rem, n_div, n_out, n_cl, n_eq, n_le, n_lt, n_add, n_mul, n_sub, n_nle, n_yle, n_nlt, n_ylt, n_neN, z_lay, z_sz, z_str, z_stI, z_stL, z_stR, eq_self, ↓reduceIte, true_and, and_true, and_self, false_and, and_false, or_self, false_or, or_false, true_or, or_true, not_true_eq_false, not_false_eq_true, Nat.reduceLeDiff, Nat.reduceLT, Nat.reduceAdd, Nat.reduceEqDiff, Nat.reduceMul, Nat.reduceSub, Value.category, Nat.zero_le, beq_self_eq_true]
  rw [key]
  by_cases g : isWd T q e w
  · rw [ifP_pos (P := isWd T q e w) g, ifP_pos (P := ∀ i, i < 8 → wB (w * 8 + i) = pdW T q e i) g]
  · rw [ifP_neg (P := isWd T q e w) g, ifP_neg (P := ∀ i, i < 8 → wB (w * 8 + i) = pdW T q e i) g]
noncomputable def wdK (T : Nat → Nat) (q e : Nat) : Nat := match lsP (isWd T q e) 20 with
  | some w => w
  | none => 20
theorem p_wordOrName {I : Nat → Nat → Int32} {L : Nat → Nat → Int64} {Z : zZ} {B tx n : Nat} {T : Nat → Nat} (h : isCls Z B tx) (hS : strOk Z) (hT : tpC I B T n) {q e : Nat} (hq : q ≤ n) (he : e ≤ n) : fX8_wordOrName [.ref (B + 1), .int (nI q), .int (nI e)] (I, L, Z) = some (some (.int (nI (wdK T q e))), (I, L, Z)) := by
  have hn := hT.1
  have key := lp_fst (body := bX8_wordOrName_2) (ls := [some (Value.ref ((B + 1))), some (Value.int (nI (q))), some (Value.int (nI (e))), some (Value.int (nI (0)))]) (σ := (I, L, Z)) (fun w ls => ls = [some (Value.ref ((B + 1))), some (Value.int (nI (q))), some (Value.int (nI (e))), some (Value.int (nI (w)))]) 20 (isWd T q e) (aN := (some (.int (nI 20)), (I, L, Z))) (aY := fun w => (some (.int (nI w)), (I, L, Z))) rfl
    (fun ls g => by
      subst g
      simp (disch := omega) only [bX8_wordOrName_2, kX8_wordOrName_26, e_push, e_pushl, e_iload, e_lload, e_aload, e_istore, e_astore, e_lstore, e_iinc, e_iadd, e_isub, e_imul, e_iand, e_ior, e_ixor, e_ishl, e_ishr, e_iushr, e_idiv, e_irem, e_ladd, e_lsub, e_lmul, e_lcmp, e_mmax, e_mmin, e_i2l, e_l2i, e_i2b, e_i2c, e_dup, e_dup2, e_pop, e_icmp_eq, e_icmp_ne, e_icmp_lt, e_icmp_ge, e_icmp_gt, e_icmp_le, e_if_eq, e_if_ne, e_if_lt, e_if_ge, e_if_gt, e_if_le, e_getI, e_getR, e_putI, e_putZ, e_putR, e_iald, e_bald, e_zald, e_lald, e_aald, e_alen, e_iast, e_bast, e_zast, e_last, e_aast, e_iret, e_zret, e_lret, e_vret, e_obj, e_callV, e_callS, e_callT, e_acpy, e_ldcS, e_dn, e_ag, z_pop, List.getElem?_cons_zero, List.getElem?_cons_succ, List.set_cons_zero, List.set_cons_succ, List.length_cons, List.length_nil, z_nol, Option.map_some, Option.toList_some, Option.toList_none, List.cons_append, List.nil_append, n_lit, n_m1, n_m2, n_m1lt, n_m1le, n_rem, n_div, n_out, n_cl, n_eq, n_le, n_lt, n_add, n_mul, n_sub, n_nle, n_yle, n_nlt, n_ylt, n_neN, z_lay, z_sz, z_str, z_stI, z_stL, z_stR, eq_self, ↓reduceIte, true_and, and_true, and_self, false_and, and_false, or_self, false_or, or_false, true_or, or_true, not_true_eq_false, not_false_eq_true, Nat.reduceLeDiff, Nat.reduceLT, Nat.reduceAdd, Nat.reduceEqDiff, Nat.reduceMul, Nat.reduceSub, Value.category, Nat.zero_le, beq_self_eq_true])
    (fun w hw hp ls g => by
      subst g
      have k := p_isWord (I := I) (L := L) h hS hT hq he hw
      rw [ifP_neg hp] at k
      refine ⟨[some (Value.ref ((B + 1))), some (Value.int (nI (q))), some (Value.int (nI (e))), some (Value.int (nI (w + 1)))], ?_, rfl⟩
      simp (disch := omega) only [bX8_wordOrName_2, k, e_push, e_pushl, e_iload, e_lload, e_aload, e_istore, e_astore, e_lstore, e_iinc, e_iadd, e_isub, e_imul, e_iand, e_ior, e_ixor, e_ishl, e_ishr, e_iushr, e_idiv, e_irem, e_ladd, e_lsub, e_lmul, e_lcmp, e_mmax, e_mmin, e_i2l, e_l2i, e_i2b, e_i2c, e_dup, e_dup2, e_pop, e_icmp_eq, e_icmp_ne, e_icmp_lt, e_icmp_ge, e_icmp_gt, e_icmp_le, e_if_eq, e_if_ne, e_if_lt, e_if_ge, e_if_gt, e_if_le, e_getI, e_getR, e_putI, e_putZ, e_putR, e_iald, e_bald, e_zald, e_lald, e_aald, e_alen, e_iast, e_bast, e_zast, e_last, e_aast, e_iret, e_zret, e_lret, e_vret, e_obj, e_callV, e_callS, e_callT, e_acpy, e_ldcS, e_dn, e_ag, z_pop, List.getElem?_cons_zero, List.getElem?_cons_succ, List.set_cons_zero, List.set_cons_succ, List.length_cons, List.length_nil, z_nol, Option.map_some, Option.toList_some, Option.toList_none, List.cons_append, List.nil_append, n_lit, n_m1, n_m2, n_m1lt, n_m1le, n_rem, n_div, n_out, n_cl, n_eq, n_le, n_lt, n_add, n_mul, n_sub, n_nle, n_yle, n_nlt, n_ylt, n_neN, z_lay, z_sz, z_str, z_stI, z_stL, z_stR, eq_self, ↓reduceIte, true_and, and_true, and_self, false_and, and_false, or_self, false_or, or_false, true_or, or_true, not_true_eq_false, not_false_eq_true, Nat.reduceLeDiff, Nat.reduceLT, Nat.reduceAdd, Nat.reduceEqDiff, Nat.reduceMul, Nat.reduceSub, Value.category, Nat.zero_le, beq_self_eq_true])
    (fun w hw hp ls g => by
      subst g
      have k := p_isWord (I := I) (L := L) h hS hT hq he hw
      rw [ifP_pos hp] at k
      simp (disch := omega) only [bX8_wordOrName_2, kX8_wordOrName_18, k, e_push, e_pushl, e_iload, e_lload, e_aload, e_istore, e_astore, e_lstore, e_iinc, e_iadd, e_isub, e_imul, e_iand, e_ior, e_ixor, e_ishl, e_ishr, e_iushr, e_idiv, e_irem, e_ladd, e_lsub, e_lmul, e_lcmp, e_mmax, e_mmin, e_i2l, e_l2i, e_i2b, e_i2c, e_dup, e_dup2, e_pop, e_icmp_eq, e_icmp_ne, e_icmp_lt, e_icmp_ge, e_icmp_gt, e_icmp_le, e_if_eq, e_if_ne, e_if_lt, e_if_ge, e_if_gt, e_if_le, e_getI, e_getR, e_putI, e_putZ, e_putR, e_iald, e_bald, e_zald, e_lald, e_aald, e_alen, e_iast, e_bast, e_zast, e_last, e_aast, e_iret, e_zret, e_lret, e_vret, e_obj, e_callV, e_callS, e_callT, e_acpy, e_ldcS, e_dn, e_ag, z_pop, List.getElem?_cons_zero, List.getElem?_cons_succ, List.set_cons_zero, List.set_cons_succ, List.length_cons, List.length_nil, z_nol, Option.map_some, Option.toList_some, Option.toList_none, List.cons_append, List.nil_append, n_lit, n_m1, n_m2, n_m1lt, n_m1le, n_rem, n_div, n_out, n_cl, n_eq, n_le, n_lt, n_add, n_mul, n_sub, n_nle, n_yle, n_nlt, n_ylt, n_neN, z_lay, z_sz, z_str, z_stI, z_stL, z_stR, eq_self, ↓reduceIte, true_and, and_true, and_self, false_and, and_false, or_self, false_or, or_false, true_or, or_true, not_true_eq_false, not_false_eq_true, Nat.reduceLeDiff, Nat.reduceLT, Nat.reduceAdd, Nat.reduceEqDiff, Nat.reduceMul, Nat.reduceSub, Value.category, Nat.zero_le, beq_self_eq_true])
  show kX8_wordOrName_0 [some (Value.ref ((B + 1))), some (Value.int (nI (q))), some (Value.int (nI (e))), none] [] (I, L, Z) = _
  simp (disch := omega) only [kX8_wordOrName_0, kX8_wordOrName_2, e_push, e_pushl, e_iload, e_lload, e_aload, e_istore, e_astore, e_lstore, e_iinc, e_iadd, e_isub, e_imul, e_iand, e_ior, e_ixor, e_ishl, e_ishr, e_iushr, e_idiv, e_irem, e_ladd, e_lsub, e_lmul, e_lcmp, e_mmax, e_mmin, e_i2l, e_l2i, e_i2b, e_i2c, e_dup, e_dup2, e_pop, e_icmp_eq, e_icmp_ne, e_icmp_lt, e_icmp_ge, e_icmp_gt, e_icmp_le, e_if_eq, e_if_ne, e_if_lt, e_if_ge, e_if_gt, e_if_le, e_getI, e_getR, e_putI, e_putZ, e_putR, e_iald, e_bald, e_zald, e_lald, e_aald, e_alen, e_iast, e_bast, e_zast, e_last, e_aast, e_iret, e_zret, e_lret, e_vret, e_obj, e_callV, e_callS, e_callT, e_acpy, e_ldcS, e_dn, e_ag, z_pop, List.getElem?_cons_zero, List.getElem?_cons_succ, List.set_cons_zero, List.set_cons_succ, List.length_cons, List.length_nil, z_nol, Option.map_some, Option.toList_some, Option.toList_none, List.cons_append, List.nil_append, n_lit, n_m1, n_m2, n_m1lt, n_m1le, n_rem, n_div, n_out, n_cl, n_eq, n_le, n_lt, n_add, n_mul, n_sub, n_nle, n_yle, n_nlt, n_ylt, n_neN, z_lay, z_sz, z_str, z_stI, z_stL, z_stR, eq_self, ↓reduceIte, true_and, and_true, and_self, false_and, and_false, or_self, false_or, or_false, true_or, or_true, not_true_eq_false, not_false_eq_true, Nat.reduceLeDiff, Nat.reduceLT, Nat.reduceAdd, Nat.reduceEqDiff, Nat.reduceMul, Nat.reduceSub, Value.category, Nat.zero_le, beq_self_eq_true]
  unfold wdK
  generalize lsP (isWd T q e) 20 = o at key ⊢
  rw [key]
  cases o with
  | none => exact rfl
  | some w => exact rfl
abbrev isSg (t : Nat) : Prop := t = 59 ∨ t = 61 ∨ t = 43 ∨ t = 45 ∨ t = 42 ∨ t = 47 ∨ t = 60 ∨ t = 40 ∨ t = 41
theorem gB_val : gB 0 = 59 ∧ gB 1 = 61 ∧ gB 2 = 43 ∧ gB 3 = 45 ∧ gB 4 = 42 ∧ gB 5 = 47 ∧ gB 6 = 60 ∧ gB 7 = 40 ∧ gB 8 = 41 := by decide +kernel
theorem sg_iff (t : Nat) : isSg t ↔ ∃ j, j < 9 ∧ gB j = t := by
  obtain ⟨g0, g1, g2, g3, g4, g5, g6, g7, g8⟩ := gB_val
  constructor
  · rintro (g | g | g | g | g | g | g | g | g)
    · exact ⟨0, by decide, by rw [g0, g]⟩
    · exact ⟨1, by decide, by rw [g1, g]⟩
    · exact ⟨2, by decide, by rw [g2, g]⟩
    · exact ⟨3, by decide, by rw [g3, g]⟩
    · exact ⟨4, by decide, by rw [g4, g]⟩
    · exact ⟨5, by decide, by rw [g5, g]⟩
    · exact ⟨6, by decide, by rw [g6, g]⟩
    · exact ⟨7, by decide, by rw [g7, g]⟩
    · exact ⟨8, by decide, by rw [g8, g]⟩
  · rintro ⟨j, hj, rfl⟩
    rcases (show j = 0 ∨ j = 1 ∨ j = 2 ∨ j = 3 ∨ j = 4 ∨ j = 5 ∨ j = 6 ∨ j = 7 ∨ j = 8 by omega) with rfl | rfl | rfl | rfl | rfl | rfl | rfl | rfl | rfl
    · rw [g0]; decide
    · rw [g1]; decide
    · rw [g2]; decide
    · rw [g3]; decide
    · rw [g4]; decide
    · rw [g5]; decide
    · rw [g6]; decide
    · rw [g7]; decide
    · rw [g8]; decide
