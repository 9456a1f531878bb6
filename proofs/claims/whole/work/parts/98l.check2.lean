/-! read: the class's check of expressions, laws, tells -/
theorem tok_lt {I : Nat → Nat → Int32} {L : Nat → Nat → Int64} {B dx sz : Nat} {K W : Nat → Nat} (hT : tokC I L B dx K W sz) (i : Nat) : K i < 64 := by
  by_cases g : i < sz
  · exact (hT.2.2.1 i g).2.1
  · rw [hT.2.2.2 i (by omega)]; decide
theorem p_kindQ {I : Nat → Nat → Int32} {L : Nat → Nat → Int64} {Z : zZ} {B tx dx sz : Nat} {K W : Nat → Nat} {q : Nat × Nat} (h : isCls Z B tx) (hd : dx + tx = 21) (hT : tokC I L B dx K W sz) (hq : bd q) : fX8_kind [.ref (B + (dx + 1)), .int (nI q.2)] (ckQ I (B + dx) q, L, Z) = some (some (.int (nI (K q.2))), (ckQ I (B + dx) q, L, Z)) := p_kindD h hd hT (fun a ha => ck_off ha) (by have := hq.2; omega)
theorem p_ckE_lp {I : Nat → Nat → Int32} {L : Nat → Nat → Int64} {Z : zZ} {B tx dx sz : Nat} {K W : Nat → Nat} {g : zF} {v : Int32} {U : Nat → Nat × Nat} (h : isCls Z B tx) (hd : dx + tx = 21) (hT : tokC I L B dx K W sz) (hU : ∀ i, i ≤ 400 → spn inn K i (U i)) (hg : ∀ q, bd q → g [.ref (B + dx), .int v] (ckQ I (B + dx) q, L, Z) = some (none, (ckQ I (B + dx) (thn q U), L, Z))) : ∀ n c q, bd q → c + n = 400 → q_lp (bX7_checkExpression_7 g) [some (Value.ref ((B + dx))), some (Value.int (v)), some (Value.int (nI (c)))] [] (ckQ I (B + dx) q, L, Z) = some (none, (ckQ I (B + dx) (thn q (tl2 U K n)), L, Z)) := by
  intro n
  induction n with
  | zero =>
    intro c q hq hc
    obtain rfl : c = 400 := by omega
    have e : thn q (tl2 U K 0) = q := thn_id
    rw [e, q_lp_eq, show bX7_checkExpression_7 g [some (Value.ref ((B + dx))), some (Value.int (v)), some (Value.int (nI (400)))] [] (ckQ I (B + dx) q, L, Z) = some (.inr (none, (ckQ I (B + dx) q, L, Z))) by simp (disch := omega) only [bX7_checkExpression_7, kX7_checkExpression_54, e_push, e_pushl, e_iload, e_lload, e_aload, e_istore, e_astore, e_lstore, e_iinc, e_iadd, e_isub, e_imul, e_iand, e_ior, e_ixor, e_ishl, e_ishr, e_iushr, e_idiv, e_irem, e_ladd, e_lsub, e_lmul, e_lcmp, e_mmax, e_mmin, e_i2l, e_l2i, e_i2b, e_i2c, e_dup, e_dup2, e_pop, e_icmp_eq, e_icmp_ne, e_icmp_lt, e_icmp_ge, e_icmp_gt, e_icmp_le, e_if_eq, e_if_ne, e_if_lt, e_if_ge, e_if_gt, e_if_le, e_getI, e_getR, e_putI, e_putZ, e_putR, e_iald, e_bald, e_zald, e_lald, e_aald, e_alen, e_iast, e_bast, e_zast, e_last, e_aast, e_iret, e_zret, e_lret, e_vret, e_obj, e_callV, e_callS, e_callT, e_acpy, e_ldcS, e_dn, e_ag, z_pop, List.getElem?_cons_zero, List.getElem?_cons_succ, List.set_cons_zero, List.set_cons_succ, List.length_cons, List.length_nil, z_nol, Option.map_some, Option.toList_some, Option.toList_none, List.cons_append, List.nil_append, n_lit, n_m1, n_m2, n_m1lt, n_m1le, n_rem, n_div, n_out, n_cl, n_eq, n_le, n_lt, n_add, n_mul, n_sub, n_nle, n_yle, n_nlt, n_ylt, n_neN, z_lay, z_sz, z_str, z_stI, z_stL, z_stR, eq_self, ↓reduceIte, true_and, and_true, and_self, false_and, and_false, or_self, false_or, or_false, true_or, or_true, not_true_eq_false, not_false_eq_true, Nat.reduceLeDiff, Nat.reduceLT, Nat.reduceAdd, Nat.reduceEqDiff, Nat.reduceMul, Nat.reduceSub, Value.category, Nat.zero_le, beq_self_eq_true]]
  | succ n ih =>
    intro c q hq hc
    have hq1 := hq.1
    by_cases e : q.1 = 0
    · have kk := p_kindQ h hd hT hq
      have bk := tok_lt hT q.2
      have io := p_isOp bk (σ := (ckQ I (B + dx) q, L, Z))
      rw [thn_yes e, tl2]
      by_cases go : sOp (K q.2) = 0
      · rw [if_pos go] at io ⊢
        rw [q_lp_eq, show bX7_checkExpression_7 g [some (Value.ref ((B + dx))), some (Value.int (v)), some (Value.int (nI (c)))] [] (ckQ I (B + dx) q, L, Z) = some (.inr (none, (ckQ I (B + dx) q, L, Z))) by simp (disch := omega) only [bX7_checkExpression_7, kX7_checkExpression_54, dl_0 h hd, dl_1 h hd, dr_0_0 h hd, ck_6, ck_8, e, kk, io, e_push, e_pushl, e_iload, e_lload, e_aload, e_istore, e_astore, e_lstore, e_iinc, e_iadd, e_isub, e_imul, e_iand, e_ior, e_ixor, e_ishl, e_ishr, e_iushr, e_idiv, e_irem, e_ladd, e_lsub, e_lmul, e_lcmp, e_mmax, e_mmin, e_i2l, e_l2i, e_i2b, e_i2c, e_dup, e_dup2, e_pop, e_icmp_eq, e_icmp_ne, e_icmp_lt, e_icmp_ge, e_icmp_gt, e_icmp_le, e_if_eq, e_if_ne, e_if_lt, e_if_ge, e_if_gt, e_if_le, e_getI, e_getR, e_putI, e_putZ, e_putR, e_iald, e_bald, e_zald, e_lald, e_aald, e_alen, e_iast, e_bast, e_zast, e_last, e_aast, e_iret, e_zret, e_lret, e_vret, e_obj, e_callV, e_callS, e_callT, e_acpy, e_ldcS, e_dn, e_ag, z_pop, List.getElem?_cons_zero, List.getElem?_cons_succ, List.set_cons_zero, List.set_cons_succ, List.length_cons, List.length_nil, z_nol, Option.map_some, Option.toList_some, Option.toList_none, List.cons_append, List.nil_append, n_lit, n_m1, n_m2, n_m1lt, n_m1le, n_rem, n_div, n_out, n_cl, n_eq, n_le, n_lt, n_add, n_mul, n_sub, n_nle, n_yle, n_nlt, n_ylt, n_neN, z_lay, z_sz, z_str, z_stI, z_stL, z_stR, eq_self, ↓reduceIte, true_and, and_true, and_self, false_and, and_false, or_self, false_or, or_false, true_or, or_true, not_true_eq_false, not_false_eq_true, Nat.reduceLeDiff, Nat.reduceLT, Nat.reduceAdd, Nat.reduceEqDiff, Nat.reduceMul, Nat.reduceSub, Value.category, Nat.zero_le, beq_self_eq_true], ← e]
      · rw [if_neg go] at io ⊢
        have s1 := p_step1 (I := I) (L := L) h hd hq
        have b1 := bd_adv hq
        rw [thn_yes e] at s1 b1
        have s2 := hg _ b1
        have b2 := bd_thn b1 hU
        rw [← thn_assoc]
        have s3 := ih (c + 1) _ b2 (by omega)
        generalize thn (adv q.2) U = q2 at s2 b2 s3 ⊢
        generalize adv q.2 = q1 at s1 s2
        rw [← s3, q_lp_eq, show bX7_checkExpression_7 g [some (Value.ref ((B + dx))), some (Value.int (v)), some (Value.int (nI (c)))] [] (ckQ I (B + dx) q, L, Z) = some (.inl ([some (Value.ref ((B + dx))), some (Value.int (v)), some (Value.int (nI (c + 1)))], (ckQ I (B + dx) q2, L, Z))) by simp (disch := omega) only [bX7_checkExpression_7, kX7_checkExpression_54, dl_0 h hd, dl_1 h hd, dr_0_0 h hd, ck_6, ck_8, e, kk, io, s1, s2, e_push, e_pushl, e_iload, e_lload, e_aload, e_istore, e_astore, e_lstore, e_iinc, e_iadd, e_isub, e_imul, e_iand, e_ior, e_ixor, e_ishl, e_ishr, e_iushr, e_idiv, e_irem, e_ladd, e_lsub, e_lmul, e_lcmp, e_mmax, e_mmin, e_i2l, e_l2i, e_i2b, e_i2c, e_dup, e_dup2, e_pop, e_icmp_eq, e_icmp_ne, e_icmp_lt, e_icmp_ge, e_icmp_gt, e_icmp_le, e_if_eq, e_if_ne, e_if_lt, e_if_ge, e_if_gt, e_if_le, e_getI, e_getR, e_putI, e_putZ, e_putR, e_iald, e_bald, e_zald, e_lald, e_aald, e_alen, e_iast, e_bast, e_zast, e_last, e_aast, e_iret, e_zret, e_lret, e_vret, e_obj, e_callV, e_callS, e_callT, e_acpy, e_ldcS, e_dn, e_ag, z_pop, List.getElem?_cons_zero, List.getElem?_cons_succ, List.set_cons_zero, List.set_cons_succ, List.length_cons, List.length_nil, z_nol, Option.map_some, Option.toList_some, Option.toList_none, List.cons_append, List.nil_append, n_lit, n_m1, n_m2, n_m1lt, n_m1le, n_rem, n_div, n_out, n_cl, n_eq, n_le, n_lt, n_add, n_mul, n_sub, n_nle, n_yle, n_nlt, n_ylt, n_neN, z_lay, z_sz, z_str, z_stI, z_stL, z_stR, eq_self, ↓reduceIte, true_and, and_true, and_self, false_and, and_false, or_self, false_or, or_false, true_or, or_true, not_true_eq_false, not_false_eq_true, Nat.reduceLeDiff, Nat.reduceLT, Nat.reduceAdd, Nat.reduceEqDiff, Nat.reduceMul, Nat.reduceSub, Value.category, Nat.zero_le, beq_self_eq_true]]
    · rw [thn_no e, q_lp_eq, show bX7_checkExpression_7 g [some (Value.ref ((B + dx))), some (Value.int (v)), some (Value.int (nI (c)))] [] (ckQ I (B + dx) q, L, Z) = some (.inr (none, (ckQ I (B + dx) q, L, Z))) by simp (disch := omega) only [bX7_checkExpression_7, kX7_checkExpression_54, dl_0 h hd, dl_1 h hd, dr_0_0 h hd, ck_6, ck_8, e, e_push, e_pushl, e_iload, e_lload, e_aload, e_istore, e_astore, e_lstore, e_iinc, e_iadd, e_isub, e_imul, e_iand, e_ior, e_ixor, e_ishl, e_ishr, e_iushr, e_idiv, e_irem, e_ladd, e_lsub, e_lmul, e_lcmp, e_mmax, e_mmin, e_i2l, e_l2i, e_i2b, e_i2c, e_dup, e_dup2, e_pop, e_icmp_eq, e_icmp_ne, e_icmp_lt, e_icmp_ge, e_icmp_gt, e_icmp_le, e_if_eq, e_if_ne, e_if_lt, e_if_ge, e_if_gt, e_if_le, e_getI, e_getR, e_putI, e_putZ, e_putR, e_iald, e_bald, e_zald, e_lald, e_aald, e_alen, e_iast, e_bast, e_zast, e_last, e_aast, e_iret, e_zret, e_lret, e_vret, e_obj, e_callV, e_callS, e_callT, e_acpy, e_ldcS, e_dn, e_ag, z_pop, List.getElem?_cons_zero, List.getElem?_cons_succ, List.set_cons_zero, List.set_cons_succ, List.length_cons, List.length_nil, z_nol, Option.map_some, Option.toList_some, Option.toList_none, List.cons_append, List.nil_append, n_lit, n_m1, n_m2, n_m1lt, n_m1le, n_rem, n_div, n_out, n_cl, n_eq, n_le, n_lt, n_add, n_mul, n_sub, n_nle, n_yle, n_nlt, n_ylt, n_neN, z_lay, z_sz, z_str, z_stI, z_stL, z_stR, eq_self, ↓reduceIte, true_and, and_true, and_self, false_and, and_false, or_self, false_or, or_false, true_or, or_true, not_true_eq_false, not_false_eq_true, Nat.reduceLeDiff, Nat.reduceLT, Nat.reduceAdd, Nat.reduceEqDiff, Nat.reduceMul, Nat.reduceSub, Value.category, Nat.zero_le, beq_self_eq_true]]
theorem p_ckE_of {I : Nat → Nat → Int32} {L : Nat → Nat → Int64} {Z : zZ} {B tx dx sz : Nat} {K W : Nat → Nat} {g : zF} {v : Int32} {U : Nat → Nat × Nat} (h : isCls Z B tx) (hd : dx + tx = 21) (hT : tokC I L B dx K W sz) (hU : ∀ i, i ≤ 400 → spn inn K i (U i)) (hg : ∀ q, bd q → g [.ref (B + dx), .int v] (ckQ I (B + dx) q, L, Z) = some (none, (ckQ I (B + dx) (thn q U), L, Z))) (q : Nat × Nat) (hq : bd q) : z_fn 3 (kX7_checkExpression_0 g) [.ref (B + dx), .int v] (ckQ I (B + dx) q, L, Z) = some (none, (ckQ I (B + dx) (thn q (ex2 U K)), L, Z)) := by
  have s1 := hg q hq
  have b1 := bd_thn hq hU
  have s2 := p_ckE_lp h hd hT hU hg 400 0 _ b1 rfl
  rw [thn_assoc] at s2
  have e : (fun i => thn (U i) (tl2 U K 400)) = ex2 U K := rfl
  rw [e] at s2
  generalize thn q (ex2 U K) = q2 at s2 ⊢
  generalize thn q U = q1 at s1 s2
  show kX7_checkExpression_0 g [some (Value.ref ((B + dx))), some (Value.int (v)), none] [] _ = _
  simp (disch := omega) only [kX7_checkExpression_0, kX7_checkExpression_7, dl_0 h hd, s1, s2, e_push, e_pushl, e_iload, e_lload, e_aload, e_istore, e_astore, e_lstore, e_iinc, e_iadd, e_isub, e_imul, e_iand, e_ior, e_ixor, e_ishl, e_ishr, e_iushr, e_idiv, e_irem, e_ladd, e_lsub, e_lmul, e_lcmp, e_mmax, e_mmin, e_i2l, e_l2i, e_i2b, e_i2c, e_dup, e_dup2, e_pop, e_icmp_eq, e_icmp_ne, e_icmp_lt, e_icmp_ge, e_icmp_gt, e_icmp_le, e_if_eq, e_if_ne, e_if_lt, e_if_ge, e_if_gt, e_if_le, e_getI, e_getR, e_putI, e_putZ, e_putR, e_iald, e_bald, e_zald, e_lald, e_aald, e_alen, e_iast, e_bast, e_zast, e_last, e_aast, e_iret, e_zret, e_lret, e_vret, e_obj, e_callV, e_callS, e_callT, e_acpy, e_ldcS, e_dn, e_ag, z_pop, List.getElem?_cons_zero, List.getElem?_cons_succ, List.set_cons_zero, List.set_cons_succ, List.length_cons, List.length_nil, z_nol, Option.map_some, Option.toList_some, Option.toList_none, List.cons_append, List.nil_append, n_lit, n_m1, n_m2, n_m1lt, n_m1le, n_rem, n_div, n_out, n_cl, n_eq, n_le, n_lt, n_add, n_mul, n_sub, n_nle, n_yle, n_nlt, n_ylt, n_neN, z_lay, z_sz, z_str, z_stI, z_stL, z_stR, eq_self, ↓reduceIte, true_and, and_true, and_self, false_and, and_false, or_self, false_or, or_false, true_or, or_true, not_true_eq_false, not_false_eq_true, Nat.reduceLeDiff, Nat.reduceLT, Nat.reduceAdd, Nat.reduceEqDiff, Nat.reduceMul, Nat.reduceSub, Value.category, Nat.zero_le, beq_self_eq_true]
theorem p_ckU_leaf {I : Nat → Nat → Int32} {L : Nat → Nat → Int64} {Z : zZ} {B tx dx sz o : Nat} {K W : Nat → Nat} {g : zF} (h : isCls Z B tx) (hd : dx + tx = 21) (hT : tokC I L B dx K W sz) (q : Nat × Nat) (hq : bd q) (e : q.1 = 0) (hk : K q.2 ≠ 40) : kX7_checkUnit_0 g [some (Value.ref ((B + dx))), some (Value.int (nI (o))), none] [] (ckQ I (B + dx) q, L, Z) = some (none, (ckQ I (B + dx) (leaf2 K q.2), L, Z)) := by
  have kk := p_kindQ h hd hT hq
  have bk := tok_lt hT q.2
  have iv := p_isVar bk (σ := (ckQ I (B + dx) q, L, Z))
  unfold leaf2
  by_cases g1 : K q.2 = 21
  · have s1 := p_step1 (I := I) (L := L) h hd hq
    rw [thn_yes e] at s1
    rw [if_pos (Or.inl g1)]
    rw [g1] at kk
    generalize adv q.2 = q1 at s1 ⊢
    simp (disch := omega) only [kX7_checkUnit_83, kX7_checkUnit_45, kX7_checkUnit_40, kX7_checkUnit_0, dl_0 h hd, dl_1 h hd, dr_0_0 h hd, ck_6, ck_8, e, kk, s1, e_push, e_pushl, e_iload, e_lload, e_aload, e_istore, e_astore, e_lstore, e_iinc, e_iadd, e_isub, e_imul, e_iand, e_ior, e_ixor, e_ishl, e_ishr, e_iushr, e_idiv, e_irem, e_ladd, e_lsub, e_lmul, e_lcmp, e_mmax, e_mmin, e_i2l, e_l2i, e_i2b, e_i2c, e_dup, e_dup2, e_pop, e_icmp_eq, e_icmp_ne, e_icmp_lt, e_icmp_ge, e_icmp_gt, e_icmp_le, e_if_eq, e_if_ne, e_if_lt, e_if_ge, e_if_gt, e_if_le, e_getI, e_getR, e_putI, e_putZ, e_putR, e_iald, e_bald, e_zald, e_lald, e_aald, e_alen, e_iast, e_bast, e_zast, e_last, e_aast, e_iret, e_zret, e_lret, e_vret, e_obj, e_callV, e_callS, e_callT, e_acpy, e_ldcS, e_dn, e_ag, z_pop, List.getElem?_cons_zero, List.getElem?_cons_succ, List.set_cons_zero, List.set_cons_succ, List.length_cons, List.length_nil, z_nol, Option.map_some, Option.toList_some, Option.toList_none, List.cons_append, List.nil_append, n_lit, n_m1, n_m2, n_m1lt, n_m1le, n_rem, n_div, n_out, n_cl, n_eq, n_le, n_lt, n_add, n_mul, n_sub, n_nle, n_yle, n_nlt, n_ylt, n_neN, z_lay, z_sz, z_str, z_stI, z_stL, z_stR, eq_self, ↓reduceIte, true_and, and_true, and_self, false_and, and_false, or_self, false_or, or_false, true_or, or_true, not_true_eq_false, not_false_eq_true, Nat.reduceLeDiff, Nat.reduceLT, Nat.reduceAdd, Nat.reduceEqDiff, Nat.reduceMul, Nat.reduceSub, Value.category, Nat.zero_le, beq_self_eq_true]
  · by_cases g2 : 11 ≤ K q.2 ∧ K q.2 ≤ 19
    · have s1 := p_step1 (I := I) (L := L) h hd hq
      rw [thn_yes e] at s1
      rw [if_pos (Or.inr g2)]
      rw [if_pos g2] at iv
      generalize adv q.2 = q1 at s1 ⊢
      simp (disch := omega) only [kX7_checkUnit_83, kX7_checkUnit_45, kX7_checkUnit_40, kX7_checkUnit_0, dl_0 h hd, dl_1 h hd, dr_0_0 h hd, ck_6, ck_8, e, kk, s1, iv, hk, g1, e_push, e_pushl, e_iload, e_lload, e_aload, e_istore, e_astore, e_lstore, e_iinc, e_iadd, e_isub, e_imul, e_iand, e_ior, e_ixor, e_ishl, e_ishr, e_iushr, e_idiv, e_irem, e_ladd, e_lsub, e_lmul, e_lcmp, e_mmax, e_mmin, e_i2l, e_l2i, e_i2b, e_i2c, e_dup, e_dup2, e_pop, e_icmp_eq, e_icmp_ne, e_icmp_lt, e_icmp_ge, e_icmp_gt, e_icmp_le, e_if_eq, e_if_ne, e_if_lt, e_if_ge, e_if_gt, e_if_le, e_getI, e_getR, e_putI, e_putZ, e_putR, e_iald, e_bald, e_zald, e_lald, e_aald, e_alen, e_iast, e_bast, e_zast, e_last, e_aast, e_iret, e_zret, e_lret, e_vret, e_obj, e_callV, e_callS, e_callT, e_acpy, e_ldcS, e_dn, e_ag, z_pop, List.getElem?_cons_zero, List.getElem?_cons_succ, List.set_cons_zero, List.set_cons_succ, List.length_cons, List.length_nil, z_nol, Option.map_some, Option.toList_some, Option.toList_none, List.cons_append, List.nil_append, n_lit, n_m1, n_m2, n_m1lt, n_m1le, n_rem, n_div, n_out, n_cl, n_eq, n_le, n_lt, n_add, n_mul, n_sub, n_nle, n_yle, n_nlt, n_ylt, n_neN, z_lay, z_sz, z_str, z_stI, z_stL, z_stR, eq_self, ↓reduceIte, true_and, and_true, and_self, false_and, and_false, or_self, false_or, or_false, true_or, or_true, not_true_eq_false, not_false_eq_true, Nat.reduceLeDiff, Nat.reduceLT, Nat.reduceAdd, Nat.reduceEqDiff, Nat.reduceMul, Nat.reduceSub, Value.category, Nat.zero_le, beq_self_eq_true]
    · have s1 := p_step0 (I := I) (L := L) h hd hq
      rw [thn_yes e] at s1
      rw [if_neg (fun z => z.elim g1 g2)]
      rw [if_neg g2] at iv
      simp (disch := omega) only [kX7_checkUnit_83, kX7_checkUnit_45, kX7_checkUnit_40, kX7_checkUnit_0, dl_0 h hd, dl_1 h hd, dr_0_0 h hd, ck_6, ck_8, e, kk, s1, iv, hk, g1, e_push, e_pushl, e_iload, e_lload, e_aload, e_istore, e_astore, e_lstore, e_iinc, e_iadd, e_isub, e_imul, e_iand, e_ior, e_ixor, e_ishl, e_ishr, e_iushr, e_idiv, e_irem, e_ladd, e_lsub, e_lmul, e_lcmp, e_mmax, e_mmin, e_i2l, e_l2i, e_i2b, e_i2c, e_dup, e_dup2, e_pop, e_icmp_eq, e_icmp_ne, e_icmp_lt, e_icmp_ge, e_icmp_gt, e_icmp_le, e_if_eq, e_if_ne, e_if_lt, e_if_ge, e_if_gt, e_if_le, e_getI, e_getR, e_putI, e_putZ, e_putR, e_iald, e_bald, e_zald, e_lald, e_aald, e_alen, e_iast, e_bast, e_zast, e_last, e_aast, e_iret, e_zret, e_lret, e_vret, e_obj, e_callV, e_callS, e_callT, e_acpy, e_ldcS, e_dn, e_ag, z_pop, List.getElem?_cons_zero, List.getElem?_cons_succ, List.set_cons_zero, List.set_cons_succ, List.length_cons, List.length_nil, z_nol, Option.map_some, Option.toList_some, Option.toList_none, List.cons_append, List.nil_append, n_lit, n_m1, n_m2, n_m1lt, n_m1le, n_rem, n_div, n_out, n_cl, n_eq, n_le, n_lt, n_add, n_mul, n_sub, n_nle, n_yle, n_nlt, n_ylt, n_neN, z_lay, z_sz, z_str, z_stI, z_stL, z_stR, eq_self, ↓reduceIte, true_and, and_true, and_self, false_and, and_false, or_self, false_or, or_false, true_or, or_true, not_true_eq_false, not_false_eq_true, Nat.reduceLeDiff, Nat.reduceLT, Nat.reduceAdd, Nat.reduceEqDiff, Nat.reduceMul, Nat.reduceSub, Value.category, Nat.zero_le, beq_self_eq_true]
theorem p_ckE {I : Nat → Nat → Int32} {L : Nat → Nat → Int64} {Z : zZ} {B tx dx sz : Nat} {K W : Nat → Nat} (h : isCls Z B tx) (hd : dx + tx = 21) (hT : tokC I L B dx K W sz) : ∀ m o, o + m = 6 → ∀ q, bd q → fX7_checkExpression (m + 2) [.ref (B + dx), .int (nI o)] (ckQ I (B + dx) q, L, Z) = some (none, (ckQ I (B + dx) (thn q (ex2 (un2 K m) K)), L, Z)) := by
  intro m
  induction m with
  | zero =>
    intro o ho q hq
    obtain rfl : o = 6 := by omega
    refine p_ckE_of (g := z_fn 3 (kX7_checkUnit_0 (fX7_checkExpression 1))) h hd hT (spn_un 0) (fun q hq => ?_) q hq
    show kX7_checkUnit_0 _ [some (Value.ref ((B + dx))), some (Value.int (nI (6))), none] [] _ = _
    have hq1 := hq.1
    by_cases e : q.1 = 0
    · rw [thn_yes e, un2]
      by_cases g : K q.2 = 40
      · rw [if_pos g]
        have kk := p_kindQ h hd hT hq
        rw [g] at kk
        simp (disch := omega) only [kX7_checkUnit_83, kX7_checkUnit_45, kX7_checkUnit_40, kX7_checkUnit_0, dl_0 h hd, dl_1 h hd, dr_0_0 h hd, ck_6, ck_8, ck_p6, e, kk, e_push, e_pushl, e_iload, e_lload, e_aload, e_istore, e_astore, e_lstore, e_iinc, e_iadd, e_isub, e_imul, e_iand, e_ior, e_ixor, e_ishl, e_ishr, e_iushr, e_idiv, e_irem, e_ladd, e_lsub, e_lmul, e_lcmp, e_mmax, e_mmin, e_i2l, e_l2i, e_i2b, e_i2c, e_dup, e_dup2, e_pop, e_icmp_eq, e_icmp_ne, e_icmp_lt, e_icmp_ge, e_icmp_gt, e_icmp_le, e_if_eq, e_if_ne, e_if_lt, e_if_ge, e_if_gt, e_if_le, e_getI, e_getR, e_putI, e_putZ, e_putR, e_iald, e_bald, e_zald, e_lald, e_aald, e_alen, e_iast, e_bast, e_zast, e_last, e_aast, e_iret, e_zret, e_lret, e_vret, e_obj, e_callV, e_callS, e_callT, e_acpy, e_ldcS, e_dn, e_ag, z_pop, List.getElem?_cons_zero, List.getElem?_cons_succ, List.set_cons_zero, List.set_cons_succ, List.length_cons, List.length_nil, z_nol, Option.map_some, Option.toList_some, Option.toList_none, List.cons_append, List.nil_append, n_lit, n_m1, n_m2, n_m1lt, n_m1le, n_rem, n_div, n_out, n_cl, n_eq, n_le, n_lt, n_add, n_mul, n_sub, n_nle, n_yle, n_nlt, n_ylt, n_neN, z_lay, z_sz, z_str, z_stI, z_stL, z_stR, eq_self, ↓reduceIte, true_and, and_true, and_self, false_and, and_false, or_self, false_or, or_false, true_or, or_true, not_true_eq_false, not_false_eq_true, Nat.reduceLeDiff, Nat.reduceLT, Nat.reduceAdd, Nat.reduceEqDiff, Nat.reduceMul, Nat.reduceSub, Value.category, Nat.zero_le, beq_self_eq_true]
      · rw [if_neg g]
        exact p_ckU_leaf h hd hT q hq e g
    · rw [thn_no e]
      simp (disch := omega) only [kX7_checkUnit_83, kX7_checkUnit_45, kX7_checkUnit_40, kX7_checkUnit_0, dl_0 h hd, ck_6, e, e_push, e_pushl, e_iload, e_lload, e_aload, e_istore, e_astore, e_lstore, e_iinc, e_iadd, e_isub, e_imul, e_iand, e_ior, e_ixor, e_ishl, e_ishr, e_iushr, e_idiv, e_irem, e_ladd, e_lsub, e_lmul, e_lcmp, e_mmax, e_mmin, e_i2l, e_l2i, e_i2b, e_i2c, e_dup, e_dup2, e_pop, e_icmp_eq, e_icmp_ne, e_icmp_lt, e_icmp_ge, e_icmp_gt, e_icmp_le, e_if_eq, e_if_ne, e_if_lt, e_if_ge, e_if_gt, e_if_le, e_getI, e_getR, e_putI, e_putZ, e_putR, e_iald, e_bald, e_zald, e_lald, e_aald, e_alen, e_iast, e_bast, e_zast, e_last, e_aast, e_iret, e_zret, e_lret, e_vret, e_obj, e_callV, e_callS, e_callT, e_acpy, e_ldcS, e_dn, e_ag, z_pop, List.getElem?_cons_zero, List.getElem?_cons_succ, List.set_cons_zero, List.set_cons_succ, List.length_cons, List.length_nil, z_nol, Option.map_some, Option.toList_some, Option.toList_none, List.cons_append, List.nil_append, n_lit, n_m1, n_m2, n_m1lt, n_m1le, n_rem, n_div, n_out, n_cl, n_eq, n_le, n_lt, n_add, n_mul, n_sub, n_nle, n_yle, n_nlt, n_ylt, n_neN, z_lay, z_sz, z_str, z_stI, z_stL, z_stR, eq_self, ↓reduceIte, true_and, and_true, and_self, false_and, and_false, or_self, false_or, or_false, true_or, or_true, not_true_eq_false, not_false_eq_true, Nat.reduceLeDiff, Nat.reduceLT, Nat.reduceAdd, Nat.reduceEqDiff, Nat.reduceMul, Nat.reduceSub, Value.category, Nat.zero_le, beq_self_eq_true]
  | succ m ih =>
    intro o ho q hq
    refine p_ckE_of (g := z_fn 3 (kX7_checkUnit_0 (fX7_checkExpression (m + 2)))) h hd hT (spn_un (m + 1)) (fun q hq => ?_) q hq
    show kX7_checkUnit_0 _ [some (Value.ref ((B + dx))), some (Value.int (nI (o))), none] [] _ = _
    have hq1 := hq.1
    by_cases e : q.1 = 0
    · rw [thn_yes e, un2]
      by_cases g : K q.2 = 40
      · rw [if_pos g]
        have kk := p_kindQ h hd hT hq
        rw [g] at kk
        have s1 := p_step1 (I := I) (L := L) h hd hq
        have b1 := bd_adv hq
        rw [thn_yes e] at s1 b1
        have s2 := ih (o + 1) (by omega) _ b1
        have b2 := bd_thn b1 (spn_ex (spn_un (K := K) m))
        have s3 := p_expect (k := 41) h hd hT b2 (by decide)
        rw [← thn_assoc]
        generalize thn (thn (adv q.2) (ex2 (un2 K m) K)) (must2 K 41) = q3 at s3 ⊢
        generalize thn (adv q.2) (ex2 (un2 K m) K) = q2 at s2 s3
        generalize adv q.2 = q1 at s1 s2
        simp (disch := omega) only [kX7_checkUnit_83, kX7_checkUnit_45, kX7_checkUnit_40, kX7_checkUnit_0, dl_0 h hd, dl_1 h hd, dr_0_0 h hd, ck_6, ck_8, e, kk, s1, s2, s3, e_push, e_pushl, e_iload, e_lload, e_aload, e_istore, e_astore, e_lstore, e_iinc, e_iadd, e_isub, e_imul, e_iand, e_ior, e_ixor, e_ishl, e_ishr, e_iushr, e_idiv, e_irem, e_ladd, e_lsub, e_lmul, e_lcmp, e_mmax, e_mmin, e_i2l, e_l2i, e_i2b, e_i2c, e_dup, e_dup2, e_pop, e_icmp_eq, e_icmp_ne, e_icmp_lt, e_icmp_ge, e_icmp_gt, e_icmp_le, e_if_eq, e_if_ne, e_if_lt, e_if_ge, e_if_gt, e_if_le, e_getI, e_getR, e_putI, e_putZ, e_putR, e_iald, e_bald, e_zald, e_lald, e_aald, e_alen, e_iast, e_bast, e_zast, e_last, e_aast, e_iret, e_zret, e_lret, e_vret, e_obj, e_callV, e_callS, e_callT, e_acpy, e_ldcS, e_dn, e_ag, z_pop, List.getElem?_cons_zero, List.getElem?_cons_succ, List.set_cons_zero, List.set_cons_succ, List.length_cons, List.length_nil, z_nol, Option.map_some, Option.toList_some, Option.toList_none, List.cons_append, List.nil_append, n_lit, n_m1, n_m2, n_m1lt, n_m1le, n_rem, n_div, n_out, n_cl, n_eq, n_le, n_lt, n_add, n_mul, n_sub, n_nle, n_yle, n_nlt, n_ylt, n_neN, z_lay, z_sz, z_str, z_stI, z_stL, z_stR, eq_self, ↓reduceIte, true_and, and_true, and_self, false_and, and_false, or_self, false_or, or_false, true_or, or_true, not_true_eq_false, not_false_eq_true, Nat.reduceLeDiff, Nat.reduceLT, Nat.reduceAdd, Nat.reduceEqDiff, Nat.reduceMul, Nat.reduceSub, Value.category, Nat.zero_le, beq_self_eq_true]
      · rw [if_neg g]
        exact p_ckU_leaf h hd hT q hq e g
    · rw [thn_no e]
      simp (disch := omega) only [kX7_checkUnit_83, kX7_checkUnit_45, kX7_checkUnit_40, kX7_checkUnit_0, dl_0 h hd, ck_6, e, e_push, e_pushl, e_iload, e_lload, e_aload, e_istore, e_astore, e_lstore, e_iinc, e_iadd, e_isub, e_imul, e_iand, e_ior, e_ixor, e_ishl, e_ishr, e_iushr, e_idiv, e_irem, e_ladd, e_lsub, e_lmul, e_lcmp, e_mmax, e_mmin, e_i2l, e_l2i, e_i2b, e_i2c, e_dup, e_dup2, e_pop, e_icmp_eq, e_icmp_ne, e_icmp_lt, e_icmp_ge, e_icmp_gt, e_icmp_le, e_if_eq, e_if_ne, e_if_lt, e_if_ge, e_if_gt, e_if_le, e_getI, e_getR, e_putI, e_putZ, e_putR, e_iald, e_bald, e_zald, e_lald, e_aald, e_alen, e_iast, e_bast, e_zast, e_last, e_aast, e_iret, e_zret, e_lret, e_vret, e_obj, e_callV, e_callS, e_callT, e_acpy, e_ldcS, e_dn, e_ag, z_pop, List.getElem?_cons_zero, List.getElem?_cons_succ, List.set_cons_zero, List.set_cons_succ, List.length_cons, List.length_nil, z_nol, Option.map_some, Option.toList_some, Option.toList_none, List.cons_append, List.nil_append, n_lit, n_m1, n_m2, n_m1lt, n_m1le, n_rem, n_div, n_out, n_cl, n_eq, n_le, n_lt, n_add, n_mul, n_sub, n_nle, n_yle, n_nlt, n_ylt, n_neN, z_lay, z_sz, z_str, z_stI, z_stL, z_stR, eq_self, ↓reduceIte, true_and, and_true, and_self, false_and, and_false, or_self, false_or, or_false, true_or, or_true, not_true_eq_false, not_false_eq_true, Nat.reduceLeDiff, Nat.reduceLT, Nat.reduceAdd, Nat.reduceEqDiff, Nat.reduceMul, Nat.reduceSub, Value.category, Nat.zero_le, beq_self_eq_true]
theorem bd_e {K : Nat → Nat} {q : Nat × Nat} (h : bd q) : bd (thn q (xe2 K)) := bd_thn h spn_e
theorem p_ckLaw_lp {I : Nat → Nat → Int32} {L : Nat → Nat → Int64} {Z : zZ} {B tx dx sz : Nat} {K W : Nat → Nat} (h : isCls Z B tx) (hd : dx + tx = 21) (hT : tokC I L B dx K W sz) : ∀ n c q, bd q → c + n = 4 → q_lp bX7_checkLaw_8 [some (Value.ref ((B + dx))), some (Value.int (nI (c)))] [] (ckQ I (B + dx) q, L, Z) = some (none, (ckQ I (B + dx) (thn q (lw2 K n)), L, Z)) := by
  have hE : ∀ q, bd q → fX7_checkExpression 8 [.ref (B + dx), .int (nI 0)] (ckQ I (B + dx) q, L, Z) = some (none, (ckQ I (B + dx) (thn q (xe2 K)), L, Z)) := p_ckE h hd hT 6 0 rfl
  have done : ∀ c q, bd q → c ≤ 5 → (q.1 = 0 → c ≤ 4 ∧ K q.2 ≠ 8) → q_lp bX7_checkLaw_8 [some (Value.ref ((B + dx))), some (Value.int (nI (c)))] [] (ckQ I (B + dx) q, L, Z) = some (none, (ckQ I (B + dx) (thn q (xe2 K)), L, Z)) := by
    intro c q hq hc g
    have hq1 := hq.1
    have s1 := hE q hq
    generalize thn q (xe2 K) = q1 at s1 ⊢
    by_cases e : q.1 = 0
    · obtain ⟨g1, g2⟩ := g e
      have kk := p_kindQ h hd hT hq
      have bk := tok_lt hT q.2
      rw [q_lp_eq, show bX7_checkLaw_8 [some (Value.ref ((B + dx))), some (Value.int (nI (c)))] [] (ckQ I (B + dx) q, L, Z) = some (.inr (none, (ckQ I (B + dx) q1, L, Z))) by simp (disch := omega) only [bX7_checkLaw_8, kX7_checkLaw_93, dl_0 h hd, dl_1 h hd, dr_0_0 h hd, ck_6, ck_8, e, kk, g2, s1, e_push, e_pushl, e_iload, e_lload, e_aload, e_istore, e_astore, e_lstore, e_iinc, e_iadd, e_isub, e_imul, e_iand, e_ior, e_ixor, e_ishl, e_ishr, e_iushr, e_idiv, e_irem, e_ladd, e_lsub, e_lmul, e_lcmp, e_mmax, e_mmin, e_i2l, e_l2i, e_i2b, e_i2c, e_dup, e_dup2, e_pop, e_icmp_eq, e_icmp_ne, e_icmp_lt, e_icmp_ge, e_icmp_gt, e_icmp_le, e_if_eq, e_if_ne, e_if_lt, e_if_ge, e_if_gt, e_if_le, e_getI, e_getR, e_putI, e_putZ, e_putR, e_iald, e_bald, e_zald, e_lald, e_aald, e_alen, e_iast, e_bast, e_zast, e_last, e_aast, e_iret, e_zret, e_lret, e_vret, e_obj, e_callV, e_callS, e_callT, e_acpy, e_ldcS, e_dn, e_ag, z_pop, List.getElem?_cons_zero, List.getElem?_cons_succ, List.set_cons_zero, List.set_cons_succ, List.length_cons, List.length_nil, z_nol, Option.map_some, Option.toList_some, Option.toList_none, List.cons_append, List.nil_append, n_lit, n_m1, n_m2, n_m1lt, n_m1le, n_rem, n_div, n_out, n_cl, n_eq, n_le, n_lt, n_add, n_mul, n_sub, n_nle, n_yle, n_nlt, n_ylt, n_neN, z_lay, z_sz, z_str, z_stI, z_stL, z_stR, eq_self, ↓reduceIte, true_and, and_true, and_self, false_and, and_false, or_self, false_or, or_false, true_or, or_true, not_true_eq_false, not_false_eq_true, Nat.reduceLeDiff, Nat.reduceLT, Nat.reduceAdd, Nat.reduceEqDiff, Nat.reduceMul, Nat.reduceSub, Value.category, Nat.zero_le, beq_self_eq_true]]
    · by_cases g5 : 4 < c
      · rw [q_lp_eq, show bX7_checkLaw_8 [some (Value.ref ((B + dx))), some (Value.int (nI (c)))] [] (ckQ I (B + dx) q, L, Z) = some (.inr (none, (ckQ I (B + dx) q1, L, Z))) by simp (disch := omega) only [bX7_checkLaw_8, kX7_checkLaw_93, dl_0 h hd, s1, e_push, e_pushl, e_iload, e_lload, e_aload, e_istore, e_astore, e_lstore, e_iinc, e_iadd, e_isub, e_imul, e_iand, e_ior, e_ixor, e_ishl, e_ishr, e_iushr, e_idiv, e_irem, e_ladd, e_lsub, e_lmul, e_lcmp, e_mmax, e_mmin, e_i2l, e_l2i, e_i2b, e_i2c, e_dup, e_dup2, e_pop, e_icmp_eq, e_icmp_ne, e_icmp_lt, e_icmp_ge, e_icmp_gt, e_icmp_le, e_if_eq, e_if_ne, e_if_lt, e_if_ge, e_if_gt, e_if_le, e_getI, e_getR, e_putI, e_putZ, e_putR, e_iald, e_bald, e_zald, e_lald, e_aald, e_alen, e_iast, e_bast, e_zast, e_last, e_aast, e_iret, e_zret, e_lret, e_vret, e_obj, e_callV, e_callS, e_callT, e_acpy, e_ldcS, e_dn, e_ag, z_pop, List.getElem?_cons_zero, List.getElem?_cons_succ, List.set_cons_zero, List.set_cons_succ, List.length_cons, List.length_nil, z_nol, Option.map_some, Option.toList_some, Option.toList_none, List.cons_append, List.nil_append, n_lit, n_m1, n_m2, n_m1lt, n_m1le, n_rem, n_div, n_out, n_cl, n_eq, n_le, n_lt, n_add, n_mul, n_sub, n_nle, n_yle, n_nlt, n_ylt, n_neN, z_lay, z_sz, z_str, z_stI, z_stL, z_stR, eq_self, ↓reduceIte, true_and, and_true, and_self, false_and, and_false, or_self, false_or, or_false, true_or, or_true, not_true_eq_false, not_false_eq_true, Nat.reduceLeDiff, Nat.reduceLT, Nat.reduceAdd, Nat.reduceEqDiff, Nat.reduceMul, Nat.reduceSub, Value.category, Nat.zero_le, beq_self_eq_true]]
      · rw [q_lp_eq, show bX7_checkLaw_8 [some (Value.ref ((B + dx))), some (Value.int (nI (c)))] [] (ckQ I (B + dx) q, L, Z) = some (.inr (none, (ckQ I (B + dx) q1, L, Z))) by simp (disch := omega) only [bX7_checkLaw_8, kX7_checkLaw_93, dl_0 h hd, ck_6, e, s1, e_push, e_pushl, e_iload, e_lload, e_aload, e_istore, e_astore, e_lstore, e_iinc, e_iadd, e_isub, e_imul, e_iand, e_ior, e_ixor, e_ishl, e_ishr, e_iushr, e_idiv, e_irem, e_ladd, e_lsub, e_lmul, e_lcmp, e_mmax, e_mmin, e_i2l, e_l2i, e_i2b, e_i2c, e_dup, e_dup2, e_pop, e_icmp_eq, e_icmp_ne, e_icmp_lt, e_icmp_ge, e_icmp_gt, e_icmp_le, e_if_eq, e_if_ne, e_if_lt, e_if_ge, e_if_gt, e_if_le, e_getI, e_getR, e_putI, e_putZ, e_putR, e_iald, e_bald, e_zald, e_lald, e_aald, e_alen, e_iast, e_bast, e_zast, e_last, e_aast, e_iret, e_zret, e_lret, e_vret, e_obj, e_callV, e_callS, e_callT, e_acpy, e_ldcS, e_dn, e_ag, z_pop, List.getElem?_cons_zero, List.getElem?_cons_succ, List.set_cons_zero, List.set_cons_succ, List.length_cons, List.length_nil, z_nol, Option.map_some, Option.toList_some, Option.toList_none, List.cons_append, List.nil_append, n_lit, n_m1, n_m2, n_m1lt, n_m1le, n_rem, n_div, n_out, n_cl, n_eq, n_le, n_lt, n_add, n_mul, n_sub, n_nle, n_yle, n_nlt, n_ylt, n_neN, z_lay, z_sz, z_str, z_stI, z_stL, z_stR, eq_self, ↓reduceIte, true_and, and_true, and_self, false_and, and_false, or_self, false_or, or_false, true_or, or_true, not_true_eq_false, not_false_eq_true, Nat.reduceLeDiff, Nat.reduceLT, Nat.reduceAdd, Nat.reduceEqDiff, Nat.reduceMul, Nat.reduceSub, Value.category, Nat.zero_le, beq_self_eq_true]]
  intro n
  induction n with
  | zero =>
    intro c q hq hc
    obtain rfl : c = 4 := by omega
    by_cases e : q.1 = 0
    · by_cases g : K q.2 = 8
      · have kk := p_kindQ h hd hT hq
        rw [g] at kk
        have d1 := done 5 (2, q.2) ⟨by show 2 < 8; decide, hq.2⟩ (by decide) (fun z => absurd z (by show ¬ 2 = 0; decide))
        rw [thn_no (q := (2, q.2)) (by show 2 ≠ 0; decide)] at d1
        rw [thn_yes e, lw2, if_pos g, q_lp_eq, show bX7_checkLaw_8 [some (Value.ref ((B + dx))), some (Value.int (nI (4)))] [] (ckQ I (B + dx) q, L, Z) = some (.inl ([some (Value.ref ((B + dx))), some (Value.int (nI (5)))], (ckQ I (B + dx) (2, q.2), L, Z))) by simp (disch := omega) only [bX7_checkLaw_8, kX7_checkLaw_87, dl_0 h hd, dl_1 h hd, dr_0_0 h hd, ck_6, ck_8, ck_p6, e, kk, e_push, e_pushl, e_iload, e_lload, e_aload, e_istore, e_astore, e_lstore, e_iinc, e_iadd, e_isub, e_imul, e_iand, e_ior, e_ixor, e_ishl, e_ishr, e_iushr, e_idiv, e_irem, e_ladd, e_lsub, e_lmul, e_lcmp, e_mmax, e_mmin, e_i2l, e_l2i, e_i2b, e_i2c, e_dup, e_dup2, e_pop, e_icmp_eq, e_icmp_ne, e_icmp_lt, e_icmp_ge, e_icmp_gt, e_icmp_le, e_if_eq, e_if_ne, e_if_lt, e_if_ge, e_if_gt, e_if_le, e_getI, e_getR, e_putI, e_putZ, e_putR, e_iald, e_bald, e_zald, e_lald, e_aald, e_alen, e_iast, e_bast, e_zast, e_last, e_aast, e_iret, e_zret, e_lret, e_vret, e_obj, e_callV, e_callS, e_callT, e_acpy, e_ldcS, e_dn, e_ag, z_pop, List.getElem?_cons_zero, List.getElem?_cons_succ, List.set_cons_zero, List.set_cons_succ, List.length_cons, List.length_nil, z_nol, Option.map_some, Option.toList_some, Option.toList_none, List.cons_append, List.nil_append, n_lit, n_m1, n_m2, n_m1lt, n_m1le, n_rem, n_div, n_out, n_cl, n_eq, n_le, n_lt, n_add, n_mul, n_sub, n_nle, n_yle, n_nlt, n_ylt, n_neN, z_lay, z_sz, z_str, z_stI, z_stL, z_stR, eq_self, ↓reduceIte, true_and, and_true, and_self, false_and, and_false, or_self, false_or, or_false, true_or, or_true, not_true_eq_false, not_false_eq_true, Nat.reduceLeDiff, Nat.reduceLT, Nat.reduceAdd, Nat.reduceEqDiff, Nat.reduceMul, Nat.reduceSub, Value.category, Nat.zero_le, beq_self_eq_true]]
        exact d1
      · rw [done 4 q hq (by decide) (fun _ => ⟨by decide, g⟩), thn_yes e, thn_yes e, lw2, if_neg g]
    · rw [done 4 q hq (by decide) (fun z => absurd z e), thn_no e, thn_no e]
  | succ n ih =>
    intro c q hq hc
    by_cases e : q.1 = 0
    · by_cases g : K q.2 = 8
      · have kk := p_kindQ h hd hT hq
        rw [g] at kk
        have s1 := p_step1 (I := I) (L := L) h hd hq
        have b1 := bd_adv hq
        have s2 := hE _ b1
        have b2 := bd_e (K := K) b1
        have s3 := p_expect (k := 60) h hd hT b2 (by decide)
        have b3 := bd_must (K := K) (k := 60) b2
        have s4 := hE _ b3
        have b4 := bd_e (K := K) b3
        have s5 := p_expect (k := 9) h hd hT b4 (by decide)
        have b5 := bd_must (K := K) (k := 9) b4
        have s6 := hE _ b5
        have b6 := bd_e (K := K) b5
        have s7 := p_expect (k := 10) h hd hT b6 (by decide)
        have b7 := bd_must (K := K) (k := 10) b6
        have s8 := ih (c + 1) _ b7 (by omega)
        have e7 : thn q (lw2 K (n + 1)) = thn (thn (thn (thn (thn (thn (thn (thn q adv) (xe2 K)) (must2 K 60)) (xe2 K)) (must2 K 9)) (xe2 K)) (must2 K 10)) (lw2 K n) := by
          rw [thn_yes e, thn_yes e, lw2, if_pos g]
          congr 1
          unfold if2
          simp only [thn_assoc]
        rw [e7]
        generalize thn (thn (thn (thn (thn (thn (thn q adv) (xe2 K)) (must2 K 60)) (xe2 K)) (must2 K 9)) (xe2 K)) (must2 K 10) = q7 at s7 s8 ⊢
        generalize thn (thn (thn (thn (thn (thn q adv) (xe2 K)) (must2 K 60)) (xe2 K)) (must2 K 9)) (xe2 K) = q6 at s6 s7
        generalize thn (thn (thn (thn (thn q adv) (xe2 K)) (must2 K 60)) (xe2 K)) (must2 K 9) = q5 at s5 s6
        generalize thn (thn (thn (thn q adv) (xe2 K)) (must2 K 60)) (xe2 K) = q4 at s4 s5
        generalize thn (thn (thn q adv) (xe2 K)) (must2 K 60) = q3 at s3 s4
        generalize thn (thn q adv) (xe2 K) = q2 at s2 s3
        generalize thn q adv = q1 at s1 s2
        rw [← s8, q_lp_eq, show bX7_checkLaw_8 [some (Value.ref ((B + dx))), some (Value.int (nI (c)))] [] (ckQ I (B + dx) q, L, Z) = some (.inl ([some (Value.ref ((B + dx))), some (Value.int (nI (c + 1)))], (ckQ I (B + dx) q7, L, Z))) by simp (disch := omega) only [bX7_checkLaw_8, kX7_checkLaw_87, dl_0 h hd, dl_1 h hd, dr_0_0 h hd, ck_6, ck_8, e, kk, s1, s2, s3, s4, s5, s6, s7, e_push, e_pushl, e_iload, e_lload, e_aload, e_istore, e_astore, e_lstore, e_iinc, e_iadd, e_isub, e_imul, e_iand, e_ior, e_ixor, e_ishl, e_ishr, e_iushr, e_idiv, e_irem, e_ladd, e_lsub, e_lmul, e_lcmp, e_mmax, e_mmin, e_i2l, e_l2i, e_i2b, e_i2c, e_dup, e_dup2, e_pop, e_icmp_eq, e_icmp_ne, e_icmp_lt, e_icmp_ge, e_icmp_gt, e_icmp_le, e_if_eq, e_if_ne, e_if_lt, e_if_ge, e_if_gt, e_if_le, e_getI, e_getR, e_putI, e_putZ, e_putR, e_iald, e_bald, e_zald, e_lald, e_aald, e_alen, e_iast, e_bast, e_zast, e_last, e_aast, e_iret, e_zret, e_lret, e_vret, e_obj, e_callV, e_callS, e_callT, e_acpy, e_ldcS, e_dn, e_ag, z_pop, List.getElem?_cons_zero, List.getElem?_cons_succ, List.set_cons_zero, List.set_cons_succ, List.length_cons, List.length_nil, z_nol, Option.map_some, Option.toList_some, Option.toList_none, List.cons_append, List.nil_append, n_lit, n_m1, n_m2, n_m1lt, n_m1le, n_rem, n_div, n_out, n_cl, n_eq, n_le, n_lt, n_add, n_mul, n_sub, n_nle, n_yle, n_nlt, n_ylt, n_neN, z_lay, z_sz, z_str, z_stI, z_stL, z_stR, eq_self, ↓reduceIte, true_and, and_true, and_self, false_and, and_false, or_self, false_or, or_false, true_or, or_true, not_true_eq_false, not_false_eq_true, Nat.reduceLeDiff, Nat.reduceLT, Nat.reduceAdd, Nat.reduceEqDiff, Nat.reduceMul, Nat.reduceSub, Value.category, Nat.zero_le, beq_self_eq_true]]
      · rw [done c q hq (by omega) (fun _ => ⟨by omega, g⟩), thn_yes e, thn_yes e, lw2, if_neg g]
    · rw [done c q hq (by omega) (fun z => absurd z e), thn_no e, thn_no e]
theorem p_checkLaw {I : Nat → Nat → Int32} {L : Nat → Nat → Int64} {Z : zZ} {B tx dx sz : Nat} {K W : Nat → Nat} {q : Nat × Nat} (h : isCls Z B tx) (hd : dx + tx = 21) (hT : tokC I L B dx K W sz) (hq : bd q) : fX7_checkLaw [.ref (B + dx)] (ckQ I (B + dx) q, L, Z) = some (none, (ckQ I (B + dx) (thn q fun i => thn (must2 K 61 i) (lw2 K 4)), L, Z)) := by
  have s1 := p_expect (k := 61) h hd hT hq (by decide)
  have b1 := bd_must (K := K) (k := 61) hq
  have s2 := p_ckLaw_lp h hd hT 4 0 _ b1 rfl
  rw [← thn_assoc]
  generalize thn (thn q (must2 K 61)) (lw2 K 4) = q2 at s2 ⊢
  generalize thn q (must2 K 61) = q1 at s1 s2
  show kX7_checkLaw_0 [some (Value.ref ((B + dx))), none] [] _ = _
  simp (disch := omega) only [kX7_checkLaw_0, kX7_checkLaw_8, dl_0 h hd, s1, s2, e_push, e_pushl, e_iload, e_lload, e_aload, e_istore, e_astore, e_lstore, e_iinc, e_iadd, e_isub, e_imul, e_iand, e_ior, e_ixor, e_ishl, e_ishr, e_iushr, e_idiv, e_irem, e_ladd, e_lsub, e_lmul, e_lcmp, e_mmax, e_mmin, e_i2l, e_l2i, e_i2b, e_i2c, e_dup, e_dup2, e_pop, e_icmp_eq, e_icmp_ne, e_icmp_lt, e_icmp_ge, e_icmp_gt, e_icmp_le, e_if_eq, e_if_ne, e_if_lt, e_if_ge, e_if_gt, e_if_le, e_getI, e_getR, e_putI, e_putZ, e_putR, e_iald, e_bald, e_zald, e_lald, e_aald, e_alen, e_iast, e_bast, e_zast, e_last, e_aast, e_iret, e_zret, e_lret, e_vret, e_obj, e_callV, e_callS, e_callT, e_acpy, e_ldcS, e_dn, e_ag, z_pop, List.getElem?_cons_zero, List.getElem?_cons_succ, List.set_cons_zero, List.set_cons_succ, List.length_cons, List.length_nil, z_nol, Option.map_some, Option.toList_some, Option.toList_none, List.cons_append, List.nil_append, n_lit, n_m1, n_m2, n_m1lt, n_m1le, n_rem, n_div, n_out, n_cl, n_eq, n_le, n_lt, n_add, n_mul, n_sub, n_nle, n_yle, n_nlt, n_ylt, n_neN, z_lay, z_sz, z_str, z_stI, z_stL, z_stR, eq_self, ↓reduceIte, true_and, and_true, and_self, false_and, and_false, or_self, false_or, or_false, true_or, or_true, not_true_eq_false, not_false_eq_true, Nat.reduceLeDiff, Nat.reduceLT, Nat.reduceAdd, Nat.reduceEqDiff, Nat.reduceMul, Nat.reduceSub, Value.category, Nat.zero_le, beq_self_eq_true]
