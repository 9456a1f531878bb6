/-! read: the reference's bytes and tokens -/
def rk (k : Nat) : Nat := if k < 20 then 20 + k else if k = 20 then 1 else if k = 21 then 2 else if k = 22 then 0 else if k = 59 then 4 else if k = 61 then 5 else if k = 40 then 6 else if k = 41 then 7 else if k = 43 then 8 else if k = 45 then 9 else if k = 42 then 10 else if k = 60 then 13 else if k = 47 then 15 else 3
theorem rk_inj : ∀ k, k < 64 → ∀ j, j < 64 → rk j ≠ 3 → (rk k = rk j ↔ k = j) := by decide +kernel
theorem rk_lt : ∀ k, k < 64 → rk k < 40 := by decide +kernel
def tpR (I : Nat → Nat → Int32) (M : Nat) (T : Nat → Nat) (n : Nat) : Prop := n ≤ 2000 ∧ I M 4 = nI n ∧ ∀ i, i < n → I (M + 2) i &&& nI 255 = nI (T i) ∧ T i < 256
def byR (T : Nat → Nat) (n i : Nat) : Nat := if i < n then T i else 0
theorem r_byteAt {I : Nat → Nat → Int32} {L : Nat → Nat → Int64} {Z : zZ} {M n : Nat} {T : Nat → Nat} (h : isMod Z M) (hT : tpR I M T n) (i : Nat) (hi : i ≤ 3000) : fX12_byteAt [.ref M, .int (nI i)] (I, L, Z) = some (some (.int (nI (byR T n i))), (I, L, Z)) := by
  obtain ⟨t1, t2, t3⟩ := hT
  show kX12_byteAt_0 [some (Value.ref (M)), some (Value.int (nI (i)))] [] (I, L, Z) = _
  unfold byR
  by_cases g : i < n
  · rw [if_pos g]
    simp (disch := omega) only [kX12_byteAt_22, kX12_byteAt_0, h.1, mr_text h, ml_text h, t2, (t3 i g).1, e_push, e_pushl, e_iload, e_lload, e_aload, e_istore, e_astore, e_lstore, e_iinc, e_iadd, e_isub, e_imul, e_iand, e_ior, e_ixor, e_ishl, e_ishr, e_iushr, e_idiv, e_irem, e_ladd, e_lsub, e_lmul, e_lcmp, e_mmax, e_mmin, e_i2l, e_l2i, e_i2b, e_i2c, e_dup, e_dup2, e_pop, e_icmp_eq, e_icmp_ne, e_icmp_lt, e_icmp_ge, e_icmp_gt, e_icmp_le, e_if_eq, e_if_ne, e_if_lt, e_if_ge, e_if_gt, e_if_le, e_getI, e_getR, e_putI, e_putZ, e_putR, e_iald, e_bald, e_zald, e_lald, e_aald, e_alen, e_iast, e_bast, e_zast, e_last, e_aast, e_iret, e_zret, e_lret, e_vret, e_obj, e_callV, e_callS, e_callT, e_acpy, e_ldcS, e_dn, e_ag, z_pop, List.getElem?_cons_zero, List.getElem?_cons_succ, List.set_cons_zero, List.set_cons_succ, List.length_cons, List.length_nil, z_nol, Option.map_some, Option.toList_some, Option.toList_none, List.cons_append, List.nil_append, n_lit, n_m1, n_m2, n_m1lt, n_m1le, n_rem, n_div, n_out, n_cl, n_eq, n_le, n_lt, n_add, n_mul, n_sub, n_nle, n_yle, n_nlt, n_ylt, n_neN, z_lay, z_sz, z_str, z_stI, z_stL, z_stR, eq_self, ↓reduceIte, true_and, and_true, and_self, false_and, and_false, or_self, false_or, or_false, true_or, or_true, not_true_eq_false, not_false_eq_true, Nat.reduceLeDiff, Nat.reduceLT, Nat.reduceAdd, Nat.reduceEqDiff, Nat.reduceMul, Nat.reduceSub, Value.category, Nat.zero_le, beq_self_eq_true]
  · rw [if_neg g]
    simp (disch := omega) only [kX12_byteAt_22, kX12_byteAt_0, h.1, mr_text h, ml_text h, t2, e_push, e_pushl, e_iload, e_lload, e_aload, e_istore, e_astore, e_lstore, e_iinc, e_iadd, e_isub, e_imul, e_iand, e_ior, e_ixor, e_ishl, e_ishr, e_iushr, e_idiv, e_irem, e_ladd, e_lsub, e_lmul, e_lcmp, e_mmax, e_mmin, e_i2l, e_l2i, e_i2b, e_i2c, e_dup, e_dup2, e_pop, e_icmp_eq, e_icmp_ne, e_icmp_lt, e_icmp_ge, e_icmp_gt, e_icmp_le, e_if_eq, e_if_ne, e_if_lt, e_if_ge, e_if_gt, e_if_le, e_getI, e_getR, e_putI, e_putZ, e_putR, e_iald, e_bald, e_zald, e_lald, e_aald, e_alen, e_iast, e_bast, e_zast, e_last, e_aast, e_iret, e_zret, e_lret, e_vret, e_obj, e_callV, e_callS, e_callT, e_acpy, e_ldcS, e_dn, e_ag, z_pop, List.getElem?_cons_zero, List.getElem?_cons_succ, List.set_cons_zero, List.set_cons_succ, List.length_cons, List.length_nil, z_nol, Option.map_some, Option.toList_some, Option.toList_none, List.cons_append, List.nil_append, n_lit, n_m1, n_m2, n_m1lt, n_m1le, n_rem, n_div, n_out, n_cl, n_eq, n_le, n_lt, n_add, n_mul, n_sub, n_nle, n_yle, n_nlt, n_ylt, n_neN, z_lay, z_sz, z_str, z_stI, z_stL, z_stR, eq_self, ↓reduceIte, true_and, and_true, and_self, false_and, and_false, or_self, false_or, or_false, true_or, or_true, not_true_eq_false, not_false_eq_true, Nat.reduceLeDiff, Nat.reduceLT, Nat.reduceAdd, Nat.reduceEqDiff, Nat.reduceMul, Nat.reduceSub, Value.category, Nat.zero_le, beq_self_eq_true]
theorem byR_lt {I : Nat → Nat → Int32} {M n : Nat} {T : Nat → Nat} (hT : tpR I M T n) (i : Nat) : byR T n i < 256 := by
  unfold byR
  by_cases g : i < n
  · rw [if_pos g]; exact (hT.2.2 i g).2
  · rw [if_neg g]; decide
theorem r_isLetter {I : Nat → Nat → Int32} {L : Nat → Nat → Int64} {Z : zZ} {c : Nat} (hc : c < 256) : fX12_isLetter [.int (nI c)] (I, L, Z) = some (some (.int (nI (if isLe c then 1 else 0))), (I, L, Z)) := by
  show kX12_isLetter_0 [some (Value.int (nI (c)))] [] (I, L, Z) = _
  unfold isLe
  by_cases g1 : c < 97
  · simp (disch := omega) only [kX12_isLetter_17, kX12_isLetter_16, kX12_isLetter_0, e_push, e_pushl, e_iload, e_lload, e_aload, e_istore, e_astore, e_lstore, e_iinc, e_iadd, e_isub, e_imul, e_iand, e_ior, e_ixor, e_ishl, e_ishr, e_iushr, e_idiv, e_irem, e_ladd, e_lsub, e_lmul, e_lcmp, e_mmax, e_mmin, e_i2l, e_l2i, e_i2b, e_i2c, e_dup, e_dup2, e_pop, e_icmp_eq, e_icmp_ne, e_icmp_lt, e_icmp_ge, e_icmp_gt, e_icmp_le, e_if_eq, e_if_ne, e_if_lt, e_if_ge, e_if_gt, e_if_le, e_getI, e_getR, e_putI, e_putZ, e_putR, e_iald, e_bald, e_zald, e_lald, e_aald, e_alen, e_iast, e_bast, e_zast, e_last, e_aast, e_iret, e_zret, e_lret, e_vret, e_obj, e_callV, e_callS, e_callT, e_acpy, e_ldcS, e_dn, e_ag, z_pop, List.getElem?_cons_zero, List.getElem?_cons_succ, List.set_cons_zero, List.set_cons_succ, List.length_cons, List.length_nil, z_nol, Option.map_some, Option.toList_some, Option.toList_none, List.cons_append, List.nil_append, n_lit, n_m1, n_m2, n_m1lt, n_m1le, n_rem, n_div, n_out, n_cl, n_eq, n_le, n_lt, n_add, n_mul, n_sub, n_nle, n_yle, n_nlt, n_ylt, n_neN, z_lay, z_sz, z_str, z_stI, z_stL, z_stR, eq_self, ↓reduceIte, true_and, and_true, and_self, false_and, and_false, or_self, false_or, or_false, true_or, or_true, not_true_eq_false, not_false_eq_true, Nat.reduceLeDiff, Nat.reduceLT, Nat.reduceAdd, Nat.reduceEqDiff, Nat.reduceMul, Nat.reduceSub, Value.category, Nat.zero_le, beq_self_eq_true]
  by_cases g2 : 122 < c
  · simp (disch := omega) only [kX12_isLetter_17, kX12_isLetter_16, kX12_isLetter_0, e_push, e_pushl, e_iload, e_lload, e_aload, e_istore, e_astore, e_lstore, e_iinc, e_iadd, e_isub, e_imul, e_iand, e_ior, e_ixor, e_ishl, e_ishr, e_iushr, e_idiv, e_irem, e_ladd, e_lsub, e_lmul, e_lcmp, e_mmax, e_mmin, e_i2l, e_l2i, e_i2b, e_i2c, e_dup, e_dup2, e_pop, e_icmp_eq, e_icmp_ne, e_icmp_lt, e_icmp_ge, e_icmp_gt, e_icmp_le, e_if_eq, e_if_ne, e_if_lt, e_if_ge, e_if_gt, e_if_le, e_getI, e_getR, e_putI, e_putZ, e_putR, e_iald, e_bald, e_zald, e_lald, e_aald, e_alen, e_iast, e_bast, e_zast, e_last, e_aast, e_iret, e_zret, e_lret, e_vret, e_obj, e_callV, e_callS, e_callT, e_acpy, e_ldcS, e_dn, e_ag, z_pop, List.getElem?_cons_zero, List.getElem?_cons_succ, List.set_cons_zero, List.set_cons_succ, List.length_cons, List.length_nil, z_nol, Option.map_some, Option.toList_some, Option.toList_none, List.cons_append, List.nil_append, n_lit, n_m1, n_m2, n_m1lt, n_m1le, n_rem, n_div, n_out, n_cl, n_eq, n_le, n_lt, n_add, n_mul, n_sub, n_nle, n_yle, n_nlt, n_ylt, n_neN, z_lay, z_sz, z_str, z_stI, z_stL, z_stR, eq_self, ↓reduceIte, true_and, and_true, and_self, false_and, and_false, or_self, false_or, or_false, true_or, or_true, not_true_eq_false, not_false_eq_true, Nat.reduceLeDiff, Nat.reduceLT, Nat.reduceAdd, Nat.reduceEqDiff, Nat.reduceMul, Nat.reduceSub, Value.category, Nat.zero_le, beq_self_eq_true]
  simp (disch := omega) only [kX12_isLetter_17, kX12_isLetter_16, kX12_isLetter_0, e_push, e_pushl, e_iload, e_lload, e_aload, e_istore, e_astore, e_lstore, e_iinc, e_iadd, e_isub, e_imul, e_iand, e_ior, e_ixor, e_ishl, e_ishr, e_iushr, e_idiv, e_irem, e_ladd, e_lsub, e_lmul, e_lcmp, e_mmax, e_mmin, e_i2l, e_l2i, e_i2b, e_i2c, e_dup, e_dup2, e_pop, e_icmp_eq, e_icmp_ne, e_icmp_lt, e_icmp_ge, e_icmp_gt, e_icmp_le, e_if_eq, e_if_ne, e_if_lt, e_if_ge, e_if_gt, e_if_le, e_getI, e_getR, e_putI, e_putZ, e_putR, e_iald, e_bald, e_zald, e_lald, e_aald, e_alen, e_iast, e_bast, e_zast, e_last, e_aast, e_iret, e_zret, e_lret, e_vret, e_obj, e_callV, e_callS, e_callT, e_acpy, e_ldcS, e_dn, e_ag, z_pop, List.getElem?_cons_zero, List.getElem?_cons_succ, List.set_cons_zero, List.set_cons_succ, List.length_cons, List.length_nil, z_nol, Option.map_some, Option.toList_some, Option.toList_none, List.cons_append, List.nil_append, n_lit, n_m1, n_m2, n_m1lt, n_m1le, n_rem, n_div, n_out, n_cl, n_eq, n_le, n_lt, n_add, n_mul, n_sub, n_nle, n_yle, n_nlt, n_ylt, n_neN, z_lay, z_sz, z_str, z_stI, z_stL, z_stR, eq_self, ↓reduceIte, true_and, and_true, and_self, false_and, and_false, or_self, false_or, or_false, true_or, or_true, not_true_eq_false, not_false_eq_true, Nat.reduceLeDiff, Nat.reduceLT, Nat.reduceAdd, Nat.reduceEqDiff, Nat.reduceMul, Nat.reduceSub, Value.category, Nat.zero_le, beq_self_eq_true]
theorem r_isDigit {I : Nat → Nat → Int32} {L : Nat → Nat → Int64} {Z : zZ} {c : Nat} (hc : c < 256) : fX12_isDigit [.int (nI c)] (I, L, Z) = some (some (.int (nI (if isDi c then 1 else 0))), (I, L, Z)) := by
  show kX12_isDigit_0 [some (Value.int (nI (c)))] [] (I, L, Z) = _
  unfold isDi
  by_cases g1 : c < 48
  · simp (disch := omega) only [kX12_isDigit_17, kX12_isDigit_16, kX12_isDigit_0, e_push, e_pushl, e_iload, e_lload, e_aload, e_istore, e_astore, e_lstore, e_iinc, e_iadd, e_isub, e_imul, e_iand, e_ior, e_ixor, e_ishl, e_ishr, e_iushr, e_idiv, e_irem, e_ladd, e_lsub, e_lmul, e_lcmp, e_mmax, e_mmin, e_i2l, e_l2i, e_i2b, e_i2c, e_dup, e_dup2, e_pop, e_icmp_eq, e_icmp_ne, e_icmp_lt, e_icmp_ge, e_icmp_gt, e_icmp_le, e_if_eq, e_if_ne, e_if_lt, e_if_ge, e_if_gt, e_if_le, e_getI, e_getR, e_putI, e_putZ, e_putR, e_iald, e_bald, e_zald, e_lald, e_aald, e_alen, e_iast, e_bast, e_zast, e_last, e_aast, e_iret, e_zret, e_lret, e_vret, e_obj, e_callV, e_callS, e_callT, e_acpy, e_ldcS, e_dn, e_ag, z_pop, List.getElem?_cons_zero, List.getElem?_cons_succ, List.set_cons_zero, List.set_cons_succ, List.length_cons, List.length_nil, z_nol, Option.map_some, Option.toList_some, Option.toList_none, List.cons_append, List.nil_append, n_lit, n_m1, n_m2, n_m1lt, n_m1le, n_rem, n_div, n_out, n_cl, n_eq, n_le, n_lt, n_add, n_mul, n_sub, n_nle, n_yle, n_nlt, n_ylt, n_neN, z_lay, z_sz, z_str, z_stI, z_stL, z_stR, eq_self, ↓reduceIte, true_and, and_true, and_self, false_and, and_false, or_self, false_or, or_false, true_or, or_true, not_true_eq_false, not_false_eq_true, Nat.reduceLeDiff, Nat.reduceLT, Nat.reduceAdd, Nat.reduceEqDiff, Nat.reduceMul, Nat.reduceSub, Value.category, Nat.zero_le, beq_self_eq_true]
  by_cases g2 : 57 < c
  · simp (disch := omega) only [kX12_isDigit_17, kX12_isDigit_16, kX12_isDigit_0, e_push, e_pushl, e_iload, e_lload, e_aload, e_istore, e_astore, e_lstore, e_iinc, e_iadd, e_isub, e_imul, e_iand, e_ior, e_ixor, e_ishl, e_ishr, e_iushr, e_idiv, e_irem, e_ladd, e_lsub, e_lmul, e_lcmp, e_mmax, e_mmin, e_i2l, e_l2i, e_i2b, e_i2c, e_dup, e_dup2, e_pop, e_icmp_eq, e_icmp_ne, e_icmp_lt, e_icmp_ge, e_icmp_gt, e_icmp_le, e_if_eq, e_if_ne, e_if_lt, e_if_ge, e_if_gt, e_if_le, e_getI, e_getR, e_putI, e_putZ, e_putR, e_iald, e_bald, e_zald, e_lald, e_aald, e_alen, e_iast, e_bast, e_zast, e_last, e_aast, e_iret, e_zret, e_lret, e_vret, e_obj, e_callV, e_callS, e_callT, e_acpy, e_ldcS, e_dn, e_ag, z_pop, List.getElem?_cons_zero, List.getElem?_cons_succ, List.set_cons_zero, List.set_cons_succ, List.length_cons, List.length_nil, z_nol, Option.map_some, Option.toList_some, Option.toList_none, List.cons_append, List.nil_append, n_lit, n_m1, n_m2, n_m1lt, n_m1le, n_rem, n_div, n_out, n_cl, n_eq, n_le, n_lt, n_add, n_mul, n_sub, n_nle, n_yle, n_nlt, n_ylt, n_neN, z_lay, z_sz, z_str, z_stI, z_stL, z_stR, eq_self, ↓reduceIte, true_and, and_true, and_self, false_and, and_false, or_self, false_or, or_false, true_or, or_true, not_true_eq_false, not_false_eq_true, Nat.reduceLeDiff, Nat.reduceLT, Nat.reduceAdd, Nat.reduceEqDiff, Nat.reduceMul, Nat.reduceSub, Value.category, Nat.zero_le, beq_self_eq_true]
  simp (disch := omega) only [kX12_isDigit_17, kX12_isDigit_16, kX12_isDigit_0, e_push, e_pushl, e_iload, e_lload, e_aload, e_istore, e_astore, e_lstore, e_iinc, e_iadd, e_isub, e_imul, e_iand, e_ior, e_ixor, e_ishl, e_ishr, e_iushr, e_idiv, e_irem, e_ladd, e_lsub, e_lmul, e_lcmp, e_mmax, e_mmin, e_i2l, e_l2i, e_i2b, e_i2c, e_dup, e_dup2, e_pop, e_icmp_eq, e_icmp_ne, e_icmp_lt, e_icmp_ge, e_icmp_gt, e_icmp_le, e_if_eq, e_if_ne, e_if_lt, e_if_ge, e_if_gt, e_if_le, e_getI, e_getR, e_putI, e_putZ, e_putR, e_iald, e_bald, e_zald, e_lald, e_aald, e_alen, e_iast, e_bast, e_zast, e_last, e_aast, e_iret, e_zret, e_lret, e_vret, e_obj, e_callV, e_callS, e_callT, e_acpy, e_ldcS, e_dn, e_ag, z_pop, List.getElem?_cons_zero, List.getElem?_cons_succ, List.set_cons_zero, List.set_cons_succ, List.length_cons, List.length_nil, z_nol, Option.map_some, Option.toList_some, Option.toList_none, List.cons_append, List.nil_append, n_lit, n_m1, n_m2, n_m1lt, n_m1le, n_rem, n_div, n_out, n_cl, n_eq, n_le, n_lt, n_add, n_mul, n_sub, n_nle, n_yle, n_nlt, n_ylt, n_neN, z_lay, z_sz, z_str, z_stI, z_stL, z_stR, eq_self, ↓reduceIte, true_and, and_true, and_self, false_and, and_false, or_self, false_or, or_false, true_or, or_true, not_true_eq_false, not_false_eq_true, Nat.reduceLeDiff, Nat.reduceLT, Nat.reduceAdd, Nat.reduceEqDiff, Nat.reduceMul, Nat.reduceSub, Value.category, Nat.zero_le, beq_self_eq_true]
theorem r_appends {I : Nat → Nat → Int32} {L : Nat → Nat → Int64} {Z : zZ} {c x : Nat} (h1 : 97 ≤ c) (h2 : c < 256) : fX12_appends [.long (Int64.ofNat x), .int (nI c)] (I, L, Z) = some (some (.long (Int64.ofNat (x * 27 + (c - 96)))), (I, L, Z)) := by
  have e : (nI (c - 97 + 1)).toInt64 = Int64.ofNat (c - 96) := by rw [i2l_n _ (by omega), show c - 97 + 1 = c - 96 by omega]
  have e2 : (27 : Int64) * Int64.ofNat x + Int64.ofNat (c - 96) = Int64.ofNat (x * 27 + (c - 96)) := by
    rw [Int64.ofNat_add, Int64.ofNat_mul, Int64.mul_comm]
    rfl
  show kX12_appends_0 [some (Value.long (Int64.ofNat x)), none, some (Value.int (nI (c)))] [] (I, L, Z) = _
  simp (disch := omega) only [kX12_appends_21, kX12_appends_0, e, e2, e_push, e_pushl, e_iload, e_lload, e_aload, e_istore, e_astore, e_lstore, e_iinc, e_iadd, e_isub, e_imul, e_iand, e_ior, e_ixor, e_ishl, e_ishr, e_iushr, e_idiv, e_irem, e_ladd, e_lsub, e_lmul, e_lcmp, e_mmax, e_mmin, e_i2l, e_l2i, e_i2b, e_i2c, e_dup, e_dup2, e_pop, e_icmp_eq, e_icmp_ne, e_icmp_lt, e_icmp_ge, e_icmp_gt, e_icmp_le, e_if_eq, e_if_ne, e_if_lt, e_if_ge, e_if_gt, e_if_le, e_getI, e_getR, e_putI, e_putZ, e_putR, e_iald, e_bald, e_zald, e_lald, e_aald, e_alen, e_iast, e_bast, e_zast, e_last, e_aast, e_iret, e_zret, e_lret, e_vret, e_obj, e_callV, e_callS, e_callT, e_acpy, e_ldcS, e_dn, e_ag, z_pop, List.getElem?_cons_zero, List.getElem?_cons_succ, List.set_cons_zero, List.set_cons_succ, List.length_cons, List.length_nil, z_nol, Option.map_some, Option.toList_some, Option.toList_none, List.cons_append, List.nil_append, n_lit, n_m1, n_m2, n_m1lt, n_m1le, n_rem, n_div, n_out, n_cl, n_eq, n_le, n_lt, n_add, n_mul, n_sub, n_nle, n_yle, n_nlt, n_ylt, n_neN, z_lay, z_sz, z_str, z_stI, z_stL, z_stR, eq_self, ↓reduceIte, true_and, and_true, and_self, false_and, and_false, or_self, false_or, or_false, true_or, or_true, not_true_eq_false, not_false_eq_true, Nat.reduceLeDiff, Nat.reduceLT, Nat.reduceAdd, Nat.reduceEqDiff, Nat.reduceMul, Nat.reduceSub, Value.category, Nat.zero_le, beq_self_eq_true]
theorem r_token {I : Nat → Nat → Int32} {L : Nat → Nat → Int64} {Z : zZ} {M k : Nat} {kd pl vl : Int32} {nm : Int64} (h : isMod Z M) (h10 : I M 10 = nI k) (hk : k < 403) : fX12_token [.ref M, .int kd, .int pl, .int vl, .long nm] (I, L, Z) = some (none, (z_up (z_up (z_up (z_up I (M + 3) k kd) (M + 4) k pl) (M + 5) k vl) M 10 (nI (k + 1)), z_up L (M + 6) k nm, Z)) := by
  have e1 : z_up I (M + 3) k kd M 10 = nI k := by rw [zup_off (by omega)]; exact h10
  have e2 : z_up (z_up I (M + 3) k kd) (M + 4) k pl M 10 = nI k := by rw [zup_off (by omega)]; exact e1
  have e3 : z_up (z_up (z_up I (M + 3) k kd) (M + 4) k pl) (M + 5) k vl M 10 = nI k := by rw [zup_off (by omega)]; exact e2
  show kX12_token_0 [some (Value.ref (M)), some (Value.int (kd)), some (Value.int (pl)), some (Value.int (vl)), some (Value.long (nm)), none] [] (I, L, Z) = _
  simp (disch := omega) only [kX12_token_0, h.1, mr_tKind h, ml_tKind h, mr_tPlace h, ml_tPlace h, mr_tValue h, ml_tValue h, mr_tName h, ml_tName h, h10, e1, e2, e3, e_push, e_pushl, e_iload, e_lload, e_aload, e_istore, e_astore, e_lstore, e_iinc, e_iadd, e_isub, e_imul, e_iand, e_ior, e_ixor, e_ishl, e_ishr, e_iushr, e_idiv, e_irem, e_ladd, e_lsub, e_lmul, e_lcmp, e_mmax, e_mmin, e_i2l, e_l2i, e_i2b, e_i2c, e_dup, e_dup2, e_pop, e_icmp_eq, e_icmp_ne, e_icmp_lt, e_icmp_ge, e_icmp_gt, e_icmp_le, e_if_eq, e_if_ne, e_if_lt, e_if_ge, e_if_gt, e_if_le, e_getI, e_getR, e_putI, e_putZ, e_putR, e_iald, e_bald, e_zald, e_lald, e_aald, e_alen, e_iast, e_bast, e_zast, e_last, e_aast, e_iret, e_zret, e_lret, e_vret, e_obj, e_callV, e_callS, e_callT, e_acpy, e_ldcS, e_dn, e_ag, z_pop, List.getElem?_cons_zero, List.getElem?_cons_succ, List.set_cons_zero, List.set_cons_succ, List.length_cons, List.length_nil, z_nol, Option.map_some, Option.toList_some, Option.toList_none, List.cons_append, List.nil_append, n_lit, n_m1, n_m2, n_m1lt, n_m1le, n_rem, n_div, n_out, n_cl, n_eq, n_le, n_lt, n_add, n_mul, n_sub, n_nle, n_yle, n_nlt, n_ylt, n_neN, z_lay, z_sz, z_str, z_stI, z_stL, z_stR, eq_self, ↓reduceIte, true_and, and_true, and_self, false_and, and_false, or_self, false_or, or_false, true_or, or_true, not_true_eq_false, not_false_eq_true, Nat.reduceLeDiff, Nat.reduceLT, Nat.reduceAdd, Nat.reduceEqDiff, Nat.reduceMul, Nat.reduceSub, Value.category, Nat.zero_le, beq_self_eq_true]
/-- a sign's kind -/
def sgR (c : Nat) : Nat := if isSg c then rk c else 3
theorem r_sgn_59 {I : Nat → Nat → Int32} {L : Nat → Nat → Int64} {Z : zZ} {M k p c d : Nat} (h : isMod Z M) (h10 : I M 10 = nI k) (hk : k < 403) (hc : c = 59) : fX12_sign [.ref M, .int (nI p), .int (nI c), .int (nI d)] (I, L, Z) = some (some (.int (nI 1)), (z_up (z_up (z_up (z_up I (M + 3) k (nI 4)) (M + 4) k (nI p)) (M + 5) k (nI 0)) M 10 (nI (k + 1)), z_up L (M + 6) k 0, Z)) := by
  have t : ∀ kd : Int32, fX12_token [.ref M, .int kd, .int (nI p), .int (nI 0), .long 0] (I, L, Z) = some (none, (z_up (z_up (z_up (z_up I (M + 3) k kd) (M + 4) k (nI p)) (M + 5) k (nI 0)) M 10 (nI (k + 1)), z_up L (M + 6) k 0, Z)) := fun kd => r_token h h10 hk
  have g0 : (c = 59) = True := eq_true hc
  have g1 : (c = 61) = False := eq_false (by omega)
  have g2 : (c = 40) = False := eq_false (by omega)
  have g3 : (c = 41) = False := eq_false (by omega)
  have g4 : (c = 43) = False := eq_false (by omega)
  have g5 : (c = 45) = False := eq_false (by omega)
  have g6 : (c = 42) = False := eq_false (by omega)
  have g7 : (c = 47) = False := eq_false (by omega)
  have g8 : (c = 60) = False := eq_false (by omega)
  show kX12_sign_0 [some (Value.ref (M)), some (Value.int (nI (p))), some (Value.int (nI (c))), some (Value.int (nI (d))), none] [] (I, L, Z) = _
  simp (disch := omega) only [kX12_sign_95, kX12_sign_85, kX12_sign_75, kX12_sign_65, kX12_sign_55, kX12_sign_43, kX12_sign_0, h.1, t, g0, g1, g2, g3, g4, g5, g6, g7, g8, e_push, e_pushl, e_iload, e_lload, e_aload, e_istore, e_astore, e_lstore, e_iinc, e_iadd, e_isub, e_imul, e_iand, e_ior, e_ixor, e_ishl, e_ishr, e_iushr, e_idiv, e_irem, e_ladd, e_lsub, e_lmul, e_lcmp, e_mmax, e_mmin, e_i2l, e_l2i, e_i2b, e_i2c, e_dup, e_dup2, e_pop, e_icmp_eq, e_icmp_ne, e_icmp_lt, e_icmp_ge, e_icmp_gt, e_icmp_le, e_if_eq, e_if_ne, e_if_lt, e_if_ge, e_if_gt, e_if_le, e_getI, e_getR, e_putI, e_putZ, e_putR, e_iald, e_bald, e_zald, e_lald, e_aald, e_alen, e_iast, e_bast, e_zast, e_last, e_aast, e_iret, e_zret, e_lret, e_vret, e_obj, e_callV, e_callS, e_callT, e_acpy, e_ldcS, e_dn, e_ag, z_pop, List.getElem?_cons_zero, List.getElem?_cons_succ, List.set_cons_zero, List.set_cons_succ, List.length_cons, List.length_nil, z_nol, Option.map_some, Option.toList_some, Option.toList_none, List.cons_append, List.nil_append, n_lit, n_m1, n_m2, n_m1lt, n_m1le, n_rem, n_div, n_out, n_cl, n_eq, n_le, n_lt, n_add, n_mul, n_sub, n_nle, n_yle, n_nlt, n_ylt, n_neN, z_lay, z_sz, z_str, z_stI, z_stL, z_stR, eq_self, ↓reduceIte, true_and, and_true, and_self, false_and, and_false, or_self, false_or, or_false, true_or, or_true, not_true_eq_false, not_false_eq_true, Nat.reduceLeDiff, Nat.reduceLT, Nat.reduceAdd, Nat.reduceEqDiff, Nat.reduceMul, Nat.reduceSub, Value.category, Nat.zero_le, beq_self_eq_true]
theorem r_sgn_61 {I : Nat → Nat → Int32} {L : Nat → Nat → Int64} {Z : zZ} {M k p c d : Nat} (h : isMod Z M) (h10 : I M 10 = nI k) (hk : k < 403) (hc : c = 61) : fX12_sign [.ref M, .int (nI p), .int (nI c), .int (nI d)] (I, L, Z) = some (some (.int (nI 1)), (z_up (z_up (z_up (z_up I (M + 3) k (nI 5)) (M + 4) k (nI p)) (M + 5) k (nI 0)) M 10 (nI (k + 1)), z_up L (M + 6) k 0, Z)) := by
  have t : ∀ kd : Int32, fX12_token [.ref M, .int kd, .int (nI p), .int (nI 0), .long 0] (I, L, Z) = some (none, (z_up (z_up (z_up (z_up I (M + 3) k kd) (M + 4) k (nI p)) (M + 5) k (nI 0)) M 10 (nI (k + 1)), z_up L (M + 6) k 0, Z)) := fun kd => r_token h h10 hk
  have g0 : (c = 59) = False := eq_false (by omega)
  have g1 : (c = 61) = True := eq_true hc
  have g2 : (c = 40) = False := eq_false (by omega)
  have g3 : (c = 41) = False := eq_false (by omega)
  have g4 : (c = 43) = False := eq_false (by omega)
  have g5 : (c = 45) = False := eq_false (by omega)
  have g6 : (c = 42) = False := eq_false (by omega)
  have g7 : (c = 47) = False := eq_false (by omega)
  have g8 : (c = 60) = False := eq_false (by omega)
  show kX12_sign_0 [some (Value.ref (M)), some (Value.int (nI (p))), some (Value.int (nI (c))), some (Value.int (nI (d))), none] [] (I, L, Z) = _
  simp (disch := omega) only [kX12_sign_95, kX12_sign_85, kX12_sign_75, kX12_sign_65, kX12_sign_55, kX12_sign_43, kX12_sign_0, h.1, t, g0, g1, g2, g3, g4, g5, g6, g7, g8, e_push, e_pushl, e_iload, e_lload, e_aload, e_istore, e_astore, e_lstore, e_iinc, e_iadd, e_isub, e_imul, e_iand, e_ior, e_ixor, e_ishl, e_ishr, e_iushr, e_idiv, e_irem, e_ladd, e_lsub, e_lmul, e_lcmp, e_mmax, e_mmin, e_i2l, e_l2i, e_i2b, e_i2c, e_dup, e_dup2, e_pop, e_icmp_eq, e_icmp_ne, e_icmp_lt, e_icmp_ge, e_icmp_gt, e_icmp_le, e_if_eq, e_if_ne, e_if_lt, e_if_ge, e_if_gt, e_if_le, e_getI, e_getR, e_putI, e_putZ, e_putR, e_iald, e_bald, e_zald, e_lald, e_aald, e_alen, e_iast, e_bast, e_zast, e_last, e_aast, e_iret, e_zret, e_lret, e_vret, e_obj, e_callV, e_callS, e_callT, e_acpy, e_ldcS, e_dn, e_ag, z_pop, List.getElem?_cons_zero, List.getElem?_cons_succ, List.set_cons_zero, List.set_cons_succ, List.length_cons, List.length_nil, z_nol, Option.map_some, Option.toList_some, Option.toList_none, List.cons_append, List.nil_append, n_lit, n_m1, n_m2, n_m1lt, n_m1le, n_rem, n_div, n_out, n_cl, n_eq, n_le, n_lt, n_add, n_mul, n_sub, n_nle, n_yle, n_nlt, n_ylt, n_neN, z_lay, z_sz, z_str, z_stI, z_stL, z_stR, eq_self, ↓reduceIte, true_and, and_true, and_self, false_and, and_false, or_self, false_or, or_false, true_or, or_true, not_true_eq_false, not_false_eq_true, Nat.reduceLeDiff, Nat.reduceLT, Nat.reduceAdd, Nat.reduceEqDiff, Nat.reduceMul, Nat.reduceSub, Value.category, Nat.zero_le, beq_self_eq_true]
theorem r_sgn_40 {I : Nat → Nat → Int32} {L : Nat → Nat → Int64} {Z : zZ} {M k p c d : Nat} (h : isMod Z M) (h10 : I M 10 = nI k) (hk : k < 403) (hc : c = 40) : fX12_sign [.ref M, .int (nI p), .int (nI c), .int (nI d)] (I, L, Z) = some (some (.int (nI 1)), (z_up (z_up (z_up (z_up I (M + 3) k (nI 6)) (M + 4) k (nI p)) (M + 5) k (nI 0)) M 10 (nI (k + 1)), z_up L (M + 6) k 0, Z)) := by
  have t : ∀ kd : Int32, fX12_token [.ref M, .int kd, .int (nI p), .int (nI 0), .long 0] (I, L, Z) = some (none, (z_up (z_up (z_up (z_up I (M + 3) k kd) (M + 4) k (nI p)) (M + 5) k (nI 0)) M 10 (nI (k + 1)), z_up L (M + 6) k 0, Z)) := fun kd => r_token h h10 hk
  have g0 : (c = 59) = False := eq_false (by omega)
  have g1 : (c = 61) = False := eq_false (by omega)
  have g2 : (c = 40) = True := eq_true hc
  have g3 : (c = 41) = False := eq_false (by omega)
  have g4 : (c = 43) = False := eq_false (by omega)
  have g5 : (c = 45) = False := eq_false (by omega)
  have g6 : (c = 42) = False := eq_false (by omega)
  have g7 : (c = 47) = False := eq_false (by omega)
  have g8 : (c = 60) = False := eq_false (by omega)
  show kX12_sign_0 [some (Value.ref (M)), some (Value.int (nI (p))), some (Value.int (nI (c))), some (Value.int (nI (d))), none] [] (I, L, Z) = _
  simp (disch := omega) only [kX12_sign_95, kX12_sign_85, kX12_sign_75, kX12_sign_65, kX12_sign_55, kX12_sign_43, kX12_sign_0, h.1, t, g0, g1, g2, g3, g4, g5, g6, g7, g8, e_push, e_pushl, e_iload, e_lload, e_aload, e_istore, e_astore, e_lstore, e_iinc, e_iadd, e_isub, e_imul, e_iand, e_ior, e_ixor, e_ishl, e_ishr, e_iushr, e_idiv, e_irem, e_ladd, e_lsub, e_lmul, e_lcmp, e_mmax, e_mmin, e_i2l, e_l2i, e_i2b, e_i2c, e_dup, e_dup2, e_pop, e_icmp_eq, e_icmp_ne, e_icmp_lt, e_icmp_ge, e_icmp_gt, e_icmp_le, e_if_eq, e_if_ne, e_if_lt, e_if_ge, e_if_gt, e_if_le, e_getI, e_getR, e_putI, e_putZ, e_putR, e_iald, e_bald, e_zald, e_lald, e_aald, e_alen, e_iast, e_bast, e_zast, e_last, e_aast, e_iret, e_zret, e_lret, e_vret, e_obj, e_callV, e_callS, e_callT, e_acpy, e_ldcS, e_dn, e_ag, z_pop, List.getElem?_cons_zero, List.getElem?_cons_succ, List.set_cons_zero, List.set_cons_succ, List.length_cons, List.length_nil, z_nol, Option.map_some, Option.toList_some, Option.toList_none, List.cons_append, List.nil_append, n_lit, n_m1, n_m2, n_m1lt, n_m1le, n_rem, n_div, n_out, n_cl, n_eq, n_le, n_lt, n_add, n_mul, n_sub, n_nle, n_yle, n_nlt, n_ylt, n_neN, z_lay, z_sz, z_str, z_stI, z_stL, z_stR, eq_self, ↓reduceIte, true_and, and_true, and_self, false_and, and_false, or_self, false_or, or_false, true_or, or_true, not_true_eq_false, not_false_eq_true, Nat.reduceLeDiff, Nat.reduceLT, Nat.reduceAdd, Nat.reduceEqDiff, Nat.reduceMul, Nat.reduceSub, Value.category, Nat.zero_le, beq_self_eq_true]
theorem r_sgn_41 {I : Nat → Nat → Int32} {L : Nat → Nat → Int64} {Z : zZ} {M k p c d : Nat} (h : isMod Z M) (h10 : I M 10 = nI k) (hk : k < 403) (hc : c = 41) : fX12_sign [.ref M, .int (nI p), .int (nI c), .int (nI d)] (I, L, Z) = some (some (.int (nI 1)), (z_up (z_up (z_up (z_up I (M + 3) k (nI 7)) (M + 4) k (nI p)) (M + 5) k (nI 0)) M 10 (nI (k + 1)), z_up L (M + 6) k 0, Z)) := by
  have t : ∀ kd : Int32, fX12_token [.ref M, .int kd, .int (nI p), .int (nI 0), .long 0] (I, L, Z) = some (none, (z_up (z_up (z_up (z_up I (M + 3) k kd) (M + 4) k (nI p)) (M + 5) k (nI 0)) M 10 (nI (k + 1)), z_up L (M + 6) k 0, Z)) := fun kd => r_token h h10 hk
  have g0 : (c = 59) = False := eq_false (by omega)
  have g1 : (c = 61) = False := eq_false (by omega)
  have g2 : (c = 40) = False := eq_false (by omega)
  have g3 : (c = 41) = True := eq_true hc
  have g4 : (c = 43) = False := eq_false (by omega)
  have g5 : (c = 45) = False := eq_false (by omega)
  have g6 : (c = 42) = False := eq_false (by omega)
  have g7 : (c = 47) = False := eq_false (by omega)
  have g8 : (c = 60) = False := eq_false (by omega)
  show kX12_sign_0 [some (Value.ref (M)), some (Value.int (nI (p))), some (Value.int (nI (c))), some (Value.int (nI (d))), none] [] (I, L, Z) = _
  simp (disch := omega) only [kX12_sign_95, kX12_sign_85, kX12_sign_75, kX12_sign_65, kX12_sign_55, kX12_sign_43, kX12_sign_0, h.1, t, g0, g1, g2, g3, g4, g5, g6, g7, g8, e_push, e_pushl, e_iload, e_lload, e_aload, e_istore, e_astore, e_lstore, e_iinc, e_iadd, e_isub, e_imul, e_iand, e_ior, e_ixor, e_ishl, e_ishr, e_iushr, e_idiv, e_irem, e_ladd, e_lsub, e_lmul, e_lcmp, e_mmax, e_mmin, e_i2l, e_l2i, e_i2b, e_i2c, e_dup, e_dup2, e_pop, e_icmp_eq, e_icmp_ne, e_icmp_lt, e_icmp_ge, e_icmp_gt, e_icmp_le, e_if_eq, e_if_ne, e_if_lt, e_if_ge, e_if_gt, e_if_le, e_getI, e_getR, e_putI, e_putZ, e_putR, e_iald, e_bald, e_zald, e_lald, e_aald, e_alen, e_iast, e_bast, e_zast, e_last, e_aast, e_iret, e_zret, e_lret, e_vret, e_obj, e_callV, e_callS, e_callT, e_acpy, e_ldcS, e_dn, e_ag, z_pop, List.getElem?_cons_zero, List.getElem?_cons_succ, List.set_cons_zero, List.set_cons_succ, List.length_cons, List.length_nil, z_nol, Option.map_some, Option.toList_some, Option.toList_none, List.cons_append, List.nil_append, n_lit, n_m1, n_m2, n_m1lt, n_m1le, n_rem, n_div, n_out, n_cl, n_eq, n_le, n_lt, n_add, n_mul, n_sub, n_nle, n_yle, n_nlt, n_ylt, n_neN, z_lay, z_sz, z_str, z_stI, z_stL, z_stR, eq_self, ↓reduceIte, true_and, and_true, and_self, false_and, and_false, or_self, false_or, or_false, true_or, or_true, not_true_eq_false, not_false_eq_true, Nat.reduceLeDiff, Nat.reduceLT, Nat.reduceAdd, Nat.reduceEqDiff, Nat.reduceMul, Nat.reduceSub, Value.category, Nat.zero_le, beq_self_eq_true]
theorem r_sgn_43 {I : Nat → Nat → Int32} {L : Nat → Nat → Int64} {Z : zZ} {M k p c d : Nat} (h : isMod Z M) (h10 : I M 10 = nI k) (hk : k < 403) (hc : c = 43) : fX12_sign [.ref M, .int (nI p), .int (nI c), .int (nI d)] (I, L, Z) = some (some (.int (nI 1)), (z_up (z_up (z_up (z_up I (M + 3) k (nI 8)) (M + 4) k (nI p)) (M + 5) k (nI 0)) M 10 (nI (k + 1)), z_up L (M + 6) k 0, Z)) := by
  have t : ∀ kd : Int32, fX12_token [.ref M, .int kd, .int (nI p), .int (nI 0), .long 0] (I, L, Z) = some (none, (z_up (z_up (z_up (z_up I (M + 3) k kd) (M + 4) k (nI p)) (M + 5) k (nI 0)) M 10 (nI (k + 1)), z_up L (M + 6) k 0, Z)) := fun kd => r_token h h10 hk
  have g0 : (c = 59) = False := eq_false (by omega)
  have g1 : (c = 61) = False := eq_false (by omega)
  have g2 : (c = 40) = False := eq_false (by omega)
  have g3 : (c = 41) = False := eq_false (by omega)
  have g4 : (c = 43) = True := eq_true hc
  have g5 : (c = 45) = False := eq_false (by omega)
  have g6 : (c = 42) = False := eq_false (by omega)
  have g7 : (c = 47) = False := eq_false (by omega)
  have g8 : (c = 60) = False := eq_false (by omega)
  show kX12_sign_0 [some (Value.ref (M)), some (Value.int (nI (p))), some (Value.int (nI (c))), some (Value.int (nI (d))), none] [] (I, L, Z) = _
  simp (disch := omega) only [kX12_sign_95, kX12_sign_85, kX12_sign_75, kX12_sign_65, kX12_sign_55, kX12_sign_43, kX12_sign_0, h.1, t, g0, g1, g2, g3, g4, g5, g6, g7, g8, e_push, e_pushl, e_iload, e_lload, e_aload, e_istore, e_astore, e_lstore, e_iinc, e_iadd, e_isub, e_imul, e_iand, e_ior, e_ixor, e_ishl, e_ishr, e_iushr, e_idiv, e_irem, e_ladd, e_lsub, e_lmul, e_lcmp, e_mmax, e_mmin, e_i2l, e_l2i, e_i2b, e_i2c, e_dup, e_dup2, e_pop, e_icmp_eq, e_icmp_ne, e_icmp_lt, e_icmp_ge, e_icmp_gt, e_icmp_le, e_if_eq, e_if_ne, e_if_lt, e_if_ge, e_if_gt, e_if_le, e_getI, e_getR, e_putI, e_putZ, e_putR, e_iald, e_bald, e_zald, e_lald, e_aald, e_alen, e_iast, e_bast, e_zast, e_last, e_aast, e_iret, e_zret, e_lret, e_vret, e_obj, e_callV, e_callS, e_callT, e_acpy, e_ldcS, e_dn, e_ag, z_pop, List.getElem?_cons_zero, List.getElem?_cons_succ, List.set_cons_zero, List.set_cons_succ, List.length_cons, List.length_nil, z_nol, Option.map_some, Option.toList_some, Option.toList_none, List.cons_append, List.nil_append, n_lit, n_m1, n_m2, n_m1lt, n_m1le, n_rem, n_div, n_out, n_cl, n_eq, n_le, n_lt, n_add, n_mul, n_sub, n_nle, n_yle, n_nlt, n_ylt, n_neN, z_lay, z_sz, z_str, z_stI, z_stL, z_stR, eq_self, ↓reduceIte, true_and, and_true, and_self, false_and, and_false, or_self, false_or, or_false, true_or, or_true, not_true_eq_false, not_false_eq_true, Nat.reduceLeDiff, Nat.reduceLT, Nat.reduceAdd, Nat.reduceEqDiff, Nat.reduceMul, Nat.reduceSub, Value.category, Nat.zero_le, beq_self_eq_true]
theorem r_sgn_45 {I : Nat → Nat → Int32} {L : Nat → Nat → Int64} {Z : zZ} {M k p c d : Nat} (h : isMod Z M) (h10 : I M 10 = nI k) (hk : k < 403) (hc : c = 45) : fX12_sign [.ref M, .int (nI p), .int (nI c), .int (nI d)] (I, L, Z) = some (some (.int (nI 1)), (z_up (z_up (z_up (z_up I (M + 3) k (nI 9)) (M + 4) k (nI p)) (M + 5) k (nI 0)) M 10 (nI (k + 1)), z_up L (M + 6) k 0, Z)) := by
  have t : ∀ kd : Int32, fX12_token [.ref M, .int kd, .int (nI p), .int (nI 0), .long 0] (I, L, Z) = some (none, (z_up (z_up (z_up (z_up I (M + 3) k kd) (M + 4) k (nI p)) (M + 5) k (nI 0)) M 10 (nI (k + 1)), z_up L (M + 6) k 0, Z)) := fun kd => r_token h h10 hk
  have g0 : (c = 59) = False := eq_false (by omega)
  have g1 : (c = 61) = False := eq_false (by omega)
  have g2 : (c = 40) = False := eq_false (by omega)
  have g3 : (c = 41) = False := eq_false (by omega)
  have g4 : (c = 43) = False := eq_false (by omega)
  have g5 : (c = 45) = True := eq_true hc
  have g6 : (c = 42) = False := eq_false (by omega)
  have g7 : (c = 47) = False := eq_false (by omega)
  have g8 : (c = 60) = False := eq_false (by omega)
  show kX12_sign_0 [some (Value.ref (M)), some (Value.int (nI (p))), some (Value.int (nI (c))), some (Value.int (nI (d))), none] [] (I, L, Z) = _
  simp (disch := omega) only [kX12_sign_95, kX12_sign_85, kX12_sign_75, kX12_sign_65, kX12_sign_55, kX12_sign_43, kX12_sign_0, h.1, t, g0, g1, g2, g3, g4, g5, g6, g7, g8, e_push, e_pushl, e_iload, e_lload, e_aload, e_istore, e_astore, e_lstore, e_iinc, e_iadd, e_isub, e_imul, e_iand, e_ior, e_ixor, e_ishl, e_ishr, e_iushr, e_idiv, e_irem, e_ladd, e_lsub, e_lmul, e_lcmp, e_mmax, e_mmin, e_i2l, e_l2i, e_i2b, e_i2c, e_dup, e_dup2, e_pop, e_icmp_eq, e_icmp_ne, e_icmp_lt, e_icmp_ge, e_icmp_gt, e_icmp_le, e_if_eq, e_if_ne, e_if_lt, e_if_ge, e_if_gt, e_if_le, e_getI, e_getR, e_putI, e_putZ, e_putR, e_iald, e_bald, e_zald, e_lald, e_aald, e_alen, e_iast, e_bast, e_zast, e_last, e_aast, e_iret, e_zret, e_lret, e_vret, e_obj, e_callV, e_callS, e_callT, e_acpy, e_ldcS, e_dn, e_ag, z_pop, List.getElem?_cons_zero, List.getElem?_cons_succ, List.set_cons_zero, List.set_cons_succ, List.length_cons, List.length_nil, z_nol, Option.map_some, Option.toList_some, Option.toList_none, List.cons_append, List.nil_append, n_lit, n_m1, n_m2, n_m1lt, n_m1le, n_rem, n_div, n_out, n_cl, n_eq, n_le, n_lt, n_add, n_mul, n_sub, n_nle, n_yle, n_nlt, n_ylt, n_neN, z_lay, z_sz, z_str, z_stI, z_stL, z_stR, eq_self, ↓reduceIte, true_and, and_true, and_self, false_and, and_false, or_self, false_or, or_false, true_or, or_true, not_true_eq_false, not_false_eq_true, Nat.reduceLeDiff, Nat.reduceLT, Nat.reduceAdd, Nat.reduceEqDiff, Nat.reduceMul, Nat.reduceSub, Value.category, Nat.zero_le, beq_self_eq_true]
theorem r_sgn_42 {I : Nat → Nat → Int32} {L : Nat → Nat → Int64} {Z : zZ} {M k p c d : Nat} (h : isMod Z M) (h10 : I M 10 = nI k) (hk : k < 403) (hc : c = 42) : fX12_sign [.ref M, .int (nI p), .int (nI c), .int (nI d)] (I, L, Z) = some (some (.int (nI 1)), (z_up (z_up (z_up (z_up I (M + 3) k (nI 10)) (M + 4) k (nI p)) (M + 5) k (nI 0)) M 10 (nI (k + 1)), z_up L (M + 6) k 0, Z)) := by
  have t : ∀ kd : Int32, fX12_token [.ref M, .int kd, .int (nI p), .int (nI 0), .long 0] (I, L, Z) = some (none, (z_up (z_up (z_up (z_up I (M + 3) k kd) (M + 4) k (nI p)) (M + 5) k (nI 0)) M 10 (nI (k + 1)), z_up L (M + 6) k 0, Z)) := fun kd => r_token h h10 hk
  have g0 : (c = 59) = False := eq_false (by omega)
  have g1 : (c = 61) = False := eq_false (by omega)
  have g2 : (c = 40) = False := eq_false (by omega)
  have g3 : (c = 41) = False := eq_false (by omega)
  have g4 : (c = 43) = False := eq_false (by omega)
  have g5 : (c = 45) = False := eq_false (by omega)
  have g6 : (c = 42) = True := eq_true hc
  have g7 : (c = 47) = False := eq_false (by omega)
  have g8 : (c = 60) = False := eq_false (by omega)
  show kX12_sign_0 [some (Value.ref (M)), some (Value.int (nI (p))), some (Value.int (nI (c))), some (Value.int (nI (d))), none] [] (I, L, Z) = _
  simp (disch := omega) only [kX12_sign_95, kX12_sign_85, kX12_sign_75, kX12_sign_65, kX12_sign_55, kX12_sign_43, kX12_sign_0, h.1, t, g0, g1, g2, g3, g4, g5, g6, g7, g8, e_push, e_pushl, e_iload, e_lload, e_aload, e_istore, e_astore, e_lstore, e_iinc, e_iadd, e_isub, e_imul, e_iand, e_ior, e_ixor, e_ishl, e_ishr, e_iushr, e_idiv, e_irem, e_ladd, e_lsub, e_lmul, e_lcmp, e_mmax, e_mmin, e_i2l, e_l2i, e_i2b, e_i2c, e_dup, e_dup2, e_pop, e_icmp_eq, e_icmp_ne, e_icmp_lt, e_icmp_ge, e_icmp_gt, e_icmp_le, e_if_eq, e_if_ne, e_if_lt, e_if_ge, e_if_gt, e_if_le, e_getI, e_getR, e_putI, e_putZ, e_putR, e_iald, e_bald, e_zald, e_lald, e_aald, e_alen, e_iast, e_bast, e_zast, e_last, e_aast, e_iret, e_zret, e_lret, e_vret, e_obj, e_callV, e_callS, e_callT, e_acpy, e_ldcS, e_dn, e_ag, z_pop, List.getElem?_cons_zero, List.getElem?_cons_succ, List.set_cons_zero, List.set_cons_succ, List.length_cons, List.length_nil, z_nol, Option.map_some, Option.toList_some, Option.toList_none, List.cons_append, List.nil_append, n_lit, n_m1, n_m2, n_m1lt, n_m1le, n_rem, n_div, n_out, n_cl, n_eq, n_le, n_lt, n_add, n_mul, n_sub, n_nle, n_yle, n_nlt, n_ylt, n_neN, z_lay, z_sz, z_str, z_stI, z_stL, z_stR, eq_self, ↓reduceIte, true_and, and_true, and_self, false_and, and_false, or_self, false_or, or_false, true_or, or_true, not_true_eq_false, not_false_eq_true, Nat.reduceLeDiff, Nat.reduceLT, Nat.reduceAdd, Nat.reduceEqDiff, Nat.reduceMul, Nat.reduceSub, Value.category, Nat.zero_le, beq_self_eq_true]
theorem r_sgn_47 {I : Nat → Nat → Int32} {L : Nat → Nat → Int64} {Z : zZ} {M k p c d : Nat} (h : isMod Z M) (h10 : I M 10 = nI k) (hk : k < 403) (hc : c = 47) : fX12_sign [.ref M, .int (nI p), .int (nI c), .int (nI d)] (I, L, Z) = some (some (.int (nI 1)), (z_up (z_up (z_up (z_up I (M + 3) k (nI 15)) (M + 4) k (nI p)) (M + 5) k (nI 0)) M 10 (nI (k + 1)), z_up L (M + 6) k 0, Z)) := by
  have t : ∀ kd : Int32, fX12_token [.ref M, .int kd, .int (nI p), .int (nI 0), .long 0] (I, L, Z) = some (none, (z_up (z_up (z_up (z_up I (M + 3) k kd) (M + 4) k (nI p)) (M + 5) k (nI 0)) M 10 (nI (k + 1)), z_up L (M + 6) k 0, Z)) := fun kd => r_token h h10 hk
  have g0 : (c = 59) = False := eq_false (by omega)
  have g1 : (c = 61) = False := eq_false (by omega)
  have g2 : (c = 40) = False := eq_false (by omega)
  have g3 : (c = 41) = False := eq_false (by omega)
  have g4 : (c = 43) = False := eq_false (by omega)
  have g5 : (c = 45) = False := eq_false (by omega)
  have g6 : (c = 42) = False := eq_false (by omega)
  have g7 : (c = 47) = True := eq_true hc
  have g8 : (c = 60) = False := eq_false (by omega)
  show kX12_sign_0 [some (Value.ref (M)), some (Value.int (nI (p))), some (Value.int (nI (c))), some (Value.int (nI (d))), none] [] (I, L, Z) = _
  simp (disch := omega) only [kX12_sign_95, kX12_sign_85, kX12_sign_75, kX12_sign_65, kX12_sign_55, kX12_sign_43, kX12_sign_0, h.1, t, g0, g1, g2, g3, g4, g5, g6, g7, g8, e_push, e_pushl, e_iload, e_lload, e_aload, e_istore, e_astore, e_lstore, e_iinc, e_iadd, e_isub, e_imul, e_iand, e_ior, e_ixor, e_ishl, e_ishr, e_iushr, e_idiv, e_irem, e_ladd, e_lsub, e_lmul, e_lcmp, e_mmax, e_mmin, e_i2l, e_l2i, e_i2b, e_i2c, e_dup, e_dup2, e_pop, e_icmp_eq, e_icmp_ne, e_icmp_lt, e_icmp_ge, e_icmp_gt, e_icmp_le, e_if_eq, e_if_ne, e_if_lt, e_if_ge, e_if_gt, e_if_le, e_getI, e_getR, e_putI, e_putZ, e_putR, e_iald, e_bald, e_zald, e_lald, e_aald, e_alen, e_iast, e_bast, e_zast, e_last, e_aast, e_iret, e_zret, e_lret, e_vret, e_obj, e_callV, e_callS, e_callT, e_acpy, e_ldcS, e_dn, e_ag, z_pop, List.getElem?_cons_zero, List.getElem?_cons_succ, List.set_cons_zero, List.set_cons_succ, List.length_cons, List.length_nil, z_nol, Option.map_some, Option.toList_some, Option.toList_none, List.cons_append, List.nil_append, n_lit, n_m1, n_m2, n_m1lt, n_m1le, n_rem, n_div, n_out, n_cl, n_eq, n_le, n_lt, n_add, n_mul, n_sub, n_nle, n_yle, n_nlt, n_ylt, n_neN, z_lay, z_sz, z_str, z_stI, z_stL, z_stR, eq_self, ↓reduceIte, true_and, and_true, and_self, false_and, and_false, or_self, false_or, or_false, true_or, or_true, not_true_eq_false, not_false_eq_true, Nat.reduceLeDiff, Nat.reduceLT, Nat.reduceAdd, Nat.reduceEqDiff, Nat.reduceMul, Nat.reduceSub, Value.category, Nat.zero_le, beq_self_eq_true]
theorem r_sgn_60 {I : Nat → Nat → Int32} {L : Nat → Nat → Int64} {Z : zZ} {M k p c d : Nat} (h : isMod Z M) (h10 : I M 10 = nI k) (hk : k < 403) (hc : c = 60) : fX12_sign [.ref M, .int (nI p), .int (nI c), .int (nI d)] (I, L, Z) = some (some (.int (nI 1)), (z_up (z_up (z_up (z_up I (M + 3) k (nI 13)) (M + 4) k (nI p)) (M + 5) k (nI 0)) M 10 (nI (k + 1)), z_up L (M + 6) k 0, Z)) := by
  have t : ∀ kd : Int32, fX12_token [.ref M, .int kd, .int (nI p), .int (nI 0), .long 0] (I, L, Z) = some (none, (z_up (z_up (z_up (z_up I (M + 3) k kd) (M + 4) k (nI p)) (M + 5) k (nI 0)) M 10 (nI (k + 1)), z_up L (M + 6) k 0, Z)) := fun kd => r_token h h10 hk
  have g0 : (c = 59) = False := eq_false (by omega)
  have g1 : (c = 61) = False := eq_false (by omega)
  have g2 : (c = 40) = False := eq_false (by omega)
  have g3 : (c = 41) = False := eq_false (by omega)
  have g4 : (c = 43) = False := eq_false (by omega)
  have g5 : (c = 45) = False := eq_false (by omega)
  have g6 : (c = 42) = False := eq_false (by omega)
  have g7 : (c = 47) = False := eq_false (by omega)
  have g8 : (c = 60) = True := eq_true hc
  show kX12_sign_0 [some (Value.ref (M)), some (Value.int (nI (p))), some (Value.int (nI (c))), some (Value.int (nI (d))), none] [] (I, L, Z) = _
  simp (disch := omega) only [kX12_sign_95, kX12_sign_85, kX12_sign_75, kX12_sign_65, kX12_sign_55, kX12_sign_43, kX12_sign_0, h.1, t, g0, g1, g2, g3, g4, g5, g6, g7, g8, e_push, e_pushl, e_iload, e_lload, e_aload, e_istore, e_astore, e_lstore, e_iinc, e_iadd, e_isub, e_imul, e_iand, e_ior, e_ixor, e_ishl, e_ishr, e_iushr, e_idiv, e_irem, e_ladd, e_lsub, e_lmul, e_lcmp, e_mmax, e_mmin, e_i2l, e_l2i, e_i2b, e_i2c, e_dup, e_dup2, e_pop, e_icmp_eq, e_icmp_ne, e_icmp_lt, e_icmp_ge, e_icmp_gt, e_icmp_le, e_if_eq, e_if_ne, e_if_lt, e_if_ge, e_if_gt, e_if_le, e_getI, e_getR, e_putI, e_putZ, e_putR, e_iald, e_bald, e_zald, e_lald, e_aald, e_alen, e_iast, e_bast, e_zast, e_last, e_aast, e_iret, e_zret, e_lret, e_vret, e_obj, e_callV, e_callS, e_callT, e_acpy, e_ldcS, e_dn, e_ag, z_pop, List.getElem?_cons_zero, List.getElem?_cons_succ, List.set_cons_zero, List.set_cons_succ, List.length_cons, List.length_nil, z_nol, Option.map_some, Option.toList_some, Option.toList_none, List.cons_append, List.nil_append, n_lit, n_m1, n_m2, n_m1lt, n_m1le, n_rem, n_div, n_out, n_cl, n_eq, n_le, n_lt, n_add, n_mul, n_sub, n_nle, n_yle, n_nlt, n_ylt, n_neN, z_lay, z_sz, z_str, z_stI, z_stL, z_stR, eq_self, ↓reduceIte, true_and, and_true, and_self, false_and, and_false, or_self, false_or, or_false, true_or, or_true, not_true_eq_false, not_false_eq_true, Nat.reduceLeDiff, Nat.reduceLT, Nat.reduceAdd, Nat.reduceEqDiff, Nat.reduceMul, Nat.reduceSub, Value.category, Nat.zero_le, beq_self_eq_true]
theorem r_sgn_no {I : Nat → Nat → Int32} {L : Nat → Nat → Int64} {Z : zZ} {M k p c d : Nat} (h : isMod Z M) (h10 : I M 10 = nI k) (hk : k < 403) (hc : c < 256) (hs : ¬ isSg c) : fX12_sign [.ref M, .int (nI p), .int (nI c), .int (nI d)] (I, L, Z) = some (some (.int (nI 1)), (z_up (z_up (z_up (z_up I (M + 3) k (nI 3)) (M + 4) k (nI p)) (M + 5) k (nI 0)) M 10 (nI (k + 1)), z_up L (M + 6) k 0, Z)) := by
  have t : ∀ kd : Int32, fX12_token [.ref M, .int kd, .int (nI p), .int (nI 0), .long 0] (I, L, Z) = some (none, (z_up (z_up (z_up (z_up I (M + 3) k kd) (M + 4) k (nI p)) (M + 5) k (nI 0)) M 10 (nI (k + 1)), z_up L (M + 6) k 0, Z)) := fun kd => r_token h h10 hk
  unfold isSg at hs
  have g0 : c ≠ 59 := by omega
  have g1 : c ≠ 61 := by omega
  have g2 : c ≠ 40 := by omega
  have g3 : c ≠ 41 := by omega
  have g4 : c ≠ 43 := by omega
  have g5 : c ≠ 45 := by omega
  have g6 : c ≠ 42 := by omega
  have g7 : c ≠ 47 := by omega
  have g8 : c ≠ 60 := by omega
  show kX12_sign_0 [some (Value.ref (M)), some (Value.int (nI (p))), some (Value.int (nI (c))), some (Value.int (nI (d))), none] [] (I, L, Z) = _
  simp (disch := omega) only [kX12_sign_95, kX12_sign_85, kX12_sign_75, kX12_sign_65, kX12_sign_55, kX12_sign_43, kX12_sign_0, h.1, t, g0, g1, g2, g3, g4, g5, g6, g7, g8, e_push, e_pushl, e_iload, e_lload, e_aload, e_istore, e_astore, e_lstore, e_iinc, e_iadd, e_isub, e_imul, e_iand, e_ior, e_ixor, e_ishl, e_ishr, e_iushr, e_idiv, e_irem, e_ladd, e_lsub, e_lmul, e_lcmp, e_mmax, e_mmin, e_i2l, e_l2i, e_i2b, e_i2c, e_dup, e_dup2, e_pop, e_icmp_eq, e_icmp_ne, e_icmp_lt, e_icmp_ge, e_icmp_gt, e_icmp_le, e_if_eq, e_if_ne, e_if_lt, e_if_ge, e_if_gt, e_if_le, e_getI, e_getR, e_putI, e_putZ, e_putR, e_iald, e_bald, e_zald, e_lald, e_aald, e_alen, e_iast, e_bast, e_zast, e_last, e_aast, e_iret, e_zret, e_lret, e_vret, e_obj, e_callV, e_callS, e_callT, e_acpy, e_ldcS, e_dn, e_ag, z_pop, List.getElem?_cons_zero, List.getElem?_cons_succ, List.set_cons_zero, List.set_cons_succ, List.length_cons, List.length_nil, z_nol, Option.map_some, Option.toList_some, Option.toList_none, List.cons_append, List.nil_append, n_lit, n_m1, n_m2, n_m1lt, n_m1le, n_rem, n_div, n_out, n_cl, n_eq, n_le, n_lt, n_add, n_mul, n_sub, n_nle, n_yle, n_nlt, n_ylt, n_neN, z_lay, z_sz, z_str, z_stI, z_stL, z_stR, eq_self, ↓reduceIte, true_and, and_true, and_self, false_and, and_false, or_self, false_or, or_false, true_or, or_true, not_true_eq_false, not_false_eq_true, Nat.reduceLeDiff, Nat.reduceLT, Nat.reduceAdd, Nat.reduceEqDiff, Nat.reduceMul, Nat.reduceSub, Value.category, Nat.zero_le, beq_self_eq_true]
theorem r_sign {I : Nat → Nat → Int32} {L : Nat → Nat → Int64} {Z : zZ} {M k p c d : Nat} (h : isMod Z M) (h10 : I M 10 = nI k) (hk : k < 403) (hc : c < 256) : fX12_sign [.ref M, .int (nI p), .int (nI c), .int (nI d)] (I, L, Z) = some (some (.int (nI 1)), (z_up (z_up (z_up (z_up I (M + 3) k (nI (sgR c))) (M + 4) k (nI p)) (M + 5) k (nI 0)) M 10 (nI (k + 1)), z_up L (M + 6) k 0, Z)) := by
  by_cases g : isSg c
  · rcases g with rfl | rfl | rfl | rfl | rfl | rfl | rfl | rfl | rfl
    · rw [show sgR 59 = 4 by decide]; exact r_sgn_59 h h10 hk rfl
    · rw [show sgR 61 = 5 by decide]; exact r_sgn_61 h h10 hk rfl
    · rw [show sgR 43 = 8 by decide]; exact r_sgn_43 h h10 hk rfl
    · rw [show sgR 45 = 9 by decide]; exact r_sgn_45 h h10 hk rfl
    · rw [show sgR 42 = 10 by decide]; exact r_sgn_42 h h10 hk rfl
    · rw [show sgR 47 = 15 by decide]; exact r_sgn_47 h h10 hk rfl
    · rw [show sgR 60 = 13 by decide]; exact r_sgn_60 h h10 hk rfl
    · rw [show sgR 40 = 6 by decide]; exact r_sgn_40 h h10 hk rfl
    · rw [show sgR 41 = 7 by decide]; exact r_sgn_41 h h10 hk rfl
  · rw [show sgR c = 3 by unfold sgR; rw [if_neg g]]
    exact r_sgn_no h h10 hk hc g
/-! the reference's words -/
def wdL (w : Nat) : Nat := p_cnt (fun i => wB (w * 8 + i) ≠ 32) 8
theorem wd_let : ∀ w, w < 20 → ∀ i, i < 8 → (i < wdL w → 97 ≤ wB (w * 8 + i) ∧ wB (w * 8 + i) ≤ 122) ∧ (wdL w ≤ i → wB (w * 8 + i) = 32) := by decide +kernel
theorem wd_len : ∀ w, w < 20 → wdL w ≤ 8 := by decide +kernel
theorem wd_key : ∀ w, w < 20 → keyV[w]? = some (num 27 (fun i => wB (w * 8 + i) - 96) (wdL w)) := by decide +kernel
theorem wd_one : ∀ w, w < 20 → ∀ v, v < 20 → (∀ i, i < 8 → wB (w * 8 + i) = wB (v * 8 + i)) → w = v := by decide +kernel
theorem isWd_key {T : Nat → Nat} {p e w : Nat} (hw : w < 20) (he : p ≤ e) (h8 : e - p ≤ 8) (hl : ∀ k, k < e - p → isLe (T (p + k))) : isWd T p e w ↔ num 27 (fun i => T (p + i) - 96) (e - p) = num 27 (fun i => wB (w * 8 + i) - 96) (wdL w) := by
  have w1 := wd_let w hw
  have w2 := wd_len w hw
  constructor
  · intro h
    have el : e - p = wdL w := by
      rcases Nat.lt_trichotomy (e - p) (wdL w) with g | g | g
      · have a := h (e - p) (by omega)
        have b := ((w1 (e - p) (by omega)).1 g).1
        rw [a, pdW, if_neg (by omega)] at b
        omega
      · exact g
      · have a := h (wdL w) (by omega)
        have b := (w1 (wdL w) (by omega)).2 (Nat.le_refl _)
        rw [a, pdW, if_pos (by omega)] at b
        have := (hl (wdL w) g).1
        omega
    rw [el]
    refine num_congr (fun i hi => ?_)
    have a := h i (by omega)
    rw [pdW, if_pos (by omega)] at a
    show T (p + i) - 96 = wB (w * 8 + i) - 96
    rw [a]
  · intro h
    obtain ⟨q1, q2⟩ := num_inj1 (b := 27) (fun i hi => by
      obtain ⟨u1, u2⟩ := hl i hi
      constructor
      · show 0 < T (p + i) - 96
        omega
      · show T (p + i) - 96 < 27
        omega) (fun i hi => by
      obtain ⟨u1, u2⟩ := (w1 i (by omega)).1 hi
      constructor
      · show 0 < wB (w * 8 + i) - 96
        omega
      · show wB (w * 8 + i) - 96 < 27
        omega) h
    intro i hi
    unfold pdW
    by_cases g : p + i < e
    · rw [if_pos g]
      have a := q2 i (by omega)
      have a : T (p + i) - 96 = wB (w * 8 + i) - 96 := a
      obtain ⟨u1, u2⟩ := hl i (by omega)
      obtain ⟨v1, v2⟩ := (w1 i hi).1 (by omega)
      omega
    · rw [if_neg g]
      exact (w1 i hi).2 (by omega)
theorem isWd_one {T : Nat → Nat} {p e w v : Nat} (hw : w < 20) (hv : v < 20) (h1 : isWd T p e w) (h2 : isWd T p e v) : w = v := wd_one w hw v hv (fun i hi => by rw [h1 i hi, h2 i hi])
noncomputable def kdR (T : Nat → Nat) (p e k : Nat) : Nat := match lsP (isWd T p e) k with
  | some w => 20 + w
  | none => 1
theorem kdR_y {T : Nat → Nat} {p e k : Nat} (hk : k < 20) (h : isWd T p e k) : kdR T p e (k + 1) = 20 + k := by
  unfold kdR
  rw [lsP_some (p := isWd T p e) (k := k) (fun i hi z => absurd (isWd_one (by omega) hk z h) (by omega)) h (Nat.lt_succ_self k)]
theorem kdR_n {T : Nat → Nat} {p e k : Nat} (h : ¬ isWd T p e k) : kdR T p e (k + 1) = kdR T p e k := by
  unfold kdR
  rw [lsP]
  cases lsP (isWd T p e) k with
  | some w => rfl
  | none =>
    show (match ifP (isWd T p e k) (some k) none with
      | some w => 20 + w
      | none => 1) = 1
    rw [ifP_neg h]
theorem kdR_20 {T : Nat → Nat} {p e : Nat} : kdR T p e 20 = rk (wdK T p e) := by
  unfold kdR wdK
  generalize ho : lsP (isWd T p e) 20 = o
  cases o with
  | none => rfl
  | some w =>
    have := (lsP_lt ho).1
    show 20 + w = rk w
    unfold rk
    rw [if_pos this]
theorem kdR_lt {T : Nat → Nat} {p e k : Nat} (hk : k ≤ 20) : kdR T p e k < 40 := by
  unfold kdR
  generalize ho : lsP (isWd T p e) k = o
  cases o with
  | none => decide
  | some w =>
    have := (lsP_lt ho).1
    show 20 + w < 40
    omega
