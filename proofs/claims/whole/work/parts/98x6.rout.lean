/-! read: the reference's waiting signs -/
def opC (r : Nat) : Nat := if r = 8 then 2 else if r = 9 then 3 else if r = 10 then 4 else 5
def opR (o : Nat) : Nat := if o = 2 then 8 else if o = 3 then 9 else if o = 4 then 10 else 15
def pO (M u c a k : Nat) : Prop := (a = M ∧ (k = 38 ∨ k = 42)) ∨ ((a = M + 24 ∨ a = M + 25) ∧ c ≤ k ∧ k < u)
theorem r_out1 {I : Nat → Nat → Int32} {L : Nat → Nat → Int64} {Z : zZ} {M s t c x : Nat} {y : Option Value} (h : isMod Z M) (hs : s < 2) (h42 : I M 42 = nI (t + 1)) (ht : t < 60) (h38 : I M 38 = nI c) (hc : c < 840) (hx : I (M + 26) t = nI x) (hx2 : (x = 8 ∧ s = 0) ∨ (x = 9 ∧ s = 0) ∨ x = 10 ∨ x = 15) : bX12_comesOut_0 [some (Value.ref (M)), some (Value.int (nI (s))), y] [] (I, L, Z) = some (.inl ([some (Value.ref (M)), some (Value.int (nI (s))), some (Value.int (nI (x)))], (z_up (z_up (z_up (z_up I M 42 (nI t)) (M + 24) c (nI (opC x))) (M + 25) c (nI 0)) M 38 (nI (c + 1)), L, Z))) := by
  have em : ∀ v, fX12_emit [.ref M, .int v, .int (nI 0)] (z_up I M 42 (nI t), L, Z) = _ := fun v => r_emit (x := v) (y := nI 0) h (show z_up I M 42 (nI t) M 38 = nI c by rw [zup_ne (by omega)]; exact h38) hc
  have s01 : s = 0 ∨ s = 1 := by omega
  rcases hx2 with ⟨g, z⟩ | ⟨g, z⟩ | g | g
  · have e : opC x = 2 := by rw [g]; rfl
    rw [e]
    have q1 : (x = 6) = False := eq_false (by omega)
    have q2 : (x = 8) = True := eq_true g
    simp (disch := omega) only [bX12_comesOut_0, kX12_comesOut_91, kX12_comesOut_41, kX12_comesOut_84, kX12_comesOut_42, kX12_comesOut_0, h.1, mr_waits h, ml_waits h, h42, hx, q1, q2, z, em, Nat.add_sub_cancel, e_push, e_pushl, e_iload, e_lload, e_aload, e_istore, e_astore, e_lstore, e_iinc, e_iadd, e_isub, e_imul, e_iand, e_ior, e_ixor, e_ishl, e_ishr, e_iushr, e_idiv, e_irem, e_ladd, e_lsub, e_lmul, e_lcmp, e_mmax, e_mmin, e_i2l, e_l2i, e_i2b, e_i2c, e_dup, e_dup2, e_pop, e_icmp_eq, e_icmp_ne, e_icmp_lt, e_icmp_ge, e_icmp_gt, e_icmp_le, e_if_eq, e_if_ne, e_if_lt, e_if_ge, e_if_gt, e_if_le, e_getI, e_getR, e_putI, e_putZ, e_putR, e_iald, e_bald, e_zald, e_lald, e_aald, e_alen, e_iast, e_bast, e_zast, e_last, e_aast, e_iret, e_zret, e_lret, e_vret, e_obj, e_callV, e_callS, e_callT, e_acpy, e_ldcS, e_dn, e_ag, z_pop, List.getElem?_cons_zero, List.getElem?_cons_succ, List.set_cons_zero, List.set_cons_succ, List.length_cons, List.length_nil, z_nol, Option.map_some, Option.toList_some, Option.toList_none, List.cons_append, List.nil_append, n_lit, n_m1, n_m2, n_m1lt, n_m1le, n_rem, n_div, n_out, n_cl, n_eq, n_le, n_lt, n_add, n_mul, n_sub, n_nle, n_yle, n_nlt, n_ylt, n_neN, z_lay, z_sz, z_str, z_stI, z_stL, z_stR, eq_self, ↓reduceIte, true_and, and_true, and_self, false_and, and_false, or_self, false_or, or_false, true_or, or_true, not_true_eq_false, not_false_eq_true, Nat.reduceLeDiff, Nat.reduceLT, Nat.reduceAdd, Nat.reduceEqDiff, Nat.reduceMul, Nat.reduceSub, Value.category, Nat.zero_le, beq_self_eq_true]
  · have e : opC x = 3 := by rw [g]; rfl
    rw [e]
    have q1 : (x = 6) = False := eq_false (by omega)
    have q2 : (x = 8) = False := eq_false (by omega)
    have q3 : (x = 9) = True := eq_true g
    simp (disch := omega) only [bX12_comesOut_0, kX12_comesOut_91, kX12_comesOut_41, kX12_comesOut_84, kX12_comesOut_42, kX12_comesOut_0, h.1, mr_waits h, ml_waits h, h42, hx, q1, q2, q3, z, em, Nat.add_sub_cancel, e_push, e_pushl, e_iload, e_lload, e_aload, e_istore, e_astore, e_lstore, e_iinc, e_iadd, e_isub, e_imul, e_iand, e_ior, e_ixor, e_ishl, e_ishr, e_iushr, e_idiv, e_irem, e_ladd, e_lsub, e_lmul, e_lcmp, e_mmax, e_mmin, e_i2l, e_l2i, e_i2b, e_i2c, e_dup, e_dup2, e_pop, e_icmp_eq, e_icmp_ne, e_icmp_lt, e_icmp_ge, e_icmp_gt, e_icmp_le, e_if_eq, e_if_ne, e_if_lt, e_if_ge, e_if_gt, e_if_le, e_getI, e_getR, e_putI, e_putZ, e_putR, e_iald, e_bald, e_zald, e_lald, e_aald, e_alen, e_iast, e_bast, e_zast, e_last, e_aast, e_iret, e_zret, e_lret, e_vret, e_obj, e_callV, e_callS, e_callT, e_acpy, e_ldcS, e_dn, e_ag, z_pop, List.getElem?_cons_zero, List.getElem?_cons_succ, List.set_cons_zero, List.set_cons_succ, List.length_cons, List.length_nil, z_nol, Option.map_some, Option.toList_some, Option.toList_none, List.cons_append, List.nil_append, n_lit, n_m1, n_m2, n_m1lt, n_m1le, n_rem, n_div, n_out, n_cl, n_eq, n_le, n_lt, n_add, n_mul, n_sub, n_nle, n_yle, n_nlt, n_ylt, n_neN, z_lay, z_sz, z_str, z_stI, z_stL, z_stR, eq_self, ↓reduceIte, true_and, and_true, and_self, false_and, and_false, or_self, false_or, or_false, true_or, or_true, not_true_eq_false, not_false_eq_true, Nat.reduceLeDiff, Nat.reduceLT, Nat.reduceAdd, Nat.reduceEqDiff, Nat.reduceMul, Nat.reduceSub, Value.category, Nat.zero_le, beq_self_eq_true]
  · have e : opC x = 4 := by rw [g]; rfl
    rw [e]
    have q1 : (x = 6) = False := eq_false (by omega)
    have q2 : (x = 8) = False := eq_false (by omega)
    have q3 : (x = 9) = False := eq_false (by omega)
    have q4 : (x = 10) = True := eq_true g
    rcases s01 with z | z
    · simp (disch := omega) only [bX12_comesOut_0, kX12_comesOut_91, kX12_comesOut_41, kX12_comesOut_84, kX12_comesOut_42, kX12_comesOut_0, h.1, mr_waits h, ml_waits h, h42, hx, q1, q2, q3, q4, z, em, Nat.add_sub_cancel, e_push, e_pushl, e_iload, e_lload, e_aload, e_istore, e_astore, e_lstore, e_iinc, e_iadd, e_isub, e_imul, e_iand, e_ior, e_ixor, e_ishl, e_ishr, e_iushr, e_idiv, e_irem, e_ladd, e_lsub, e_lmul, e_lcmp, e_mmax, e_mmin, e_i2l, e_l2i, e_i2b, e_i2c, e_dup, e_dup2, e_pop, e_icmp_eq, e_icmp_ne, e_icmp_lt, e_icmp_ge, e_icmp_gt, e_icmp_le, e_if_eq, e_if_ne, e_if_lt, e_if_ge, e_if_gt, e_if_le, e_getI, e_getR, e_putI, e_putZ, e_putR, e_iald, e_bald, e_zald, e_lald, e_aald, e_alen, e_iast, e_bast, e_zast, e_last, e_aast, e_iret, e_zret, e_lret, e_vret, e_obj, e_callV, e_callS, e_callT, e_acpy, e_ldcS, e_dn, e_ag, z_pop, List.getElem?_cons_zero, List.getElem?_cons_succ, List.set_cons_zero, List.set_cons_succ, List.length_cons, List.length_nil, z_nol, Option.map_some, Option.toList_some, Option.toList_none, List.cons_append, List.nil_append, n_lit, n_m1, n_m2, n_m1lt, n_m1le, n_rem, n_div, n_out, n_cl, n_eq, n_le, n_lt, n_add, n_mul, n_sub, n_nle, n_yle, n_nlt, n_ylt, n_neN, z_lay, z_sz, z_str, z_stI, z_stL, z_stR, eq_self, ↓reduceIte, true_and, and_true, and_self, false_and, and_false, or_self, false_or, or_false, true_or, or_true, not_true_eq_false, not_false_eq_true, Nat.reduceLeDiff, Nat.reduceLT, Nat.reduceAdd, Nat.reduceEqDiff, Nat.reduceMul, Nat.reduceSub, Value.category, Nat.zero_le, beq_self_eq_true]
    · simp (disch := omega) only [bX12_comesOut_0, kX12_comesOut_91, kX12_comesOut_41, kX12_comesOut_84, kX12_comesOut_42, kX12_comesOut_0, h.1, mr_waits h, ml_waits h, h42, hx, q1, q2, q3, q4, z, em, Nat.add_sub_cancel, e_push, e_pushl, e_iload, e_lload, e_aload, e_istore, e_astore, e_lstore, e_iinc, e_iadd, e_isub, e_imul, e_iand, e_ior, e_ixor, e_ishl, e_ishr, e_iushr, e_idiv, e_irem, e_ladd, e_lsub, e_lmul, e_lcmp, e_mmax, e_mmin, e_i2l, e_l2i, e_i2b, e_i2c, e_dup, e_dup2, e_pop, e_icmp_eq, e_icmp_ne, e_icmp_lt, e_icmp_ge, e_icmp_gt, e_icmp_le, e_if_eq, e_if_ne, e_if_lt, e_if_ge, e_if_gt, e_if_le, e_getI, e_getR, e_putI, e_putZ, e_putR, e_iald, e_bald, e_zald, e_lald, e_aald, e_alen, e_iast, e_bast, e_zast, e_last, e_aast, e_iret, e_zret, e_lret, e_vret, e_obj, e_callV, e_callS, e_callT, e_acpy, e_ldcS, e_dn, e_ag, z_pop, List.getElem?_cons_zero, List.getElem?_cons_succ, List.set_cons_zero, List.set_cons_succ, List.length_cons, List.length_nil, z_nol, Option.map_some, Option.toList_some, Option.toList_none, List.cons_append, List.nil_append, n_lit, n_m1, n_m2, n_m1lt, n_m1le, n_rem, n_div, n_out, n_cl, n_eq, n_le, n_lt, n_add, n_mul, n_sub, n_nle, n_yle, n_nlt, n_ylt, n_neN, z_lay, z_sz, z_str, z_stI, z_stL, z_stR, eq_self, ↓reduceIte, true_and, and_true, and_self, false_and, and_false, or_self, false_or, or_false, true_or, or_true, not_true_eq_false, not_false_eq_true, Nat.reduceLeDiff, Nat.reduceLT, Nat.reduceAdd, Nat.reduceEqDiff, Nat.reduceMul, Nat.reduceSub, Value.category, Nat.zero_le, beq_self_eq_true]
  · have e : opC x = 5 := by rw [g]; rfl
    rw [e]
    have q1 : (x = 6) = False := eq_false (by omega)
    have q2 : (x = 8) = False := eq_false (by omega)
    have q3 : (x = 9) = False := eq_false (by omega)
    have q4 : (x = 10) = False := eq_false (by omega)
    rcases s01 with z | z
    · simp (disch := omega) only [bX12_comesOut_0, kX12_comesOut_91, kX12_comesOut_41, kX12_comesOut_84, kX12_comesOut_42, kX12_comesOut_0, h.1, mr_waits h, ml_waits h, h42, hx, q1, q2, q3, q4, z, em, Nat.add_sub_cancel, e_push, e_pushl, e_iload, e_lload, e_aload, e_istore, e_astore, e_lstore, e_iinc, e_iadd, e_isub, e_imul, e_iand, e_ior, e_ixor, e_ishl, e_ishr, e_iushr, e_idiv, e_irem, e_ladd, e_lsub, e_lmul, e_lcmp, e_mmax, e_mmin, e_i2l, e_l2i, e_i2b, e_i2c, e_dup, e_dup2, e_pop, e_icmp_eq, e_icmp_ne, e_icmp_lt, e_icmp_ge, e_icmp_gt, e_icmp_le, e_if_eq, e_if_ne, e_if_lt, e_if_ge, e_if_gt, e_if_le, e_getI, e_getR, e_putI, e_putZ, e_putR, e_iald, e_bald, e_zald, e_lald, e_aald, e_alen, e_iast, e_bast, e_zast, e_last, e_aast, e_iret, e_zret, e_lret, e_vret, e_obj, e_callV, e_callS, e_callT, e_acpy, e_ldcS, e_dn, e_ag, z_pop, List.getElem?_cons_zero, List.getElem?_cons_succ, List.set_cons_zero, List.set_cons_succ, List.length_cons, List.length_nil, z_nol, Option.map_some, Option.toList_some, Option.toList_none, List.cons_append, List.nil_append, n_lit, n_m1, n_m2, n_m1lt, n_m1le, n_rem, n_div, n_out, n_cl, n_eq, n_le, n_lt, n_add, n_mul, n_sub, n_nle, n_yle, n_nlt, n_ylt, n_neN, z_lay, z_sz, z_str, z_stI, z_stL, z_stR, eq_self, ↓reduceIte, true_and, and_true, and_self, false_and, and_false, or_self, false_or, or_false, true_or, or_true, not_true_eq_false, not_false_eq_true, Nat.reduceLeDiff, Nat.reduceLT, Nat.reduceAdd, Nat.reduceEqDiff, Nat.reduceMul, Nat.reduceSub, Value.category, Nat.zero_le, beq_self_eq_true]
    · simp (disch := omega) only [bX12_comesOut_0, kX12_comesOut_91, kX12_comesOut_41, kX12_comesOut_84, kX12_comesOut_42, kX12_comesOut_0, h.1, mr_waits h, ml_waits h, h42, hx, q1, q2, q3, q4, z, em, Nat.add_sub_cancel, e_push, e_pushl, e_iload, e_lload, e_aload, e_istore, e_astore, e_lstore, e_iinc, e_iadd, e_isub, e_imul, e_iand, e_ior, e_ixor, e_ishl, e_ishr, e_iushr, e_idiv, e_irem, e_ladd, e_lsub, e_lmul, e_lcmp, e_mmax, e_mmin, e_i2l, e_l2i, e_i2b, e_i2c, e_dup, e_dup2, e_pop, e_icmp_eq, e_icmp_ne, e_icmp_lt, e_icmp_ge, e_icmp_gt, e_icmp_le, e_if_eq, e_if_ne, e_if_lt, e_if_ge, e_if_gt, e_if_le, e_getI, e_getR, e_putI, e_putZ, e_putR, e_iald, e_bald, e_zald, e_lald, e_aald, e_alen, e_iast, e_bast, e_zast, e_last, e_aast, e_iret, e_zret, e_lret, e_vret, e_obj, e_callV, e_callS, e_callT, e_acpy, e_ldcS, e_dn, e_ag, z_pop, List.getElem?_cons_zero, List.getElem?_cons_succ, List.set_cons_zero, List.set_cons_succ, List.length_cons, List.length_nil, z_nol, Option.map_some, Option.toList_some, Option.toList_none, List.cons_append, List.nil_append, n_lit, n_m1, n_m2, n_m1lt, n_m1le, n_rem, n_div, n_out, n_cl, n_eq, n_le, n_lt, n_add, n_mul, n_sub, n_nle, n_yle, n_nlt, n_ylt, n_neN, z_lay, z_sz, z_str, z_stI, z_stL, z_stR, eq_self, ↓reduceIte, true_and, and_true, and_self, false_and, and_false, or_self, false_or, or_false, true_or, or_true, not_true_eq_false, not_false_eq_true, Nat.reduceLeDiff, Nat.reduceLT, Nat.reduceAdd, Nat.reduceEqDiff, Nat.reduceMul, Nat.reduceSub, Value.category, Nat.zero_le, beq_self_eq_true]
theorem r_out0 {I : Nat → Nat → Int32} {L : Nat → Nat → Int64} {Z : zZ} {M s t : Nat} {y : Option Value} (h : isMod Z M) (hs : s < 2) (h42 : I M 42 = nI t) (ht : t < 60) (hx : t = 0 ∨ ∃ u, I (M + 26) (t - 1) = nI u ∧ (u = 6 ∨ (s = 1 ∧ (u = 8 ∨ u = 9)))) : bX12_comesOut_0 [some (Value.ref (M)), some (Value.int (nI (s))), y] [] (I, L, Z) = some (.inr (none, (I, L, Z))) := by
  by_cases g : t = 0
  · simp (disch := omega) only [bX12_comesOut_0, kX12_comesOut_91, kX12_comesOut_41, kX12_comesOut_84, kX12_comesOut_42, kX12_comesOut_0, h.1, h42, g, e_push, e_pushl, e_iload, e_lload, e_aload, e_istore, e_astore, e_lstore, e_iinc, e_iadd, e_isub, e_imul, e_iand, e_ior, e_ixor, e_ishl, e_ishr, e_iushr, e_idiv, e_irem, e_ladd, e_lsub, e_lmul, e_lcmp, e_mmax, e_mmin, e_i2l, e_l2i, e_i2b, e_i2c, e_dup, e_dup2, e_pop, e_icmp_eq, e_icmp_ne, e_icmp_lt, e_icmp_ge, e_icmp_gt, e_icmp_le, e_if_eq, e_if_ne, e_if_lt, e_if_ge, e_if_gt, e_if_le, e_getI, e_getR, e_putI, e_putZ, e_putR, e_iald, e_bald, e_zald, e_lald, e_aald, e_alen, e_iast, e_bast, e_zast, e_last, e_aast, e_iret, e_zret, e_lret, e_vret, e_obj, e_callV, e_callS, e_callT, e_acpy, e_ldcS, e_dn, e_ag, z_pop, List.getElem?_cons_zero, List.getElem?_cons_succ, List.set_cons_zero, List.set_cons_succ, List.length_cons, List.length_nil, z_nol, Option.map_some, Option.toList_some, Option.toList_none, List.cons_append, List.nil_append, n_lit, n_m1, n_m2, n_m1lt, n_m1le, n_rem, n_div, n_out, n_cl, n_eq, n_le, n_lt, n_add, n_mul, n_sub, n_nle, n_yle, n_nlt, n_ylt, n_neN, z_lay, z_sz, z_str, z_stI, z_stL, z_stR, eq_self, ↓reduceIte, true_and, and_true, and_self, false_and, and_false, or_self, false_or, or_false, true_or, or_true, not_true_eq_false, not_false_eq_true, Nat.reduceLeDiff, Nat.reduceLT, Nat.reduceAdd, Nat.reduceEqDiff, Nat.reduceMul, Nat.reduceSub, Value.category, Nat.zero_le, beq_self_eq_true]
  · rcases hx with z | ⟨u, z1, z2⟩
    · exact absurd z g
    · rcases z2 with w | ⟨w1, w2⟩
      · have q1 : (u = 6) = True := eq_true w
        have b : u < 100 := by omega
        simp (disch := omega) only [bX12_comesOut_0, kX12_comesOut_91, kX12_comesOut_41, kX12_comesOut_84, kX12_comesOut_42, kX12_comesOut_0, h.1, mr_waits h, ml_waits h, h42, z1, q1, e_push, e_pushl, e_iload, e_lload, e_aload, e_istore, e_astore, e_lstore, e_iinc, e_iadd, e_isub, e_imul, e_iand, e_ior, e_ixor, e_ishl, e_ishr, e_iushr, e_idiv, e_irem, e_ladd, e_lsub, e_lmul, e_lcmp, e_mmax, e_mmin, e_i2l, e_l2i, e_i2b, e_i2c, e_dup, e_dup2, e_pop, e_icmp_eq, e_icmp_ne, e_icmp_lt, e_icmp_ge, e_icmp_gt, e_icmp_le, e_if_eq, e_if_ne, e_if_lt, e_if_ge, e_if_gt, e_if_le, e_getI, e_getR, e_putI, e_putZ, e_putR, e_iald, e_bald, e_zald, e_lald, e_aald, e_alen, e_iast, e_bast, e_zast, e_last, e_aast, e_iret, e_zret, e_lret, e_vret, e_obj, e_callV, e_callS, e_callT, e_acpy, e_ldcS, e_dn, e_ag, z_pop, List.getElem?_cons_zero, List.getElem?_cons_succ, List.set_cons_zero, List.set_cons_succ, List.length_cons, List.length_nil, z_nol, Option.map_some, Option.toList_some, Option.toList_none, List.cons_append, List.nil_append, n_lit, n_m1, n_m2, n_m1lt, n_m1le, n_rem, n_div, n_out, n_cl, n_eq, n_le, n_lt, n_add, n_mul, n_sub, n_nle, n_yle, n_nlt, n_ylt, n_neN, z_lay, z_sz, z_str, z_stI, z_stL, z_stR, eq_self, ↓reduceIte, true_and, and_true, and_self, false_and, and_false, or_self, false_or, or_false, true_or, or_true, not_true_eq_false, not_false_eq_true, Nat.reduceLeDiff, Nat.reduceLT, Nat.reduceAdd, Nat.reduceEqDiff, Nat.reduceMul, Nat.reduceSub, Value.category, Nat.zero_le, beq_self_eq_true]
      · have q1 : (u = 6) = False := eq_false (by omega)
        have b : u < 100 := by omega
        rcases w2 with w | w
        · have q2 : (u = 8) = True := eq_true w
          simp (disch := omega) only [bX12_comesOut_0, kX12_comesOut_91, kX12_comesOut_41, kX12_comesOut_84, kX12_comesOut_42, kX12_comesOut_0, h.1, mr_waits h, ml_waits h, h42, z1, q1, q2, w1, e_push, e_pushl, e_iload, e_lload, e_aload, e_istore, e_astore, e_lstore, e_iinc, e_iadd, e_isub, e_imul, e_iand, e_ior, e_ixor, e_ishl, e_ishr, e_iushr, e_idiv, e_irem, e_ladd, e_lsub, e_lmul, e_lcmp, e_mmax, e_mmin, e_i2l, e_l2i, e_i2b, e_i2c, e_dup, e_dup2, e_pop, e_icmp_eq, e_icmp_ne, e_icmp_lt, e_icmp_ge, e_icmp_gt, e_icmp_le, e_if_eq, e_if_ne, e_if_lt, e_if_ge, e_if_gt, e_if_le, e_getI, e_getR, e_putI, e_putZ, e_putR, e_iald, e_bald, e_zald, e_lald, e_aald, e_alen, e_iast, e_bast, e_zast, e_last, e_aast, e_iret, e_zret, e_lret, e_vret, e_obj, e_callV, e_callS, e_callT, e_acpy, e_ldcS, e_dn, e_ag, z_pop, List.getElem?_cons_zero, List.getElem?_cons_succ, List.set_cons_zero, List.set_cons_succ, List.length_cons, List.length_nil, z_nol, Option.map_some, Option.toList_some, Option.toList_none, List.cons_append, List.nil_append, n_lit, n_m1, n_m2, n_m1lt, n_m1le, n_rem, n_div, n_out, n_cl, n_eq, n_le, n_lt, n_add, n_mul, n_sub, n_nle, n_yle, n_nlt, n_ylt, n_neN, z_lay, z_sz, z_str, z_stI, z_stL, z_stR, eq_self, ↓reduceIte, true_and, and_true, and_self, false_and, and_false, or_self, false_or, or_false, true_or, or_true, not_true_eq_false, not_false_eq_true, Nat.reduceLeDiff, Nat.reduceLT, Nat.reduceAdd, Nat.reduceEqDiff, Nat.reduceMul, Nat.reduceSub, Value.category, Nat.zero_le, beq_self_eq_true]
        · have q2 : (u = 8) = False := eq_false (by omega)
          have q3 : (u = 9) = True := eq_true w
          simp (disch := omega) only [bX12_comesOut_0, kX12_comesOut_91, kX12_comesOut_41, kX12_comesOut_84, kX12_comesOut_42, kX12_comesOut_0, h.1, mr_waits h, ml_waits h, h42, z1, q1, q2, q3, w1, e_push, e_pushl, e_iload, e_lload, e_aload, e_istore, e_astore, e_lstore, e_iinc, e_iadd, e_isub, e_imul, e_iand, e_ior, e_ixor, e_ishl, e_ishr, e_iushr, e_idiv, e_irem, e_ladd, e_lsub, e_lmul, e_lcmp, e_mmax, e_mmin, e_i2l, e_l2i, e_i2b, e_i2c, e_dup, e_dup2, e_pop, e_icmp_eq, e_icmp_ne, e_icmp_lt, e_icmp_ge, e_icmp_gt, e_icmp_le, e_if_eq, e_if_ne, e_if_lt, e_if_ge, e_if_gt, e_if_le, e_getI, e_getR, e_putI, e_putZ, e_putR, e_iald, e_bald, e_zald, e_lald, e_aald, e_alen, e_iast, e_bast, e_zast, e_last, e_aast, e_iret, e_zret, e_lret, e_vret, e_obj, e_callV, e_callS, e_callT, e_acpy, e_ldcS, e_dn, e_ag, z_pop, List.getElem?_cons_zero, List.getElem?_cons_succ, List.set_cons_zero, List.set_cons_succ, List.length_cons, List.length_nil, z_nol, Option.map_some, Option.toList_some, Option.toList_none, List.cons_append, List.nil_append, n_lit, n_m1, n_m2, n_m1lt, n_m1le, n_rem, n_div, n_out, n_cl, n_eq, n_le, n_lt, n_add, n_mul, n_sub, n_nle, n_yle, n_nlt, n_ylt, n_neN, z_lay, z_sz, z_str, z_stI, z_stL, z_stR, eq_self, ↓reduceIte, true_and, and_true, and_self, false_and, and_false, or_self, false_or, or_false, true_or, or_true, not_true_eq_false, not_false_eq_true, Nat.reduceLeDiff, Nat.reduceLT, Nat.reduceAdd, Nat.reduceEqDiff, Nat.reduceMul, Nat.reduceSub, Value.category, Nat.zero_le, beq_self_eq_true]
theorem r_outs {L : Nat → Nat → Int64} {Z : zZ} {M s t u : Nat} {st : Nat → Nat} (h : isMod Z M) (hs : s < 2) (hu : u ≤ 840) : ∀ m c (J : Nat → Nat → Int32) y, J M 42 = nI (t + m) → t + m < 60 → J M 38 = nI c → c + m ≤ u → (∀ k, k < m → J (M + 26) (t + k) = nI (st k) ∧ ((st k = 8 ∧ s = 0) ∨ (st k = 9 ∧ s = 0) ∨ st k = 10 ∨ st k = 15)) → (t = 0 ∨ ∃ u, J (M + 26) (t - 1) = nI u ∧ (u = 6 ∨ (s = 1 ∧ (u = 8 ∨ u = 9)))) → ∃ J', q_lp bX12_comesOut_0 [some (Value.ref (M)), some (Value.int (nI (s))), y] [] (J, L, Z) = some (none, (J', L, Z)) ∧ J' M 42 = nI t ∧ J' M 38 = nI (c + m) ∧ (∀ k, k < m → J' (M + 24) (c + k) = nI (opC (st (m - 1 - k))) ∧ J' (M + 25) (c + k) = nI 0) ∧ frm (pO M u c) J J' := by
  intro m
  induction m with
  | zero =>
    intro c J y h42 ht h38 hc hk hx
    refine ⟨J, ?_, h42, h38, fun k hk => absurd hk (Nat.not_lt_zero _), frm.refl _ _⟩
    rw [q_lp_eq, r_out0 h hs h42 (by omega) hx]
  | succ m ih =>
    intro c J y h42 ht h38 hc hk hx
    obtain ⟨k1, k2⟩ := hk m (by omega)
    have st1 := r_out1 (I := J) (L := L) (y := y) h hs (show J M 42 = nI (t + m + 1) from h42) (by omega) h38 (by omega) k1 k2
    have f1 : frm (pO M u c) J (z_up (z_up (z_up (z_up J M 42 (nI (t + m))) (M + 24) c (nI (opC (st m)))) (M + 25) c (nI 0)) M 38 (nI (c + 1))) := ((((frm.refl _ _).up (by unfold pO; omega)).up (by unfold pO; omega)).up (by unfold pO; omega)).up (by unfold pO; omega)
    have e26 : ∀ k, z_up (z_up (z_up (z_up J M 42 (nI (t + m))) (M + 24) c (nI (opC (st m)))) (M + 25) c (nI 0)) M 38 (nI (c + 1)) (M + 26) k = J (M + 26) k := fun k => f1 _ _ (by unfold pO; omega)
    have e24 : z_up (z_up (z_up (z_up J M 42 (nI (t + m))) (M + 24) c (nI (opC (st m)))) (M + 25) c (nI 0)) M 38 (nI (c + 1)) (M + 24) c = nI (opC (st m)) := by rw [zup_off (by omega), zup_off (by omega), zup_at]
    have e25 : z_up (z_up (z_up (z_up J M 42 (nI (t + m))) (M + 24) c (nI (opC (st m)))) (M + 25) c (nI 0)) M 38 (nI (c + 1)) (M + 25) c = nI 0 := by rw [zup_off (by omega), zup_at]
    have e42 : z_up (z_up (z_up (z_up J M 42 (nI (t + m))) (M + 24) c (nI (opC (st m)))) (M + 25) c (nI 0)) M 38 (nI (c + 1)) M 42 = nI (t + m) := by rw [zup_ne (by omega), zup_off (by omega), zup_off (by omega), zup_at]
    have e38 : z_up (z_up (z_up (z_up J M 42 (nI (t + m))) (M + 24) c (nI (opC (st m)))) (M + 25) c (nI 0)) M 38 (nI (c + 1)) M 38 = nI (c + 1) := zup_at
    generalize z_up (z_up (z_up (z_up J M 42 (nI (t + m))) (M + 24) c (nI (opC (st m)))) (M + 25) c (nI 0)) M 38 (nI (c + 1)) = J1 at st1 f1 e26 e24 e25 e42 e38
    obtain ⟨J', r1, r2, r3, r4, r5⟩ := ih (c + 1) J1 (some (.int (nI (st m)))) e42 (by omega) e38 (by omega) (fun k hk' => by rw [e26]; exact hk k (by omega)) (by rw [e26]; exact hx)
    refine ⟨J', ?_, r2, by rw [r3]; congr 1; omega, fun k hk' => ?_, f1.trans (r5.weak (fun a k => by unfold pO; omega))⟩
    · rw [q_lp_eq, st1]
      exact r1
    · cases k with
      | zero =>
        have z1 := r5 (M + 24) c (by unfold pO; omega)
        have z2 := r5 (M + 25) c (by unfold pO; omega)
        exact ⟨z1.trans e24, z2.trans e25⟩
      | succ k =>
        have z := r4 k (by omega)
        rw [show c + 1 + k = c + (k + 1) by omega, show m - 1 - k = m + 1 - 1 - (k + 1) by omega] at z
        exact z
/-! pieces of code -/
theorem seg_app {J : Nat → Nat → Int32} {M p : Nat} {c d : List (Nat × Nat)} (h1 : segR J M p c) (h2 : segR J M (p + c.length) d) : segR J M p (c ++ d) := by
  refine ⟨by rw [List.length_append]; have := h2.1; omega, fun k q hq => ?_⟩
  rw [List.getElem?_append] at hq
  by_cases g : k < c.length
  · rw [if_pos g] at hq
    exact h1.2 k q hq
  · rw [if_neg g] at hq
    have z := h2.2 _ q hq
    rw [show p + c.length + (k - c.length) = p + k by omega] at z
    exact z
theorem seg_nil {J : Nat → Nat → Int32} {M p : Nat} (h : p ≤ 840) : segR J M p [] := ⟨h, fun k q hq => by cases hq⟩
theorem seg_one {J : Nat → Nat → Int32} {M p a b : Nat} (h : p < 840) (h1 : J (M + 24) p = nI a) (h2 : J (M + 25) p = nI b) : segR J M p [(a, b)] := by
  refine ⟨h, fun k q hq => ?_⟩
  cases k with
  | zero =>
    cases hq
    exact ⟨h1, h2⟩
  | succ k => cases hq
theorem seg_frm {P : Nat → Nat → Prop} {I J : Nat → Nat → Int32} {M p : Nat} {c : List (Nat × Nat)} (h : segR I M p c) (hf : frm P I J) (hP : ∀ k, k < p + c.length → ¬ P (M + 24) k ∧ ¬ P (M + 25) k) : segR J M p c := by
  refine ⟨h.1, fun k q hq => ?_⟩
  have hk : k < c.length := (List.getElem?_eq_some_iff.mp hq).1
  rw [hf _ _ (hP (p + k) (by omega)).1, hf _ _ (hP (p + k) (by omega)).2]
  exact h.2 k q hq
/-! what waits of one expression -/
def pdL (o : Option Nat) : List (Nat × Nat) := match o with
  | none => []
  | some op => [(op, 0)]
def s1 (S : Option (List (Nat × Nat) × Nat)) : List (Nat × Nat) := match S with
  | none => []
  | some q => q.1
def nO {α : Type} (o : Option α) : Nat := match o with
  | none => 0
  | some _ => 1
def xT (J : Nat → Nat → Int32) (M o t c : Nat) (S : Option (List (Nat × Nat) × Nat)) (P : List (Nat × Nat)) (d : Option Nat) : Prop := J M 12 = nI o ∧ J M 42 = nI (t + nO S + nO d) ∧ J M 38 = nI (c + (s1 S).length + P.length) ∧ segR J M c (s1 S ++ P) ∧ (∀ q, S = some q → (q.2 = 2 ∨ q.2 = 3) ∧ J (M + 26) t = nI (opR q.2)) ∧ (∀ op, d = some op → (op = 4 ∨ op = 5) ∧ J (M + 26) (t + nO S) = nI (opR op)) ∧ (t = 0 ∨ J (M + 26) (t - 1) = nI 6)
theorem len_pd {d : Option Nat} : (pdL d).length = nO d := by cases d <;> rfl
theorem nO_le {α : Type} {o : Option α} : nO o ≤ 1 := by
  cases o with
  | none => exact Nat.zero_le _
  | some x => exact Nat.le_refl _
theorem seg_codes {J : Nat → Nat → Int32} {M c : Nat} {d : Option Nat} (hc : c + 1 ≤ 840) (h : ∀ op, d = some op → J (M + 24) c = nI op ∧ J (M + 25) c = nI 0) : segR J M c (pdL d) := by
  cases d with
  | none => exact seg_nil (by omega)
  | some op => exact seg_one (by omega) (h op rfl).1 (h op rfl).2
/-- all come out -/
theorem r_outF {I : Nat → Nat → Int32} {L : Nat → Nat → Int64} {Z : zZ} {M o t c u : Nat} {S : Option (List (Nat × Nat) × Nat)} {P : List (Nat × Nat)} {d : Option Nat} (h : isMod Z M) (hx : xT I M o t c S P d) (ht : t + 2 < 60) (hu : u ≤ 840) (hc : c + (s1 S).length + P.length + 2 ≤ u) : ∃ J, fX12_comesOut [.ref M, .int (nI 0)] (I, L, Z) = some (none, (J, L, Z)) ∧ J M 42 = nI t ∧ J M 38 = nI (c + (sJoin S (P ++ pdL d)).length) ∧ segR J M c (sJoin S (P ++ pdL d)) ∧ frm (pO M u (c + (s1 S).length + P.length)) I J := by
  obtain ⟨x1, x2, x3, x4, x5, x6, x7⟩ := hx
  have x7' : t = 0 ∨ ∃ u, I (M + 26) (t - 1) = nI u ∧ (u = 6 ∨ (0 = 1 ∧ (u = 8 ∨ u = 9))) := x7.elim Or.inl (fun z => Or.inr ⟨6, z, Or.inl rfl⟩)
  have run : ∀ J, q_lp bX12_comesOut_0 [some (Value.ref (M)), some (Value.int (nI (0))), none] [] (I, L, Z) = some (none, (J, L, Z)) → fX12_comesOut [.ref M, .int (nI 0)] (I, L, Z) = some (none, (J, L, Z)) := fun J e => e
  have keep : ∀ J, frm (pO M u (c + (s1 S).length + P.length)) I J → segR J M c (s1 S ++ P) := fun J hf => seg_frm x4 hf (fun k hk => by rw [List.length_append] at hk; unfold pO; omega)
  cases S with
  | none =>
    cases d with
    | none =>
      obtain ⟨J, r1, r2, r3, r4, r5⟩ := r_outs (L := L) (s := 0) (t := t) (st := fun _ => 0) h (by decide) hu 0 _ I none x2 (by omega) x3 (by omega) (fun k hk => absurd hk (Nat.not_lt_zero _)) x7'
      refine ⟨J, run J r1, r2, ?_, ?_, r5⟩
      · rw [r3]
        show nI (c + 0 + P.length + 0) = nI (c + (P ++ []).length)
        rw [List.append_nil]
        rfl
      · have k := keep J r5
        show segR J M c (P ++ [])
        rw [List.append_nil]
        exact k
    | some op =>
      obtain ⟨p1, p2⟩ := x6 op rfl
      have hx : c + 0 + P.length + 2 ≤ u := hc
      obtain ⟨J, r1, r2, r3, r4, r5⟩ := r_outs (L := L) (s := 0) (t := t) (st := fun _ => opR op) h (by decide) hu 1 _ I none x2 (by omega) x3 (by show c + 0 + P.length + 1 ≤ u; omega) (fun k hk => by
        have e : k = 0 := by omega
        subst e
        exact ⟨p2, by rcases p1 with rfl | rfl <;> decide⟩) x7'
      have e4 := r4 0 (by decide)
      have eo : opC (opR op) = op := by rcases p1 with rfl | rfl <;> rfl
      refine ⟨J, run J r1, r2, ?_, ?_, r5⟩
      · rw [r3]
        show nI (c + 0 + P.length + 1) = nI (c + (P ++ [(op, 0)]).length)
        rw [List.length_append]
        show nI (c + 0 + P.length + 1) = nI (c + (P.length + 1))
        congr 1
      · have k : segR J M c P := keep J r5
        refine seg_app k (seg_one (by omega) ?_ ?_)
        · have z := e4.1
          rw [eo] at z
          exact z
        · exact e4.2
  | some q =>
    obtain ⟨q1, q2⟩ := x5 q rfl
    have eq : opC (opR q.2) = q.2 := by rcases q1 with e | e <;> rw [e] <;> rfl
    have hx : c + q.1.length + P.length + 2 ≤ u := hc
    cases d with
    | none =>
      obtain ⟨J, r1, r2, r3, r4, r5⟩ := r_outs (L := L) (s := 0) (t := t) (st := fun _ => opR q.2) h (by decide) hu 1 _ I none x2 (by omega) x3 (by show c + q.1.length + P.length + 1 ≤ u; omega) (fun k hk => by
        have e : k = 0 := by omega
        subst e
        exact ⟨q2, by rcases q1 with e | e <;> rw [e] <;> decide⟩) x7'
      have e4 := r4 0 (by decide)
      refine ⟨J, run J r1, r2, ?_, ?_, r5⟩
      · rw [r3]
        show nI (c + q.1.length + P.length + 1) = nI (c + (q.1 ++ (P ++ []) ++ [(q.2, 0)]).length)
        rw [List.append_nil, List.length_append, List.length_append]
        show nI (c + q.1.length + P.length + 1) = nI (c + (q.1.length + P.length + 1))
        congr 1
        omega
      · have k : segR J M c (q.1 ++ P) := keep J r5
        show segR J M c (q.1 ++ (P ++ []) ++ [(q.2, 0)])
        rw [List.append_nil]
        refine seg_app k (seg_one (by rw [List.length_append]; omega) ?_ ?_)
        · have z := e4.1
          rw [eq] at z
          rw [List.length_append, show c + (q.1.length + P.length) = c + q.1.length + P.length + 0 by omega]
          exact z
        · have z := e4.2
          rw [List.length_append, show c + (q.1.length + P.length) = c + q.1.length + P.length + 0 by omega]
          exact z
    | some op =>
      obtain ⟨p1, p2⟩ := x6 op rfl
      have eo : opC (opR op) = op := by rcases p1 with rfl | rfl <;> rfl
      obtain ⟨J, r1, r2, r3, r4, r5⟩ := r_outs (L := L) (s := 0) (t := t) (st := fun k => if k = 0 then opR q.2 else opR op) h (by decide) hu 2 _ I none x2 (by omega) x3 (by show c + q.1.length + P.length + 2 ≤ u; omega) (fun k hk => by
        rcases (show k = 0 ∨ k = 1 by omega) with e | e
        · subst e
          refine ⟨q2, ?_⟩
          show (opR q.2 = 8 ∧ 0 = 0) ∨ (opR q.2 = 9 ∧ 0 = 0) ∨ opR q.2 = 10 ∨ opR q.2 = 15
          rcases q1 with e | e <;> rw [e] <;> decide
        · subst e
          refine ⟨p2, ?_⟩
          show (opR op = 8 ∧ 0 = 0) ∨ (opR op = 9 ∧ 0 = 0) ∨ opR op = 10 ∨ opR op = 15
          rcases p1 with e | e <;> rw [e] <;> decide) x7'
      have e4 := r4 0 (by decide)
      have e5 := r4 1 (by decide)
      have e4 : J (M + 24) (c + q.1.length + P.length + 0) = nI (opC (opR op)) ∧ J (M + 25) (c + q.1.length + P.length + 0) = nI 0 := e4
      have e5 : J (M + 24) (c + q.1.length + P.length + 1) = nI (opC (opR q.2)) ∧ J (M + 25) (c + q.1.length + P.length + 1) = nI 0 := e5
      rw [eo] at e4
      rw [eq] at e5
      refine ⟨J, run J r1, r2, ?_, ?_, r5⟩
      · rw [r3]
        show nI (c + q.1.length + P.length + 2) = nI (c + (q.1 ++ (P ++ [(op, 0)]) ++ [(q.2, 0)]).length)
        rw [List.length_append, List.length_append, List.length_append]
        show nI (c + q.1.length + P.length + 2) = nI (c + (q.1.length + (P.length + 1) + 1))
        congr 1
        omega
      · have k : segR J M c (q.1 ++ P) := keep J r5
        show segR J M c (q.1 ++ (P ++ [(op, 0)]) ++ [(q.2, 0)])
        rw [← List.append_assoc]
        refine seg_app (seg_app k (seg_one (by rw [List.length_append]; omega) ?_ ?_)) (seg_one ?_ ?_ ?_)
        · rw [List.length_append, show c + (q.1.length + P.length) = c + q.1.length + P.length + 0 by omega]
          exact e4.1
        · rw [List.length_append, show c + (q.1.length + P.length) = c + q.1.length + P.length + 0 by omega]
          exact e4.2
        · rw [List.length_append, List.length_append]
          show c + (q.1.length + P.length + 1) < 840
          omega
        · rw [List.length_append, List.length_append]
          show J (M + 24) (c + (q.1.length + P.length + 1)) = _
          rw [show c + (q.1.length + P.length + 1) = c + q.1.length + P.length + 1 by omega]
          exact e5.1
        · rw [List.length_append, List.length_append]
          show J (M + 25) (c + (q.1.length + P.length + 1)) = _
          rw [show c + (q.1.length + P.length + 1) = c + q.1.length + P.length + 1 by omega]
          exact e5.2
/-- only what binds tighter comes out -/
theorem r_outT {I : Nat → Nat → Int32} {L : Nat → Nat → Int64} {Z : zZ} {M o t c u : Nat} {S : Option (List (Nat × Nat) × Nat)} {P : List (Nat × Nat)} {d : Option Nat} (h : isMod Z M) (hx : xT I M o t c S P d) (ht : t + 2 < 60) (hu : u ≤ 840) (hc : c + (s1 S).length + P.length + 2 ≤ u) : ∃ J, fX12_comesOut [.ref M, .int (nI 1)] (I, L, Z) = some (none, (J, L, Z)) ∧ xT J M o t c S (P ++ pdL d) none ∧ frm (pO M u (c + (s1 S).length + P.length)) I J := by
  obtain ⟨x1, x2, x3, x4, x5, x6, x7⟩ := hx
  have stop : t + nO S = 0 ∨ ∃ u, I (M + 26) (t + nO S - 1) = nI u ∧ (u = 6 ∨ (1 = 1 ∧ (u = 8 ∨ u = 9))) := by
    cases S with
    | none =>
      show t + 0 = 0 ∨ _
      exact x7.elim Or.inl (fun z => Or.inr ⟨6, z, Or.inl rfl⟩)
    | some q =>
      obtain ⟨q1, q2⟩ := x5 q rfl
      exact Or.inr ⟨opR q.2, q2, Or.inr ⟨rfl, by rcases q1 with e | e <;> rw [e] <;> decide⟩⟩
  have nS := nO_le (o := S)
  have nd := nO_le (o := d)
  have key : ∃ J, q_lp bX12_comesOut_0 [some (Value.ref (M)), some (Value.int (nI (1))), none] [] (I, L, Z) = some (none, (J, L, Z)) ∧ J M 42 = nI (t + nO S) ∧ J M 38 = nI (c + (s1 S).length + P.length + nO d) ∧ segR J M (c + (s1 S).length + P.length) (pdL d) ∧ frm (pO M u (c + (s1 S).length + P.length)) I J := by
    cases d with
    | none =>
      obtain ⟨J, r1, r2, r3, r4, r5⟩ := r_outs (L := L) (s := 1) (t := t + nO S) (st := fun _ => 0) h (by decide) hu 0 _ I none x2 (by omega) x3 (by omega) (fun k hk => absurd hk (Nat.not_lt_zero _)) stop
      exact ⟨J, r1, r2, r3, seg_nil (by omega), r5⟩
    | some op =>
      obtain ⟨p1, p2⟩ := x6 op rfl
      have eo : opC (opR op) = op := by rcases p1 with rfl | rfl <;> rfl
      obtain ⟨J, r1, r2, r3, r4, r5⟩ := r_outs (L := L) (s := 1) (t := t + nO S) (st := fun _ => opR op) h (by decide) hu 1 _ I none x2 (by omega) x3 (by omega) (fun k hk => by
        have e : k = 0 := by omega
        subst e
        exact ⟨p2, by rcases p1 with rfl | rfl <;> decide⟩) stop
      have e4 := r4 0 (by decide)
      rw [eo] at e4
      exact ⟨J, r1, r2, r3, seg_one (by omega) e4.1 e4.2, r5⟩
  obtain ⟨J, r1, r2, r3, r4, r5⟩ := key
  have k : segR J M c (s1 S ++ P) := seg_frm x4 r5 (fun k hk => by rw [List.length_append] at hk; unfold pO; omega)
  refine ⟨J, r1, ⟨?_, r2, ?_, ?_, fun q hq => ?_, fun op hop => (nomatch hop), ?_⟩, r5⟩
  · rw [r5 _ _ (by unfold pO; omega)]; exact x1
  · rw [r3, List.length_append, len_pd]
    congr 1
    omega
  · rw [← List.append_assoc]
    refine seg_app k ?_
    rw [List.length_append, ← Nat.add_assoc]
    exact r4
  · rw [r5 _ _ (by unfold pO; omega)]; exact x5 q hq
  · rw [r5 _ _ (by unfold pO; omega)]; exact x7
