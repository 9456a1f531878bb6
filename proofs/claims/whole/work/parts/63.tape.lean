--deps: 54.lazy 54.mem 55.mem2 56.rmem 57.spec 58.inv 59.keep 60.fin 61.ops2 62.ops3
/-! the tape: feed, back, place; tell, forget -/
def bvC (w : Int32) (s : Nat) : Int32 := vp_nar .byte ((w.toUInt32 >>> ((nI s).toUInt32 &&& Int32.toUInt32 (nI 31))).toInt32.toInt8.toInt32)
theorem bvC_def (w : Int32) (s : Nat) : vp_nar .byte ((w.toUInt32 >>> ((nI s).toUInt32 &&& Int32.toUInt32 (nI 31))).toInt32.toInt8.toInt32) = bvC w s := rfl
theorem bv_eq (w : Int32) {s : Nat} (hs : s = 0 ∨ s = 8 ∨ s = 16 ∨ s = 24) : vp_nar .byte ((w >>> (nI s &&& nI 31)).toInt8.toInt32) = bvC w s := by
  unfold bvC
  congr 2
  apply Int8.toBitVec_inj.mp
  rcases hs with rfl | rfl | rfl | rfl
  · show (w.toBitVec.sshiftRight 0).signExtend 8 = ((w.toBitVec >>> 0).signExtend 8)
    ext i hi
    simp
  · show (w.toBitVec.sshiftRight 8).signExtend 8 = ((w.toBitVec >>> 8).signExtend 8)
    ext i hi
    have h1 : i < 32 := by omega
    simp [BitVec.getElem_signExtend, BitVec.getElem_sshiftRight, h1]
    rw [dif_pos (by omega), BitVec.getLsbD_eq_getElem (by omega)]
  · show (w.toBitVec.sshiftRight 16).signExtend 8 = ((w.toBitVec >>> 16).signExtend 8)
    ext i hi
    have h1 : i < 32 := by omega
    simp [BitVec.getElem_signExtend, BitVec.getElem_sshiftRight, h1]
    rw [dif_pos (by omega), BitVec.getLsbD_eq_getElem (by omega)]
  · show (w.toBitVec.sshiftRight 24).signExtend 8 = ((w.toBitVec >>> 24).signExtend 8)
    ext i hi
    have h1 : i < 32 := by omega
    simp [BitVec.getElem_signExtend, BitVec.getElem_sshiftRight, h1]
    rw [dif_pos (by omega), BitVec.getLsbD_eq_getElem (by omega)]
/-- four bytes laid down, and the count -/
def tp4 (I : Nat → Nat → Int32) (b a f m : Nat) (w : Int32) : Nat → Nat → Int32 := z_up (z_up (z_up (z_up (z_up (z_up (z_up (z_up I b m (bvC w 24)) a f (nI (m + 1))) b (m + 1) (bvC w 16)) a f (nI (m + 2))) b (m + 2) (bvC w 8)) a f (nI (m + 3))) b (m + 3) (bvC w 0)) a f (nI (m + 4))
/-- four bytes behind the n-th -/
def wdI (I : Nat → Nat → Int32) (b n : Nat) (w : Int32) (k : Nat) : Int32 := if k < n then I b k else bvC w (24 - 8 * (k - n))
theorem p_append6 {I : Nat → Nat → Int32} {L : Nat → Nat → Int64} {Z : zZ} {B tx m : Nat} {w : Int32} (h : isCls Z B tx) (hn : I (B + 1) 1 = nI m) (h4 : m + 4 ≤ 2000) :
    ∃ I', fX6_append [.ref (B + 1), .int w] (I, L, Z) = some (none, (I', L, Z)) ∧ I' (B + 1) 1 = nI (m + 4) ∧ (∀ k, k < m + 4 → I' (B + 2) k = wdI I (B + 2) m w k) ∧ ∀ q, q ≠ B + 1 → q ≠ B + 2 → I' q = I q := by
  have st : ∀ (J : Nat → Nat → Int32) (s t k : Nat), J (B + 1) 1 = nI k → k < 2000 → s = t + 8 → s < 32 → bX6_append_3 [some (.ref ((B + 1))), some (.int (w)), some (.int (nI (s)))] [] (J, L, Z) = some (.inl ([some (.ref ((B + 1))), some (.int (w)), some (.int (nI (t)))], (z_up (z_up J (B + 2) k (bvC w s)) (B + 1) 1 (nI (k + 1)), L, Z))) := by
    intro J s t k hJ hk hs hs2
    subst hs
    have e : nI (t + 8) + -nI 8 = nI t := by rw [← Int32.sub_eq_add_neg, n_sub (by omega), Nat.add_sub_cancel]
    have w1 : z_up J (B + 2) k (bvC w (t + 8)) (B + 1) 1 = nI k := by rw [zup_off (by omega), hJ]
    simp (disch := omega) only [bX6_append_3, kX6_append_40, cl_1 h, cr_1_0 h, cl_2 h, hJ, e, bvC_def, w1, e_push, e_pushl, e_iload, e_lload, e_aload, e_istore, e_astore, e_lstore, e_iinc, e_iadd, e_isub, e_imul, e_iand, e_ior, e_ixor, e_ishl, e_ishr, e_iushr, e_idiv, e_irem, e_ladd, e_lsub, e_lmul, e_lcmp, e_mmax, e_mmin, e_i2l, e_l2i, e_i2b, e_i2c, e_dup, e_dup2, e_pop, e_icmp_eq, e_icmp_ne, e_icmp_lt, e_icmp_ge, e_icmp_gt, e_icmp_le, e_if_eq, e_if_ne, e_if_lt, e_if_ge, e_if_gt, e_if_le, e_getI, e_getR, e_putI, e_putZ, e_putR, e_iald, e_bald, e_zald, e_lald, e_aald, e_alen, e_iast, e_bast, e_zast, e_last, e_aast, e_iret, e_zret, e_lret, e_vret, e_obj, e_callV, e_callS, e_callT, e_acpy, e_ldcS, e_dn, e_ag, z_pop, List.getElem?_cons_zero, List.getElem?_cons_succ, List.set_cons_zero, List.set_cons_succ, List.length_cons, List.length_nil, z_nol, Option.map_some, Option.toList_some, Option.toList_none, List.cons_append, List.nil_append, n_lit, n_m1, n_m2, n_m1lt, n_m1le, n_rem, n_div, n_out, n_cl, n_eq, n_le, n_lt, n_add, n_mul, n_sub, n_nle, n_yle, n_nlt, n_ylt, n_neN, z_lay, z_sz, z_str, z_stI, z_stL, z_stR, eq_self, ↓reduceIte, true_and, and_true, and_self, false_and, and_false, or_self, false_or, or_false, true_or, or_true, not_true_eq_false, not_false_eq_true, Nat.reduceLeDiff, Nat.reduceLT, Nat.reduceAdd, Nat.reduceEqDiff, Nat.reduceMul, Nat.reduceSub, Value.category, Nat.zero_le, beq_self_eq_true]
  have st0 : ∀ (J : Nat → Nat → Int32) (k : Nat), J (B + 1) 1 = nI k → k < 2000 → bX6_append_3 [some (.ref ((B + 1))), some (.int (w)), some (.int (nI (0)))] [] (J, L, Z) = some (.inl ([some (.ref ((B + 1))), some (.int (w)), some (.int (-nI 8))], (z_up (z_up J (B + 2) k (bvC w 0)) (B + 1) 1 (nI (k + 1)), L, Z))) := by
    intro J k hJ hk
    have e : nI 0 + -nI 8 = -nI 8 := by decide
    have w1 : z_up J (B + 2) k (bvC w 0) (B + 1) 1 = nI k := by rw [zup_off (by omega), hJ]
    simp (disch := omega) only [bX6_append_3, kX6_append_40, cl_1 h, cr_1_0 h, cl_2 h, hJ, e, bvC_def, w1, e_push, e_pushl, e_iload, e_lload, e_aload, e_istore, e_astore, e_lstore, e_iinc, e_iadd, e_isub, e_imul, e_iand, e_ior, e_ixor, e_ishl, e_ishr, e_iushr, e_idiv, e_irem, e_ladd, e_lsub, e_lmul, e_lcmp, e_mmax, e_mmin, e_i2l, e_l2i, e_i2b, e_i2c, e_dup, e_dup2, e_pop, e_icmp_eq, e_icmp_ne, e_icmp_lt, e_icmp_ge, e_icmp_gt, e_icmp_le, e_if_eq, e_if_ne, e_if_lt, e_if_ge, e_if_gt, e_if_le, e_getI, e_getR, e_putI, e_putZ, e_putR, e_iald, e_bald, e_zald, e_lald, e_aald, e_alen, e_iast, e_bast, e_zast, e_last, e_aast, e_iret, e_zret, e_lret, e_vret, e_obj, e_callV, e_callS, e_callT, e_acpy, e_ldcS, e_dn, e_ag, z_pop, List.getElem?_cons_zero, List.getElem?_cons_succ, List.set_cons_zero, List.set_cons_succ, List.length_cons, List.length_nil, z_nol, Option.map_some, Option.toList_some, Option.toList_none, List.cons_append, List.nil_append, n_lit, n_m1, n_m2, n_m1lt, n_m1le, n_rem, n_div, n_out, n_cl, n_eq, n_le, n_lt, n_add, n_mul, n_sub, n_nle, n_yle, n_nlt, n_ylt, n_neN, z_lay, z_sz, z_str, z_stI, z_stL, z_stR, eq_self, ↓reduceIte, true_and, and_true, and_self, false_and, and_false, or_self, false_or, or_false, true_or, or_true, not_true_eq_false, not_false_eq_true, Nat.reduceLeDiff, Nat.reduceLT, Nat.reduceAdd, Nat.reduceEqDiff, Nat.reduceMul, Nat.reduceSub, Value.category, Nat.zero_le, beq_self_eq_true]
  have en : ∀ (J : Nat → Nat → Int32), bX6_append_3 [some (.ref ((B + 1))), some (.int (w)), some (.int (-nI 8))] [] (J, L, Z) = some (.inr (none, (J, L, Z))) := by
    intro J
    have e : (-nI 8 < nI 0) = True := by decide
    simp (disch := omega) only [bX6_append_3, kX6_append_46, e, e_push, e_pushl, e_iload, e_lload, e_aload, e_istore, e_astore, e_lstore, e_iinc, e_iadd, e_isub, e_imul, e_iand, e_ior, e_ixor, e_ishl, e_ishr, e_iushr, e_idiv, e_irem, e_ladd, e_lsub, e_lmul, e_lcmp, e_mmax, e_mmin, e_i2l, e_l2i, e_i2b, e_i2c, e_dup, e_dup2, e_pop, e_icmp_eq, e_icmp_ne, e_icmp_lt, e_icmp_ge, e_icmp_gt, e_icmp_le, e_if_eq, e_if_ne, e_if_lt, e_if_ge, e_if_gt, e_if_le, e_getI, e_getR, e_putI, e_putZ, e_putR, e_iald, e_bald, e_zald, e_lald, e_aald, e_alen, e_iast, e_bast, e_zast, e_last, e_aast, e_iret, e_zret, e_lret, e_vret, e_obj, e_callV, e_callS, e_callT, e_acpy, e_ldcS, e_dn, e_ag, z_pop, List.getElem?_cons_zero, List.getElem?_cons_succ, List.set_cons_zero, List.set_cons_succ, List.length_cons, List.length_nil, z_nol, Option.map_some, Option.toList_some, Option.toList_none, List.cons_append, List.nil_append, n_lit, n_m1, n_m2, n_m1lt, n_m1le, n_rem, n_div, n_out, n_cl, n_eq, n_le, n_lt, n_add, n_mul, n_sub, n_nle, n_yle, n_nlt, n_ylt, n_neN, z_lay, z_sz, z_str, z_stI, z_stL, z_stR, eq_self, ↓reduceIte, true_and, and_true, and_self, false_and, and_false, or_self, false_or, or_false, true_or, or_true, not_true_eq_false, not_false_eq_true, Nat.reduceLeDiff, Nat.reduceLT, Nat.reduceAdd, Nat.reduceEqDiff, Nat.reduceMul, Nat.reduceSub, Value.category, Nat.zero_le, beq_self_eq_true]
  have e0 : fX6_append [.ref (B + 1), .int w] (I, L, Z) = q_lp bX6_append_3 [some (.ref ((B + 1))), some (.int (w)), some (.int (nI (24)))] [] (I, L, Z) := by
    show kX6_append_0 [some (.ref ((B + 1))), some (.int (w)), none] [] (I, L, Z) = _
    simp (disch := omega) only [kX6_append_0, kX6_append_3, e_push, e_pushl, e_iload, e_lload, e_aload, e_istore, e_astore, e_lstore, e_iinc, e_iadd, e_isub, e_imul, e_iand, e_ior, e_ixor, e_ishl, e_ishr, e_iushr, e_idiv, e_irem, e_ladd, e_lsub, e_lmul, e_lcmp, e_mmax, e_mmin, e_i2l, e_l2i, e_i2b, e_i2c, e_dup, e_dup2, e_pop, e_icmp_eq, e_icmp_ne, e_icmp_lt, e_icmp_ge, e_icmp_gt, e_icmp_le, e_if_eq, e_if_ne, e_if_lt, e_if_ge, e_if_gt, e_if_le, e_getI, e_getR, e_putI, e_putZ, e_putR, e_iald, e_bald, e_zald, e_lald, e_aald, e_alen, e_iast, e_bast, e_zast, e_last, e_aast, e_iret, e_zret, e_lret, e_vret, e_obj, e_callV, e_callS, e_callT, e_acpy, e_ldcS, e_dn, e_ag, z_pop, List.getElem?_cons_zero, List.getElem?_cons_succ, List.set_cons_zero, List.set_cons_succ, List.length_cons, List.length_nil, z_nol, Option.map_some, Option.toList_some, Option.toList_none, List.cons_append, List.nil_append, n_lit, n_m1, n_m2, n_m1lt, n_m1le, n_rem, n_div, n_out, n_cl, n_eq, n_le, n_lt, n_add, n_mul, n_sub, n_nle, n_yle, n_nlt, n_ylt, n_neN, z_lay, z_sz, z_str, z_stI, z_stL, z_stR, eq_self, ↓reduceIte, true_and, and_true, and_self, false_and, and_false, or_self, false_or, or_false, true_or, or_true, not_true_eq_false, not_false_eq_true, Nat.reduceLeDiff, Nat.reduceLT, Nat.reduceAdd, Nat.reduceEqDiff, Nat.reduceMul, Nat.reduceSub, Value.category, Nat.zero_le, beq_self_eq_true]
  rw [e0]
  refine ⟨tp4 I (B + 2) (B + 1) 1 m w, ?_, ?_, ?_, ?_⟩
  · rw [q_lp_eq, st I 24 16 m hn (by omega) rfl (by omega)]
    show q_lp bX6_append_3 _ [] _ = _
    rw [q_lp_eq, st _ 16 8 (m + 1) zup_at (by omega) rfl (by omega)]
    show q_lp bX6_append_3 _ [] _ = _
    rw [q_lp_eq, st _ 8 0 (m + 2) zup_at (by omega) rfl (by omega)]
    show q_lp bX6_append_3 _ [] _ = _
    rw [q_lp_eq, st0 _ (m + 3) zup_at (by omega)]
    show q_lp bX6_append_3 _ [] _ = _
    rw [q_lp_eq, en]
    rfl
  · exact zup_at
  · intro k hk
    unfold tp4
    have hc : k = m + 3 ∨ k = m + 2 ∨ k = m + 1 ∨ k = m ∨ k < m := by omega
    rcases hc with rfl | rfl | rfl | rfl | hc
    · rw [zup_off (by omega), zup_at]; unfold wdI; rw [if_neg (by omega), show m + 3 - m = 3 by omega]
    · rw [zup_off (by omega), zup_ne (by omega), zup_off (by omega), zup_at]; unfold wdI; rw [if_neg (by omega), show m + 2 - m = 2 by omega]
    · rw [zup_off (by omega), zup_ne (by omega), zup_off (by omega), zup_ne (by omega), zup_off (by omega), zup_at]; unfold wdI; rw [if_neg (by omega), show m + 1 - m = 1 by omega]
    · rw [zup_off (by omega), zup_ne (by omega), zup_off (by omega), zup_ne (by omega), zup_off (by omega), zup_ne (by omega), zup_off (by omega), zup_at]; unfold wdI; rw [if_neg (by omega), Nat.sub_self]
    · rw [zup_off (by omega), zup_ne (by omega), zup_off (by omega), zup_ne (by omega), zup_off (by omega), zup_ne (by omega), zup_off (by omega), zup_ne (by omega)]; unfold wdI; rw [if_pos hc]
  · intro q h1 h2
    unfold tp4
    rw [zup_off h1, zup_off h2, zup_off h1, zup_off h2, zup_off h1, zup_off h2, zup_off h1, zup_off h2]
theorem r_lays {I : Nat → Nat → Int32} {L : Nat → Nat → Int64} {Z : zZ} {M m : Nat} {w : Int32} (h : isMod Z M) (hn : I M 2 = nI m) (h4 : m + 4 ≤ 2000) :
    ∃ I', fX12_lays [.ref M, .int w] (I, L, Z) = some (none, (I', L, Z)) ∧ I' M 2 = nI (m + 4) ∧ (∀ k, k < m + 4 → I' (M + 1) k = wdI I (M + 1) m w k) ∧ (∀ q, q ≠ M → q ≠ M + 1 → I' q = I q) ∧ ∀ j, j ≠ 2 → I' M j = I M j := by
  have st : ∀ (J : Nat → Nat → Int32) (s t k : Nat), J M 2 = nI k → k < 2000 → s = t + 8 → (s = 0 ∨ s = 8 ∨ s = 16 ∨ s = 24) → bX12_lays_3 [some (.ref (M)), some (.int (w)), some (.int (nI (s)))] [] (J, L, Z) = some (.inl ([some (.ref (M)), some (.int (w)), some (.int (nI (t)))], (z_up (z_up J (M + 1) k (bvC w s)) M 2 (nI (k + 1)), L, Z))) := by
    intro J s t k hJ hk hs hs2
    subst hs
    have e : nI (t + 8) + -nI 8 = nI t := by rw [← Int32.sub_eq_add_neg, n_sub (by omega), Nat.add_sub_cancel]
    have w1 : z_up J (M + 1) k (bvC w (t + 8)) M 2 = nI k := by rw [zup_off (by omega), hJ]
    simp (disch := omega) only [bX12_lays_3, h.1, mr_tape h, ml_tape h, hJ, e, bv_eq w hs2, w1, e_push, e_pushl, e_iload, e_lload, e_aload, e_istore, e_astore, e_lstore, e_iinc, e_iadd, e_isub, e_imul, e_iand, e_ior, e_ixor, e_ishl, e_ishr, e_iushr, e_idiv, e_irem, e_ladd, e_lsub, e_lmul, e_lcmp, e_mmax, e_mmin, e_i2l, e_l2i, e_i2b, e_i2c, e_dup, e_dup2, e_pop, e_icmp_eq, e_icmp_ne, e_icmp_lt, e_icmp_ge, e_icmp_gt, e_icmp_le, e_if_eq, e_if_ne, e_if_lt, e_if_ge, e_if_gt, e_if_le, e_getI, e_getR, e_putI, e_putZ, e_putR, e_iald, e_bald, e_zald, e_lald, e_aald, e_alen, e_iast, e_bast, e_zast, e_last, e_aast, e_iret, e_zret, e_lret, e_vret, e_obj, e_callV, e_callS, e_callT, e_acpy, e_ldcS, e_dn, e_ag, z_pop, List.getElem?_cons_zero, List.getElem?_cons_succ, List.set_cons_zero, List.set_cons_succ, List.length_cons, List.length_nil, z_nol, Option.map_some, Option.toList_some, Option.toList_none, List.cons_append, List.nil_append, n_lit, n_m1, n_m2, n_m1lt, n_m1le, n_rem, n_div, n_out, n_cl, n_eq, n_le, n_lt, n_add, n_mul, n_sub, n_nle, n_yle, n_nlt, n_ylt, n_neN, z_lay, z_sz, z_str, z_stI, z_stL, z_stR, eq_self, ↓reduceIte, true_and, and_true, and_self, false_and, and_false, or_self, false_or, or_false, true_or, or_true, not_true_eq_false, not_false_eq_true, Nat.reduceLeDiff, Nat.reduceLT, Nat.reduceAdd, Nat.reduceEqDiff, Nat.reduceMul, Nat.reduceSub, Value.category, Nat.zero_le, beq_self_eq_true]
  have st0 : ∀ (J : Nat → Nat → Int32) (k : Nat), J M 2 = nI k → k < 2000 → bX12_lays_3 [some (.ref (M)), some (.int (w)), some (.int (nI (0)))] [] (J, L, Z) = some (.inl ([some (.ref (M)), some (.int (w)), some (.int (-nI 8))], (z_up (z_up J (M + 1) k (bvC w 0)) M 2 (nI (k + 1)), L, Z))) := by
    intro J k hJ hk
    have e : nI 0 + -nI 8 = -nI 8 := by decide
    have w1 : z_up J (M + 1) k (bvC w 0) M 2 = nI k := by rw [zup_off (by omega), hJ]
    simp (disch := omega) only [bX12_lays_3, h.1, mr_tape h, ml_tape h, hJ, e, bv_eq w (Or.inl rfl), w1, e_push, e_pushl, e_iload, e_lload, e_aload, e_istore, e_astore, e_lstore, e_iinc, e_iadd, e_isub, e_imul, e_iand, e_ior, e_ixor, e_ishl, e_ishr, e_iushr, e_idiv, e_irem, e_ladd, e_lsub, e_lmul, e_lcmp, e_mmax, e_mmin, e_i2l, e_l2i, e_i2b, e_i2c, e_dup, e_dup2, e_pop, e_icmp_eq, e_icmp_ne, e_icmp_lt, e_icmp_ge, e_icmp_gt, e_icmp_le, e_if_eq, e_if_ne, e_if_lt, e_if_ge, e_if_gt, e_if_le, e_getI, e_getR, e_putI, e_putZ, e_putR, e_iald, e_bald, e_zald, e_lald, e_aald, e_alen, e_iast, e_bast, e_zast, e_last, e_aast, e_iret, e_zret, e_lret, e_vret, e_obj, e_callV, e_callS, e_callT, e_acpy, e_ldcS, e_dn, e_ag, z_pop, List.getElem?_cons_zero, List.getElem?_cons_succ, List.set_cons_zero, List.set_cons_succ, List.length_cons, List.length_nil, z_nol, Option.map_some, Option.toList_some, Option.toList_none, List.cons_append, List.nil_append, n_lit, n_m1, n_m2, n_m1lt, n_m1le, n_rem, n_div, n_out, n_cl, n_eq, n_le, n_lt, n_add, n_mul, n_sub, n_nle, n_yle, n_nlt, n_ylt, n_neN, z_lay, z_sz, z_str, z_stI, z_stL, z_stR, eq_self, ↓reduceIte, true_and, and_true, and_self, false_and, and_false, or_self, false_or, or_false, true_or, or_true, not_true_eq_false, not_false_eq_true, Nat.reduceLeDiff, Nat.reduceLT, Nat.reduceAdd, Nat.reduceEqDiff, Nat.reduceMul, Nat.reduceSub, Value.category, Nat.zero_le, beq_self_eq_true]
  have en : ∀ (J : Nat → Nat → Int32), bX12_lays_3 [some (.ref (M)), some (.int (w)), some (.int (-nI 8))] [] (J, L, Z) = some (.inr (none, (J, L, Z))) := by
    intro J
    have e : (-nI 8 < nI 0) = True := by decide
    simp (disch := omega) only [bX12_lays_3, kX12_lays_36, e, e_push, e_pushl, e_iload, e_lload, e_aload, e_istore, e_astore, e_lstore, e_iinc, e_iadd, e_isub, e_imul, e_iand, e_ior, e_ixor, e_ishl, e_ishr, e_iushr, e_idiv, e_irem, e_ladd, e_lsub, e_lmul, e_lcmp, e_mmax, e_mmin, e_i2l, e_l2i, e_i2b, e_i2c, e_dup, e_dup2, e_pop, e_icmp_eq, e_icmp_ne, e_icmp_lt, e_icmp_ge, e_icmp_gt, e_icmp_le, e_if_eq, e_if_ne, e_if_lt, e_if_ge, e_if_gt, e_if_le, e_getI, e_getR, e_putI, e_putZ, e_putR, e_iald, e_bald, e_zald, e_lald, e_aald, e_alen, e_iast, e_bast, e_zast, e_last, e_aast, e_iret, e_zret, e_lret, e_vret, e_obj, e_callV, e_callS, e_callT, e_acpy, e_ldcS, e_dn, e_ag, z_pop, List.getElem?_cons_zero, List.getElem?_cons_succ, List.set_cons_zero, List.set_cons_succ, List.length_cons, List.length_nil, z_nol, Option.map_some, Option.toList_some, Option.toList_none, List.cons_append, List.nil_append, n_lit, n_m1, n_m2, n_m1lt, n_m1le, n_rem, n_div, n_out, n_cl, n_eq, n_le, n_lt, n_add, n_mul, n_sub, n_nle, n_yle, n_nlt, n_ylt, n_neN, z_lay, z_sz, z_str, z_stI, z_stL, z_stR, eq_self, ↓reduceIte, true_and, and_true, and_self, false_and, and_false, or_self, false_or, or_false, true_or, or_true, not_true_eq_false, not_false_eq_true, Nat.reduceLeDiff, Nat.reduceLT, Nat.reduceAdd, Nat.reduceEqDiff, Nat.reduceMul, Nat.reduceSub, Value.category, Nat.zero_le, beq_self_eq_true]
  have e0 : fX12_lays [.ref M, .int w] (I, L, Z) = q_lp bX12_lays_3 [some (.ref (M)), some (.int (w)), some (.int (nI (24)))] [] (I, L, Z) := by
    show kX12_lays_0 [some (.ref (M)), some (.int (w)), none] [] (I, L, Z) = _
    simp (disch := omega) only [kX12_lays_0, kX12_lays_3, e_push, e_pushl, e_iload, e_lload, e_aload, e_istore, e_astore, e_lstore, e_iinc, e_iadd, e_isub, e_imul, e_iand, e_ior, e_ixor, e_ishl, e_ishr, e_iushr, e_idiv, e_irem, e_ladd, e_lsub, e_lmul, e_lcmp, e_mmax, e_mmin, e_i2l, e_l2i, e_i2b, e_i2c, e_dup, e_dup2, e_pop, e_icmp_eq, e_icmp_ne, e_icmp_lt, e_icmp_ge, e_icmp_gt, e_icmp_le, e_if_eq, e_if_ne, e_if_lt, e_if_ge, e_if_gt, e_if_le, e_getI, e_getR, e_putI, e_putZ, e_putR, e_iald, e_bald, e_zald, e_lald, e_aald, e_alen, e_iast, e_bast, e_zast, e_last, e_aast, e_iret, e_zret, e_lret, e_vret, e_obj, e_callV, e_callS, e_callT, e_acpy, e_ldcS, e_dn, e_ag, z_pop, List.getElem?_cons_zero, List.getElem?_cons_succ, List.set_cons_zero, List.set_cons_succ, List.length_cons, List.length_nil, z_nol, Option.map_some, Option.toList_some, Option.toList_none, List.cons_append, List.nil_append, n_lit, n_m1, n_m2, n_m1lt, n_m1le, n_rem, n_div, n_out, n_cl, n_eq, n_le, n_lt, n_add, n_mul, n_sub, n_nle, n_yle, n_nlt, n_ylt, n_neN, z_lay, z_sz, z_str, z_stI, z_stL, z_stR, eq_self, ↓reduceIte, true_and, and_true, and_self, false_and, and_false, or_self, false_or, or_false, true_or, or_true, not_true_eq_false, not_false_eq_true, Nat.reduceLeDiff, Nat.reduceLT, Nat.reduceAdd, Nat.reduceEqDiff, Nat.reduceMul, Nat.reduceSub, Value.category, Nat.zero_le, beq_self_eq_true]
  rw [e0]
  refine ⟨tp4 I (M + 1) M 2 m w, ?_, ?_, ?_, ?_, ?_⟩
  · rw [q_lp_eq, st I 24 16 m hn (by omega) rfl (by omega)]
    show q_lp bX12_lays_3 _ [] _ = _
    rw [q_lp_eq, st _ 16 8 (m + 1) zup_at (by omega) rfl (by omega)]
    show q_lp bX12_lays_3 _ [] _ = _
    rw [q_lp_eq, st _ 8 0 (m + 2) zup_at (by omega) rfl (by omega)]
    show q_lp bX12_lays_3 _ [] _ = _
    rw [q_lp_eq, st0 _ (m + 3) zup_at (by omega)]
    show q_lp bX12_lays_3 _ [] _ = _
    rw [q_lp_eq, en]
    rfl
  · exact zup_at
  · intro k hk
    unfold tp4
    have hc : k = m + 3 ∨ k = m + 2 ∨ k = m + 1 ∨ k = m ∨ k < m := by omega
    rcases hc with rfl | rfl | rfl | rfl | hc
    · rw [zup_off (by omega), zup_at]; unfold wdI; rw [if_neg (by omega), show m + 3 - m = 3 by omega]
    · rw [zup_off (by omega), zup_ne (by omega), zup_off (by omega), zup_at]; unfold wdI; rw [if_neg (by omega), show m + 2 - m = 2 by omega]
    · rw [zup_off (by omega), zup_ne (by omega), zup_off (by omega), zup_ne (by omega), zup_off (by omega), zup_at]; unfold wdI; rw [if_neg (by omega), show m + 1 - m = 1 by omega]
    · rw [zup_off (by omega), zup_ne (by omega), zup_off (by omega), zup_ne (by omega), zup_off (by omega), zup_ne (by omega), zup_off (by omega), zup_at]; unfold wdI; rw [if_neg (by omega), Nat.sub_self]
    · rw [zup_off (by omega), zup_ne (by omega), zup_off (by omega), zup_ne (by omega), zup_off (by omega), zup_ne (by omega), zup_off (by omega), zup_ne (by omega)]; unfold wdI; rw [if_pos hc]
  · intro q h1 h2
    unfold tp4
    rw [zup_off h1, zup_off h2, zup_off h1, zup_off h2, zup_off h1, zup_off h2, zup_off h1, zup_off h2]
  · intro j hj
    unfold tp4
    rw [zup_ne hj, zup_off (by omega), zup_ne hj, zup_off (by omega), zup_ne hj, zup_off (by omega), zup_ne hj, zup_off (by omega)]
theorem o_place {I : Nat → Nat → Int32} {L : Nat → Nat → Int64} {Z : zZ} {B tx lv nc : Nat} {ch : Nat → Nat → Nat} {rows : Nat} (hW : wRest I L Z B tx lv nc ch rows) : askOp fX11_place fX12_place [] I L Z B tx := by
  have h := hW.1
  have hM := hW.2.1
  have hp := hW.2.2.2.2.1
  refine ⟨I (B + 200) 17, I, I, ?_, sameC.refl _ _ _, ?_, sameR.refl _ _⟩
  · show kX11_place_0 [some (.ref (B))] [] (I, L, Z) = _
    simp (disch := omega) only [kX11_place_0, cl_B h, hp, e_push, e_pushl, e_iload, e_lload, e_aload, e_istore, e_astore, e_lstore, e_iinc, e_iadd, e_isub, e_imul, e_iand, e_ior, e_ixor, e_ishl, e_ishr, e_iushr, e_idiv, e_irem, e_ladd, e_lsub, e_lmul, e_lcmp, e_mmax, e_mmin, e_i2l, e_l2i, e_i2b, e_i2c, e_dup, e_dup2, e_pop, e_icmp_eq, e_icmp_ne, e_icmp_lt, e_icmp_ge, e_icmp_gt, e_icmp_le, e_if_eq, e_if_ne, e_if_lt, e_if_ge, e_if_gt, e_if_le, e_getI, e_getR, e_putI, e_putZ, e_putR, e_iald, e_bald, e_zald, e_lald, e_aald, e_alen, e_iast, e_bast, e_zast, e_last, e_aast, e_iret, e_zret, e_lret, e_vret, e_obj, e_callV, e_callS, e_callT, e_acpy, e_ldcS, e_dn, e_ag, z_pop, List.getElem?_cons_zero, List.getElem?_cons_succ, List.set_cons_zero, List.set_cons_succ, List.length_cons, List.length_nil, z_nol, Option.map_some, Option.toList_some, Option.toList_none, List.cons_append, List.nil_append, n_lit, n_m1, n_m2, n_m1lt, n_m1le, n_rem, n_div, n_out, n_cl, n_eq, n_le, n_lt, n_add, n_mul, n_sub, n_nle, n_yle, n_nlt, n_ylt, n_neN, z_lay, z_sz, z_str, z_stI, z_stL, z_stR, eq_self, ↓reduceIte, true_and, and_true, and_self, false_and, and_false, or_self, false_or, or_false, true_or, or_true, not_true_eq_false, not_false_eq_true, Nat.reduceLeDiff, Nat.reduceLT, Nat.reduceAdd, Nat.reduceEqDiff, Nat.reduceMul, Nat.reduceSub, Value.category, Nat.zero_le, beq_self_eq_true]
  · show kX12_place_0 [some (.ref ((B + 200)))] [] (I, L, Z) = _
    simp (disch := omega) only [kX12_place_0, hM.1, e_push, e_pushl, e_iload, e_lload, e_aload, e_istore, e_astore, e_lstore, e_iinc, e_iadd, e_isub, e_imul, e_iand, e_ior, e_ixor, e_ishl, e_ishr, e_iushr, e_idiv, e_irem, e_ladd, e_lsub, e_lmul, e_lcmp, e_mmax, e_mmin, e_i2l, e_l2i, e_i2b, e_i2c, e_dup, e_dup2, e_pop, e_icmp_eq, e_icmp_ne, e_icmp_lt, e_icmp_ge, e_icmp_gt, e_icmp_le, e_if_eq, e_if_ne, e_if_lt, e_if_ge, e_if_gt, e_if_le, e_getI, e_getR, e_putI, e_putZ, e_putR, e_iald, e_bald, e_zald, e_lald, e_aald, e_alen, e_iast, e_bast, e_zast, e_last, e_aast, e_iret, e_zret, e_lret, e_vret, e_obj, e_callV, e_callS, e_callT, e_acpy, e_ldcS, e_dn, e_ag, z_pop, List.getElem?_cons_zero, List.getElem?_cons_succ, List.set_cons_zero, List.set_cons_succ, List.length_cons, List.length_nil, z_nol, Option.map_some, Option.toList_some, Option.toList_none, List.cons_append, List.nil_append, n_lit, n_m1, n_m2, n_m1lt, n_m1le, n_rem, n_div, n_out, n_cl, n_eq, n_le, n_lt, n_add, n_mul, n_sub, n_nle, n_yle, n_nlt, n_ylt, n_neN, z_lay, z_sz, z_str, z_stI, z_stL, z_stR, eq_self, ↓reduceIte, true_and, and_true, and_self, false_and, and_false, or_self, false_or, or_false, true_or, or_true, not_true_eq_false, not_false_eq_true, Nat.reduceLeDiff, Nat.reduceLT, Nat.reduceAdd, Nat.reduceEqDiff, Nat.reduceMul, Nat.reduceSub, Value.category, Nat.zero_le, beq_self_eq_true]
/-- only the tape is changed -/
theorem okTape {I : Nat → Nat → Int32} {L : Nat → Nat → Int64} {Z : zZ} {B tx lv nc : Nat} {ch : Nat → Nat → Nat} {rows : Nat} {len : Nat → Nat} {col : Nat → Nat → Nat} {tm pd : Int32} {J : Nat → Nat → Int32} (hW : wRest I L Z B tx lv nc ch rows) (hF : wFam I B tx lv nc ch rows len col tm pd) (hT : wTape J B) (h1 : ∀ k, k ≠ 1 → k ≠ 2 → k ≠ 200 → k ≠ 201 → J (B + k) = I (B + k)) (h2 : ∀ j, j ≠ 2 → J (B + 200) j = I (B + 200) j) : wRest J L Z B tx lv nc ch rows ∧ ∃ len col tm pd, wFam J B tx lv nc ch rows len col tm pd := by
  have h := hW.1
  have hM := hW.2.1
  have htx := h.1
  have y1 : ∀ k, k < 200 → k ≠ 1 → k ≠ 2 → J (B + k) = I (B + k) := fun k k1 k2 k3 => h1 k k2 k3 (by omega) (by omega)
  have y3 : ∀ k, 2 ≤ k → J (B + 200 + k) = I (B + 200 + k) := fun k k1 => by rw [Nat.add_assoc, h1 _ (by omega) (by omega) (by omega) (by omega)]
  constructor
  · obtain ⟨-, -, g3, g4, g5, g6, g7, g8, g9, g10, g11⟩ := hW
    refine ⟨h, hM, ?_, hT, ?_, ?_, ?_, ?_, ?_, ?_, g11⟩
    · intro x hx
      rw [y1 44 (by omega) (by omega) (by omega), y1 181 (by omega) (by omega) (by omega), y1 189 (by omega) (by omega) (by omega), y1 198 (by omega) (by omega) (by omega)]
      exact g3 x hx
    · have := y1 0 (by omega) (by omega) (by omega)
      rw [Nat.add_zero] at this
      rw [this, h2 17 (by omega)]
      exact g5
    · unfold wSeed
      rw [y1 tx (by omega) (by omega) (by omega), y3 16 (by omega)]
      exact g6
    · intro s hs
      rw [y1 48 (by omega) (by omega) (by omega), y3 48 (by omega), y3 49 (by omega)]
      rcases g7 s hs with t | ⟨t1, t2, len', col', tm', pd', t3, t4⟩
      · exact Or.inl t
      · exact Or.inr ⟨t1, t2, len', col', tm', pd', t3.kept (y1 _ (by omega) (by omega) (by omega)) (y1 _ (by omega) (by omega) (by omega)) (y1 _ (by omega) (by omega) (by omega)), t4⟩
    · unfold wTold toldAt
      rw [y1 191 (by omega) (by omega) (by omega), y1 192 (by omega) (by omega) (by omega), y1 193 (by omega) (by omega) (by omega), y1 194 (by omega) (by omega) (by omega), y1 195 (by omega) (by omega) (by omega), h2 66 (by omega), y3 43 (by omega), y3 44 (by omega), y3 45 (by omega), y3 46 (by omega)]
      exact g8
    · unfold wCen cenN
      rw [y1 182 (by omega) (by omega) (by omega), y1 183 (by omega) (by omega) (by omega), y1 184 (by omega) (by omega) (by omega), y1 185 (by omega) (by omega) (by omega)]
      exact g9
    · obtain ⟨K, W, sz, c1, c2, c3⟩ := g10
      exact ⟨K, W, sz, c1.kept (y1 _ (by omega) (by omega) (by omega)) (y1 _ (by omega) (by omega) (by omega)), fun k hk => (c2 k hk).kept (y1 _ (by omega) (by omega) (by omega)) (fun k k1 k2 => y3 k (by omega)), fun k hk => (c3 k hk).kept (fun k k1 k2 => y3 k (by omega))⟩
  · obtain ⟨⟨h1', h2', h3, h4, h5, h6⟩, ⟨g1, g2, g3⟩, g4⟩ := hF
    refine ⟨len, col, tm, pd, ⟨by rw [y1 (tx + 5) (by omega) (by omega) (by omega)]; exact h1', h2', h3, ?_, h5, h6.kept (y1 _ (by omega) (by omega) (by omega)) (y1 _ (by omega) (by omega) (by omega)) (y1 _ (by omega) (by omega) (by omega))⟩, ⟨g1.kept (h2 18 (by omega)) (y3 9 (by omega)) (y3 11 (by omega)), by rw [y3 13 (by omega)]; exact g2, by rw [y3 29 (by omega)]; exact g3⟩, g4.kept (fun k k1 k2 k3 => y1 k (by omega) (by omega) (by omega)) (h2 52 (by omega)) (y3 33 (by omega))⟩
    unfold tabI
    rw [y1 (tx + 6) (by omega) (by omega) (by omega)]
    exact h4
theorem out_le (x : Int32) {n : Nat} (hn : n < 2147483647) : (x < nI 0 ∨ nI n < x) ∨ ∃ j, j ≤ n ∧ x = nI j := by
  rcases out_or x (n := n + 1) (by omega) with q | ⟨j, h, e⟩
  · left
    rcases q with q | q
    · exact Or.inl q
    · exact Or.inr (Int32.lt_of_lt_of_le (by rw [n_lt (by omega) (by omega)]; omega) q)
  · exact Or.inr ⟨j, by omega, e⟩
theorem o_back {I : Nat → Nat → Int32} {L : Nat → Nat → Int64} {Z : zZ} {B tx lv nc : Nat} {ch : Nat → Nat → Nat} {rows : Nat} {len : Nat → Nat} {col : Nat → Nat → Nat} {tm pd : Int32} (hW : wRest I L Z B tx lv nc ch rows) (hF : wFam I B tx lv nc ch rows len col tm pd) (x : Int32) : okOp fX11_back fX12_back [.int x] I L Z B tx lv nc ch rows := by
  have h := hW.1
  have hM := hW.2.1
  obtain ⟨m, t1, t2, t3, t4⟩ := hW.2.2.2.1
  rcases out_le x (n := m) (by omega) with qx | ⟨j, hj, rfl⟩
  · refine ⟨nM1, I, I, ?_, ?_, hW, len, col, tm, pd, hF⟩
    · show kX11_back_0 [some (.ref (B)), some (.int (x))] [] (I, L, Z) = _
      by_cases q : x < nI 0
      · simp (disch := omega) only [kX11_back_15, kX11_back_0, cl_B h, cr_0_0 h, cr_0_4 h, cr_0_5 h, cr_0_6 h, cr_0_7 h, cr_0_8 h, cr_0_9 h, cr_0_10 h, cr_0_11 h, cr_0_12 h, h.2.2.2.1, cl_1 h, cl_33 h, cl_36 h, cl_39 h, cl_40 h, cl_42 h, cl_45 h, cl_178 h, cl_186 h, cl_191 h, tl_0 h, tl_5 h, tr_0_0 h, tr_0_1 h, tr_0_2 h, tl_1 h, tl_10 h, q, e_push, e_pushl, e_iload, e_lload, e_aload, e_istore, e_astore, e_lstore, e_iinc, e_iadd, e_isub, e_imul, e_iand, e_ior, e_ixor, e_ishl, e_ishr, e_iushr, e_idiv, e_irem, e_ladd, e_lsub, e_lmul, e_lcmp, e_mmax, e_mmin, e_i2l, e_l2i, e_i2b, e_i2c, e_dup, e_dup2, e_pop, e_icmp_eq, e_icmp_ne, e_icmp_lt, e_icmp_ge, e_icmp_gt, e_icmp_le, e_if_eq, e_if_ne, e_if_lt, e_if_ge, e_if_gt, e_if_le, e_getI, e_getR, e_putI, e_putZ, e_putR, e_iald, e_bald, e_zald, e_lald, e_aald, e_alen, e_iast, e_bast, e_zast, e_last, e_aast, e_iret, e_zret, e_lret, e_vret, e_obj, e_callV, e_callS, e_callT, e_acpy, e_ldcS, e_dn, e_ag, z_pop, List.getElem?_cons_zero, List.getElem?_cons_succ, List.set_cons_zero, List.set_cons_succ, List.length_cons, List.length_nil, z_nol, Option.map_some, Option.toList_some, Option.toList_none, List.cons_append, List.nil_append, n_lit, n_m1, n_m2, n_m1lt, n_m1le, n_rem, n_div, n_out, n_cl, n_eq, n_le, n_lt, n_add, n_mul, n_sub, n_nle, n_yle, n_nlt, n_ylt, n_neN, z_lay, z_sz, z_str, z_stI, z_stL, z_stR, eq_self, ↓reduceIte, true_and, and_true, and_self, false_and, and_false, or_self, false_or, or_false, true_or, or_true, not_true_eq_false, not_false_eq_true, Nat.reduceLeDiff, Nat.reduceLT, Nat.reduceAdd, Nat.reduceEqDiff, Nat.reduceMul, Nat.reduceSub, Value.category, Nat.zero_le, beq_self_eq_true]
      · have q2 : (x ≤ nI m) = False := eq_false (Int32.not_le.mpr (qx.resolve_left q))
        simp (disch := omega) only [kX11_back_15, kX11_back_0, cl_B h, cr_0_0 h, cr_0_4 h, cr_0_5 h, cr_0_6 h, cr_0_7 h, cr_0_8 h, cr_0_9 h, cr_0_10 h, cr_0_11 h, cr_0_12 h, h.2.2.2.1, cl_1 h, cl_33 h, cl_36 h, cl_39 h, cl_40 h, cl_42 h, cl_45 h, cl_178 h, cl_186 h, cl_191 h, tl_0 h, tl_5 h, tr_0_0 h, tr_0_1 h, tr_0_2 h, tl_1 h, tl_10 h, t2, q, q2, e_push, e_pushl, e_iload, e_lload, e_aload, e_istore, e_astore, e_lstore, e_iinc, e_iadd, e_isub, e_imul, e_iand, e_ior, e_ixor, e_ishl, e_ishr, e_iushr, e_idiv, e_irem, e_ladd, e_lsub, e_lmul, e_lcmp, e_mmax, e_mmin, e_i2l, e_l2i, e_i2b, e_i2c, e_dup, e_dup2, e_pop, e_icmp_eq, e_icmp_ne, e_icmp_lt, e_icmp_ge, e_icmp_gt, e_icmp_le, e_if_eq, e_if_ne, e_if_lt, e_if_ge, e_if_gt, e_if_le, e_getI, e_getR, e_putI, e_putZ, e_putR, e_iald, e_bald, e_zald, e_lald, e_aald, e_alen, e_iast, e_bast, e_zast, e_last, e_aast, e_iret, e_zret, e_lret, e_vret, e_obj, e_callV, e_callS, e_callT, e_acpy, e_ldcS, e_dn, e_ag, z_pop, List.getElem?_cons_zero, List.getElem?_cons_succ, List.set_cons_zero, List.set_cons_succ, List.length_cons, List.length_nil, z_nol, Option.map_some, Option.toList_some, Option.toList_none, List.cons_append, List.nil_append, n_lit, n_m1, n_m2, n_m1lt, n_m1le, n_rem, n_div, n_out, n_cl, n_eq, n_le, n_lt, n_add, n_mul, n_sub, n_nle, n_yle, n_nlt, n_ylt, n_neN, z_lay, z_sz, z_str, z_stI, z_stL, z_stR, eq_self, ↓reduceIte, true_and, and_true, and_self, false_and, and_false, or_self, false_or, or_false, true_or, or_true, not_true_eq_false, not_false_eq_true, Nat.reduceLeDiff, Nat.reduceLT, Nat.reduceAdd, Nat.reduceEqDiff, Nat.reduceMul, Nat.reduceSub, Value.category, Nat.zero_le, beq_self_eq_true]
    · show kX12_back_0 [some (.ref ((B + 200))), some (.int (x))] [] (I, L, Z) = _
      by_cases q : x < nI 0
      · simp (disch := omega) only [kX12_back_12, kX12_back_0, hM.1, q, e_push, e_pushl, e_iload, e_lload, e_aload, e_istore, e_astore, e_lstore, e_iinc, e_iadd, e_isub, e_imul, e_iand, e_ior, e_ixor, e_ishl, e_ishr, e_iushr, e_idiv, e_irem, e_ladd, e_lsub, e_lmul, e_lcmp, e_mmax, e_mmin, e_i2l, e_l2i, e_i2b, e_i2c, e_dup, e_dup2, e_pop, e_icmp_eq, e_icmp_ne, e_icmp_lt, e_icmp_ge, e_icmp_gt, e_icmp_le, e_if_eq, e_if_ne, e_if_lt, e_if_ge, e_if_gt, e_if_le, e_getI, e_getR, e_putI, e_putZ, e_putR, e_iald, e_bald, e_zald, e_lald, e_aald, e_alen, e_iast, e_bast, e_zast, e_last, e_aast, e_iret, e_zret, e_lret, e_vret, e_obj, e_callV, e_callS, e_callT, e_acpy, e_ldcS, e_dn, e_ag, z_pop, List.getElem?_cons_zero, List.getElem?_cons_succ, List.set_cons_zero, List.set_cons_succ, List.length_cons, List.length_nil, z_nol, Option.map_some, Option.toList_some, Option.toList_none, List.cons_append, List.nil_append, n_lit, n_m1, n_m2, n_m1lt, n_m1le, n_rem, n_div, n_out, n_cl, n_eq, n_le, n_lt, n_add, n_mul, n_sub, n_nle, n_yle, n_nlt, n_ylt, n_neN, z_lay, z_sz, z_str, z_stI, z_stL, z_stR, eq_self, ↓reduceIte, true_and, and_true, and_self, false_and, and_false, or_self, false_or, or_false, true_or, or_true, not_true_eq_false, not_false_eq_true, Nat.reduceLeDiff, Nat.reduceLT, Nat.reduceAdd, Nat.reduceEqDiff, Nat.reduceMul, Nat.reduceSub, Value.category, Nat.zero_le, beq_self_eq_true]
      · have q2 : (x ≤ nI m) = False := eq_false (Int32.not_le.mpr (qx.resolve_left q))
        simp (disch := omega) only [kX12_back_12, kX12_back_0, hM.1, t3, q, q2, e_push, e_pushl, e_iload, e_lload, e_aload, e_istore, e_astore, e_lstore, e_iinc, e_iadd, e_isub, e_imul, e_iand, e_ior, e_ixor, e_ishl, e_ishr, e_iushr, e_idiv, e_irem, e_ladd, e_lsub, e_lmul, e_lcmp, e_mmax, e_mmin, e_i2l, e_l2i, e_i2b, e_i2c, e_dup, e_dup2, e_pop, e_icmp_eq, e_icmp_ne, e_icmp_lt, e_icmp_ge, e_icmp_gt, e_icmp_le, e_if_eq, e_if_ne, e_if_lt, e_if_ge, e_if_gt, e_if_le, e_getI, e_getR, e_putI, e_putZ, e_putR, e_iald, e_bald, e_zald, e_lald, e_aald, e_alen, e_iast, e_bast, e_zast, e_last, e_aast, e_iret, e_zret, e_lret, e_vret, e_obj, e_callV, e_callS, e_callT, e_acpy, e_ldcS, e_dn, e_ag, z_pop, List.getElem?_cons_zero, List.getElem?_cons_succ, List.set_cons_zero, List.set_cons_succ, List.length_cons, List.length_nil, z_nol, Option.map_some, Option.toList_some, Option.toList_none, List.cons_append, List.nil_append, n_lit, n_m1, n_m2, n_m1lt, n_m1le, n_rem, n_div, n_out, n_cl, n_eq, n_le, n_lt, n_add, n_mul, n_sub, n_nle, n_yle, n_nlt, n_ylt, n_neN, z_lay, z_sz, z_str, z_stI, z_stL, z_stR, eq_self, ↓reduceIte, true_and, and_true, and_self, false_and, and_false, or_self, false_or, or_false, true_or, or_true, not_true_eq_false, not_false_eq_true, Nat.reduceLeDiff, Nat.reduceLT, Nat.reduceAdd, Nat.reduceEqDiff, Nat.reduceMul, Nat.reduceSub, Value.category, Nat.zero_le, beq_self_eq_true]
  · have v2 : z_up I (B + 1) 1 (nI (m - j)) (B + 200) 2 = nI m := by rw [zup_off (by omega), t3]
    obtain ⟨w1, w2⟩ := okTape (J := z_up (z_up I (B + 1) 1 (nI (m - j))) (B + 200) 2 (nI (m - j))) hW hF ⟨m - j, by omega, by rw [zup_off (by omega)]; exact zup_at, zup_at, fun i hi => by rw [zup_off (by omega), zup_off (by omega), zup_off (by omega), zup_off (by omega)]; exact t4 i (by omega)⟩ (fun k k1 k2 k3 k4 => by rw [zup_off (by omega), zup_off (by omega)]) (fun j hj => by rw [zup_ne hj, zup_off (by omega)])
    refine ⟨nI (m - j), z_up I (B + 1) 1 (nI (m - j)), _, ?_, ?_, w1, w2⟩
    · show kX11_back_0 [some (.ref (B)), some (.int (nI (j)))] [] (I, L, Z) = _
      simp (disch := omega) only [kX11_back_15, kX11_back_0, cl_B h, cr_0_0 h, cr_0_4 h, cr_0_5 h, cr_0_6 h, cr_0_7 h, cr_0_8 h, cr_0_9 h, cr_0_10 h, cr_0_11 h, cr_0_12 h, h.2.2.2.1, cl_1 h, cl_33 h, cl_36 h, cl_39 h, cl_40 h, cl_42 h, cl_45 h, cl_178 h, cl_186 h, cl_191 h, tl_0 h, tl_5 h, tr_0_0 h, tr_0_1 h, tr_0_2 h, tl_1 h, tl_10 h, t2, zup_at, e_push, e_pushl, e_iload, e_lload, e_aload, e_istore, e_astore, e_lstore, e_iinc, e_iadd, e_isub, e_imul, e_iand, e_ior, e_ixor, e_ishl, e_ishr, e_iushr, e_idiv, e_irem, e_ladd, e_lsub, e_lmul, e_lcmp, e_mmax, e_mmin, e_i2l, e_l2i, e_i2b, e_i2c, e_dup, e_dup2, e_pop, e_icmp_eq, e_icmp_ne, e_icmp_lt, e_icmp_ge, e_icmp_gt, e_icmp_le, e_if_eq, e_if_ne, e_if_lt, e_if_ge, e_if_gt, e_if_le, e_getI, e_getR, e_putI, e_putZ, e_putR, e_iald, e_bald, e_zald, e_lald, e_aald, e_alen, e_iast, e_bast, e_zast, e_last, e_aast, e_iret, e_zret, e_lret, e_vret, e_obj, e_callV, e_callS, e_callT, e_acpy, e_ldcS, e_dn, e_ag, z_pop, List.getElem?_cons_zero, List.getElem?_cons_succ, List.set_cons_zero, List.set_cons_succ, List.length_cons, List.length_nil, z_nol, Option.map_some, Option.toList_some, Option.toList_none, List.cons_append, List.nil_append, n_lit, n_m1, n_m2, n_m1lt, n_m1le, n_rem, n_div, n_out, n_cl, n_eq, n_le, n_lt, n_add, n_mul, n_sub, n_nle, n_yle, n_nlt, n_ylt, n_neN, z_lay, z_sz, z_str, z_stI, z_stL, z_stR, eq_self, ↓reduceIte, true_and, and_true, and_self, false_and, and_false, or_self, false_or, or_false, true_or, or_true, not_true_eq_false, not_false_eq_true, Nat.reduceLeDiff, Nat.reduceLT, Nat.reduceAdd, Nat.reduceEqDiff, Nat.reduceMul, Nat.reduceSub, Value.category, Nat.zero_le, beq_self_eq_true]
    · show kX12_back_0 [some (.ref ((B + 200))), some (.int (nI (j)))] [] (z_up I (B + 1) 1 (nI (m - j)), L, Z) = _
      simp (disch := omega) only [kX12_back_12, kX12_back_0, hM.1, v2, zup_at, e_push, e_pushl, e_iload, e_lload, e_aload, e_istore, e_astore, e_lstore, e_iinc, e_iadd, e_isub, e_imul, e_iand, e_ior, e_ixor, e_ishl, e_ishr, e_iushr, e_idiv, e_irem, e_ladd, e_lsub, e_lmul, e_lcmp, e_mmax, e_mmin, e_i2l, e_l2i, e_i2b, e_i2c, e_dup, e_dup2, e_pop, e_icmp_eq, e_icmp_ne, e_icmp_lt, e_icmp_ge, e_icmp_gt, e_icmp_le, e_if_eq, e_if_ne, e_if_lt, e_if_ge, e_if_gt, e_if_le, e_getI, e_getR, e_putI, e_putZ, e_putR, e_iald, e_bald, e_zald, e_lald, e_aald, e_alen, e_iast, e_bast, e_zast, e_last, e_aast, e_iret, e_zret, e_lret, e_vret, e_obj, e_callV, e_callS, e_callT, e_acpy, e_ldcS, e_dn, e_ag, z_pop, List.getElem?_cons_zero, List.getElem?_cons_succ, List.set_cons_zero, List.set_cons_succ, List.length_cons, List.length_nil, z_nol, Option.map_some, Option.toList_some, Option.toList_none, List.cons_append, List.nil_append, n_lit, n_m1, n_m2, n_m1lt, n_m1le, n_rem, n_div, n_out, n_cl, n_eq, n_le, n_lt, n_add, n_mul, n_sub, n_nle, n_yle, n_nlt, n_ylt, n_neN, z_lay, z_sz, z_str, z_stI, z_stL, z_stR, eq_self, ↓reduceIte, true_and, and_true, and_self, false_and, and_false, or_self, false_or, or_false, true_or, or_true, not_true_eq_false, not_false_eq_true, Nat.reduceLeDiff, Nat.reduceLT, Nat.reduceAdd, Nat.reduceEqDiff, Nat.reduceMul, Nat.reduceSub, Value.category, Nat.zero_le, beq_self_eq_true]
theorem o_feed {I : Nat → Nat → Int32} {L : Nat → Nat → Int64} {Z : zZ} {B tx lv nc : Nat} {ch : Nat → Nat → Nat} {rows : Nat} {len : Nat → Nat} {col : Nat → Nat → Nat} {tm pd : Int32} (hW : wRest I L Z B tx lv nc ch rows) (hF : wFam I B tx lv nc ch rows len col tm pd) (a b c d e : Int32) : okOp fX11_feed fX12_feed [.int a, .int b, .int c, .int d, .int e] I L Z B tx lv nc ch rows := by
  have h := hW.1
  have hM := hW.2.1
  obtain ⟨m, t1, t2, t3, t4⟩ := hW.2.2.2.1
  by_cases q : m + 20 ≤ 2000
  · obtain ⟨J1, a1, a2, a3, a4⟩ := p_append6 (L := L) (w := a) h t2 (by omega)
    obtain ⟨J2, b1, b2, b3, b4⟩ := p_append6 (L := L) (w := b) h a2 (by omega)
    obtain ⟨J3, c1, c2, c3, c4⟩ := p_append6 (L := L) (w := c) h b2 (by omega)
    obtain ⟨J4, d1, d2, d3, d4⟩ := p_append6 (L := L) (w := d) h c2 (by omega)
    obtain ⟨J5, e1, e2, e3, e4⟩ := p_append6 (L := L) (w := e) h d2 (by omega)
    have yJ : ∀ q, q ≠ B + 1 → q ≠ B + 2 → J5 q = I q := fun q q1 q2 => by rw [e4 q q1 q2, d4 q q1 q2, c4 q q1 q2, b4 q q1 q2, a4 q q1 q2]
    have r0 : J5 (B + 200) 2 = nI m := by rw [yJ _ (by omega) (by omega), t3]
    obtain ⟨K1, f1, f2, f3, f4, f5⟩ := r_lays (L := L) (w := a) hM r0 (by omega)
    obtain ⟨K2, g1, g2, g3, g4, g5⟩ := r_lays (L := L) (w := b) hM f2 (by omega)
    obtain ⟨K3, i1, i2, i3, i4, i5⟩ := r_lays (L := L) (w := c) hM g2 (by omega)
    obtain ⟨K4, j1, j2, j3, j4, j5⟩ := r_lays (L := L) (w := d) hM i2 (by omega)
    obtain ⟨K5, k1, k2, k3, k4, k5⟩ := r_lays (L := L) (w := e) hM j2 (by omega)
    have x0 : K5 (B + 2) = J5 (B + 2) := by rw [k4 _ (by omega) (by omega), j4 _ (by omega) (by omega), i4 _ (by omega) (by omega), g4 _ (by omega) (by omega), f4 _ (by omega) (by omega)]
    have x1 : K5 (B + 1) = J5 (B + 1) := by rw [k4 _ (by omega) (by omega), j4 _ (by omega) (by omega), i4 _ (by omega) (by omega), g4 _ (by omega) (by omega), f4 _ (by omega) (by omega)]
    have xT : wTape K5 B := by
      refine ⟨m + 4 + 4 + 4 + 4 + 4, by omega, by rw [x1]; exact e2, k2, fun i hi => ?_⟩
      rw [x0, e3 i hi, k3 i hi]
      unfold wdI
      split
      · rw [d3 i (by omega), j3 i (by omega)]
        unfold wdI
        split
        · rw [c3 i (by omega), i3 i (by omega)]
          unfold wdI
          split
          · rw [b3 i (by omega), g3 i (by omega)]
            unfold wdI
            split
            · rw [a3 i (by omega), f3 i (by omega)]
              unfold wdI
              split
              · rw [yJ _ (by omega) (by omega)]
                exact t4 i (by omega)
              · rfl
            · rfl
          · rfl
        · rfl
      · rfl
    obtain ⟨w1, w2⟩ := okTape (J := K5) hW hF xT (fun k z1 z2 z3 z4 => by rw [k4 _ (by omega) (by omega), j4 _ (by omega) (by omega), i4 _ (by omega) (by omega), g4 _ (by omega) (by omega), f4 _ (by omega) (by omega), yJ _ (by omega) (by omega)]) (fun j hj => by rw [k5 j hj, j5 j hj, i5 j hj, g5 j hj, f5 j hj, yJ _ (by omega) (by omega)])
    refine ⟨nI (m + 4 + 4 + 4 + 4 + 4), J5, K5, ?_, ?_, w1, w2⟩
    · show kX11_feed_0 [some (.ref (B)), some (.int (a)), some (.int (b)), some (.int (c)), some (.int (d)), some (.int (e))] [] (I, L, Z) = _
      simp (disch := omega) only [kX11_feed_0, cl_B h, cr_0_0 h, cr_0_4 h, cr_0_5 h, cr_0_6 h, cr_0_7 h, cr_0_8 h, cr_0_9 h, cr_0_10 h, cr_0_11 h, cr_0_12 h, h.2.2.2.1, cl_1 h, cl_33 h, cl_36 h, cl_39 h, cl_40 h, cl_42 h, cl_45 h, cl_178 h, cl_186 h, cl_191 h, tl_0 h, tl_5 h, tr_0_0 h, tr_0_1 h, tr_0_2 h, tl_1 h, tl_10 h, t2, a1, b1, c1, d1, e1, e2, e_push, e_pushl, e_iload, e_lload, e_aload, e_istore, e_astore, e_lstore, e_iinc, e_iadd, e_isub, e_imul, e_iand, e_ior, e_ixor, e_ishl, e_ishr, e_iushr, e_idiv, e_irem, e_ladd, e_lsub, e_lmul, e_lcmp, e_mmax, e_mmin, e_i2l, e_l2i, e_i2b, e_i2c, e_dup, e_dup2, e_pop, e_icmp_eq, e_icmp_ne, e_icmp_lt, e_icmp_ge, e_icmp_gt, e_icmp_le, e_if_eq, e_if_ne, e_if_lt, e_if_ge, e_if_gt, e_if_le, e_getI, e_getR, e_putI, e_putZ, e_putR, e_iald, e_bald, e_zald, e_lald, e_aald, e_alen, e_iast, e_bast, e_zast, e_last, e_aast, e_iret, e_zret, e_lret, e_vret, e_obj, e_callV, e_callS, e_callT, e_acpy, e_ldcS, e_dn, e_ag, z_pop, List.getElem?_cons_zero, List.getElem?_cons_succ, List.set_cons_zero, List.set_cons_succ, List.length_cons, List.length_nil, z_nol, Option.map_some, Option.toList_some, Option.toList_none, List.cons_append, List.nil_append, n_lit, n_m1, n_m2, n_m1lt, n_m1le, n_rem, n_div, n_out, n_cl, n_eq, n_le, n_lt, n_add, n_mul, n_sub, n_nle, n_yle, n_nlt, n_ylt, n_neN, z_lay, z_sz, z_str, z_stI, z_stL, z_stR, eq_self, ↓reduceIte, true_and, and_true, and_self, false_and, and_false, or_self, false_or, or_false, true_or, or_true, not_true_eq_false, not_false_eq_true, Nat.reduceLeDiff, Nat.reduceLT, Nat.reduceAdd, Nat.reduceEqDiff, Nat.reduceMul, Nat.reduceSub, Value.category, Nat.zero_le, beq_self_eq_true]
    · show kX12_feed_0 [some (.ref ((B + 200))), some (.int (a)), some (.int (b)), some (.int (c)), some (.int (d)), some (.int (e))] [] (J5, L, Z) = _
      simp (disch := omega) only [kX12_feed_0, hM.1, r0, f1, g1, i1, j1, k1, k2, e_push, e_pushl, e_iload, e_lload, e_aload, e_istore, e_astore, e_lstore, e_iinc, e_iadd, e_isub, e_imul, e_iand, e_ior, e_ixor, e_ishl, e_ishr, e_iushr, e_idiv, e_irem, e_ladd, e_lsub, e_lmul, e_lcmp, e_mmax, e_mmin, e_i2l, e_l2i, e_i2b, e_i2c, e_dup, e_dup2, e_pop, e_icmp_eq, e_icmp_ne, e_icmp_lt, e_icmp_ge, e_icmp_gt, e_icmp_le, e_if_eq, e_if_ne, e_if_lt, e_if_ge, e_if_gt, e_if_le, e_getI, e_getR, e_putI, e_putZ, e_putR, e_iald, e_bald, e_zald, e_lald, e_aald, e_alen, e_iast, e_bast, e_zast, e_last, e_aast, e_iret, e_zret, e_lret, e_vret, e_obj, e_callV, e_callS, e_callT, e_acpy, e_ldcS, e_dn, e_ag, z_pop, List.getElem?_cons_zero, List.getElem?_cons_succ, List.set_cons_zero, List.set_cons_succ, List.length_cons, List.length_nil, z_nol, Option.map_some, Option.toList_some, Option.toList_none, List.cons_append, List.nil_append, n_lit, n_m1, n_m2, n_m1lt, n_m1le, n_rem, n_div, n_out, n_cl, n_eq, n_le, n_lt, n_add, n_mul, n_sub, n_nle, n_yle, n_nlt, n_ylt, n_neN, z_lay, z_sz, z_str, z_stI, z_stL, z_stR, eq_self, ↓reduceIte, true_and, and_true, and_self, false_and, and_false, or_self, false_or, or_false, true_or, or_true, not_true_eq_false, not_false_eq_true, Nat.reduceLeDiff, Nat.reduceLT, Nat.reduceAdd, Nat.reduceEqDiff, Nat.reduceMul, Nat.reduceSub, Value.category, Nat.zero_le, beq_self_eq_true]
  · refine ⟨nM1, I, I, ?_, ?_, hW, len, col, tm, pd, hF⟩
    · show kX11_feed_0 [some (.ref (B)), some (.int (a)), some (.int (b)), some (.int (c)), some (.int (d)), some (.int (e))] [] (I, L, Z) = _
      simp (disch := omega) only [kX11_feed_0, cl_B h, cr_0_0 h, cr_0_4 h, cr_0_5 h, cr_0_6 h, cr_0_7 h, cr_0_8 h, cr_0_9 h, cr_0_10 h, cr_0_11 h, cr_0_12 h, h.2.2.2.1, cl_1 h, cl_33 h, cl_36 h, cl_39 h, cl_40 h, cl_42 h, cl_45 h, cl_178 h, cl_186 h, cl_191 h, tl_0 h, tl_5 h, tr_0_0 h, tr_0_1 h, tr_0_2 h, tl_1 h, tl_10 h, t2, e_push, e_pushl, e_iload, e_lload, e_aload, e_istore, e_astore, e_lstore, e_iinc, e_iadd, e_isub, e_imul, e_iand, e_ior, e_ixor, e_ishl, e_ishr, e_iushr, e_idiv, e_irem, e_ladd, e_lsub, e_lmul, e_lcmp, e_mmax, e_mmin, e_i2l, e_l2i, e_i2b, e_i2c, e_dup, e_dup2, e_pop, e_icmp_eq, e_icmp_ne, e_icmp_lt, e_icmp_ge, e_icmp_gt, e_icmp_le, e_if_eq, e_if_ne, e_if_lt, e_if_ge, e_if_gt, e_if_le, e_getI, e_getR, e_putI, e_putZ, e_putR, e_iald, e_bald, e_zald, e_lald, e_aald, e_alen, e_iast, e_bast, e_zast, e_last, e_aast, e_iret, e_zret, e_lret, e_vret, e_obj, e_callV, e_callS, e_callT, e_acpy, e_ldcS, e_dn, e_ag, z_pop, List.getElem?_cons_zero, List.getElem?_cons_succ, List.set_cons_zero, List.set_cons_succ, List.length_cons, List.length_nil, z_nol, Option.map_some, Option.toList_some, Option.toList_none, List.cons_append, List.nil_append, n_lit, n_m1, n_m2, n_m1lt, n_m1le, n_rem, n_div, n_out, n_cl, n_eq, n_le, n_lt, n_add, n_mul, n_sub, n_nle, n_yle, n_nlt, n_ylt, n_neN, z_lay, z_sz, z_str, z_stI, z_stL, z_stR, eq_self, ↓reduceIte, true_and, and_true, and_self, false_and, and_false, or_self, false_or, or_false, true_or, or_true, not_true_eq_false, not_false_eq_true, Nat.reduceLeDiff, Nat.reduceLT, Nat.reduceAdd, Nat.reduceEqDiff, Nat.reduceMul, Nat.reduceSub, Value.category, Nat.zero_le, beq_self_eq_true]
    · show kX12_feed_0 [some (.ref ((B + 200))), some (.int (a)), some (.int (b)), some (.int (c)), some (.int (d)), some (.int (e))] [] (I, L, Z) = _
      simp (disch := omega) only [kX12_feed_0, hM.1, t3, e_push, e_pushl, e_iload, e_lload, e_aload, e_istore, e_astore, e_lstore, e_iinc, e_iadd, e_isub, e_imul, e_iand, e_ior, e_ixor, e_ishl, e_ishr, e_iushr, e_idiv, e_irem, e_ladd, e_lsub, e_lmul, e_lcmp, e_mmax, e_mmin, e_i2l, e_l2i, e_i2b, e_i2c, e_dup, e_dup2, e_pop, e_icmp_eq, e_icmp_ne, e_icmp_lt, e_icmp_ge, e_icmp_gt, e_icmp_le, e_if_eq, e_if_ne, e_if_lt, e_if_ge, e_if_gt, e_if_le, e_getI, e_getR, e_putI, e_putZ, e_putR, e_iald, e_bald, e_zald, e_lald, e_aald, e_alen, e_iast, e_bast, e_zast, e_last, e_aast, e_iret, e_zret, e_lret, e_vret, e_obj, e_callV, e_callS, e_callT, e_acpy, e_ldcS, e_dn, e_ag, z_pop, List.getElem?_cons_zero, List.getElem?_cons_succ, List.set_cons_zero, List.set_cons_succ, List.length_cons, List.length_nil, z_nol, Option.map_some, Option.toList_some, Option.toList_none, List.cons_append, List.nil_append, n_lit, n_m1, n_m2, n_m1lt, n_m1le, n_rem, n_div, n_out, n_cl, n_eq, n_le, n_lt, n_add, n_mul, n_sub, n_nle, n_yle, n_nlt, n_ylt, n_neN, z_lay, z_sz, z_str, z_stI, z_stL, z_stR, eq_self, ↓reduceIte, true_and, and_true, and_self, false_and, and_false, or_self, false_or, or_false, true_or, or_true, not_true_eq_false, not_false_eq_true, Nat.reduceLeDiff, Nat.reduceLT, Nat.reduceAdd, Nat.reduceEqDiff, Nat.reduceMul, Nat.reduceSub, Value.category, Nat.zero_le, beq_self_eq_true]
