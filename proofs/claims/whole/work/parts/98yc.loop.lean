/-! the law's loop -/
theorem law_31 {I1 I2 : Nat → Nat → Int32} {L1 L2 : Nat → Nat → Int64} {Z1 : zZ} {I : Nat → Nat → Int32} {L : Nat → Nat → Int64} {Z : zZ} {b N B i s : Nat} {xs : Nat → Int32} {v : Int32} (hB : Z.2.1 B = some (.inr 11)) (hM : Z.2.1 (B + 200) = some (.inr 12)) (hZ : Z1.2 = Z.2) (hN : N ≤ 3072) (hi : i + 6 ≤ N) (hx : xs i &&& nI 63 = nI 31) (hs : (xs (i + 4) = nI 0 ∧ s = 0) ∨ (¬ xs (i + 4) = nI 0 ∧ s = 1)) (o1 : fX11_tell [.ref B, .int (xs (i + 1)), .int (xs (i + 2)), .int (xs (i + 3)), .int (nI s)] (I, L, Z) = some (some (.int v), (I1, L1, Z1))) (o2 : fX12_tell [.ref (B + 200), .int (xs (i + 1)), .int (xs (i + 2)), .int (xs (i + 3)), .int (nI s)] (I1, L1, Z1) = some (some (.int v), (I2, L2, Z1))) : bL_law_18 b N xs [some (Value.ref (b)), some (Value.ref (B)), some (Value.ref ((B + 200))), some (Value.int (nI (i)))] [] (I, L, Z) = some (.inl ([some (Value.ref (b)), some (Value.ref (B)), some (Value.ref ((B + 200))), some (Value.int (nI (i + 6)))], (I2, L2, Z1))) := by
  have hM1 : Z1.2.1 (B + 200) = some (.inr 12) := by rw [hZ]; exact hM
  have hs1 : Z1.2.2.1 = Z.2.2.1 := by rw [hZ]
  rcases hs with ⟨h4, rfl⟩ | ⟨h4, rfl⟩
  · simp (disch := omega) only [bL_law_18, kL_law_1450, kL_law_1252, kL_law_1284, e_sld, e_sln, e_oL, hx, e_sw, hB, hM1, hs1, h4, o1, o2, e_push, e_pushl, e_iload, e_lload, e_aload, e_istore, e_astore, e_lstore, e_iinc, e_iadd, e_isub, e_imul, e_iand, e_ior, e_ixor, e_ishl, e_ishr, e_iushr, e_idiv, e_irem, e_ladd, e_lsub, e_lmul, e_lcmp, e_mmax, e_mmin, e_i2l, e_l2i, e_i2b, e_i2c, e_dup, e_dup2, e_pop, e_icmp_eq, e_icmp_ne, e_icmp_lt, e_icmp_ge, e_icmp_gt, e_icmp_le, e_if_eq, e_if_ne, e_if_lt, e_if_ge, e_if_gt, e_if_le, e_getI, e_getR, e_putI, e_putZ, e_putR, e_iald, e_bald, e_zald, e_lald, e_aald, e_alen, e_iast, e_bast, e_zast, e_last, e_aast, e_iret, e_zret, e_lret, e_vret, e_obj, e_callV, e_callS, e_callT, e_acpy, e_ldcS, e_dn, e_ag, z_pop, List.getElem?_cons_zero, List.getElem?_cons_succ, List.set_cons_zero, List.set_cons_succ, List.length_cons, List.length_nil, z_nol, Option.map_some, Option.toList_some, Option.toList_none, List.cons_append, List.nil_append, n_lit, n_m1, n_m2, n_m1lt, n_m1le, n_rem, n_div, n_out, n_cl, n_eq, n_le, n_lt, n_add, n_mul, n_sub, n_nle, n_yle, n_nlt, n_ylt, n_neN, z_lay, z_sz, z_str, z_stI, z_stL, z_stR, eq_self, ↓reduceIte, true_and, and_true, and_self, false_and, and_false, or_self, false_or, or_false, true_or, or_true, not_true_eq_false, not_false_eq_true, Nat.reduceLeDiff, Nat.reduceLT, Nat.reduceAdd, Nat.reduceEqDiff, Nat.reduceMul, Nat.reduceSub, Value.category, Nat.zero_le, beq_self_eq_true]
  · simp (disch := omega) only [bL_law_18, kL_law_1450, kL_law_1252, kL_law_1284, e_sld, e_sln, e_oL, hx, e_sw, hB, hM1, hs1, h4, o1, o2, e_push, e_pushl, e_iload, e_lload, e_aload, e_istore, e_astore, e_lstore, e_iinc, e_iadd, e_isub, e_imul, e_iand, e_ior, e_ixor, e_ishl, e_ishr, e_iushr, e_idiv, e_irem, e_ladd, e_lsub, e_lmul, e_lcmp, e_mmax, e_mmin, e_i2l, e_l2i, e_i2b, e_i2c, e_dup, e_dup2, e_pop, e_icmp_eq, e_icmp_ne, e_icmp_lt, e_icmp_ge, e_icmp_gt, e_icmp_le, e_if_eq, e_if_ne, e_if_lt, e_if_ge, e_if_gt, e_if_le, e_getI, e_getR, e_putI, e_putZ, e_putR, e_iald, e_bald, e_zald, e_lald, e_aald, e_alen, e_iast, e_bast, e_zast, e_last, e_aast, e_iret, e_zret, e_lret, e_vret, e_obj, e_callV, e_callS, e_callT, e_acpy, e_ldcS, e_dn, e_ag, z_pop, List.getElem?_cons_zero, List.getElem?_cons_succ, List.set_cons_zero, List.set_cons_succ, List.length_cons, List.length_nil, z_nol, Option.map_some, Option.toList_some, Option.toList_none, List.cons_append, List.nil_append, n_lit, n_m1, n_m2, n_m1lt, n_m1le, n_rem, n_div, n_out, n_cl, n_eq, n_le, n_lt, n_add, n_mul, n_sub, n_nle, n_yle, n_nlt, n_ylt, n_neN, z_lay, z_sz, z_str, z_stI, z_stL, z_stR, eq_self, ↓reduceIte, true_and, and_true, and_self, false_and, and_false, or_self, false_or, or_false, true_or, or_true, not_true_eq_false, not_false_eq_true, Nat.reduceLeDiff, Nat.reduceLT, Nat.reduceAdd, Nat.reduceEqDiff, Nat.reduceMul, Nat.reduceSub, Value.category, Nat.zero_le, beq_self_eq_true]
theorem law_no {I : Nat → Nat → Int32} {L : Nat → Nat → Int64} {Z : zZ} {b N B i t : Nat} {xs : Nat → Int32} (hN : N ≤ 3072) (hi : i + 6 ≤ N) (hx : xs i &&& nI 63 = nI t) (ht : 38 ≤ t) (ht2 : t < 64) : bL_law_18 b N xs [some (Value.ref (b)), some (Value.ref (B)), some (Value.ref ((B + 200))), some (Value.int (nI (i)))] [] (I, L, Z) = some (.inl ([some (Value.ref (b)), some (Value.ref (B)), some (Value.ref ((B + 200))), some (Value.int (nI (i + 6)))], (I, L, Z))) := by
  simp (disch := omega) only [bL_law_18, e_sld, e_sln, e_oL, hx, e_push, e_pushl, e_iload, e_lload, e_aload, e_istore, e_astore, e_lstore, e_iinc, e_iadd, e_isub, e_imul, e_iand, e_ior, e_ixor, e_ishl, e_ishr, e_iushr, e_idiv, e_irem, e_ladd, e_lsub, e_lmul, e_lcmp, e_mmax, e_mmin, e_i2l, e_l2i, e_i2b, e_i2c, e_dup, e_dup2, e_pop, e_icmp_eq, e_icmp_ne, e_icmp_lt, e_icmp_ge, e_icmp_gt, e_icmp_le, e_if_eq, e_if_ne, e_if_lt, e_if_ge, e_if_gt, e_if_le, e_getI, e_getR, e_putI, e_putZ, e_putR, e_iald, e_bald, e_zald, e_lald, e_aald, e_alen, e_iast, e_bast, e_zast, e_last, e_aast, e_iret, e_zret, e_lret, e_vret, e_obj, e_callV, e_callS, e_callT, e_acpy, e_ldcS, e_dn, e_ag, z_pop, List.getElem?_cons_zero, List.getElem?_cons_succ, List.set_cons_zero, List.set_cons_succ, List.length_cons, List.length_nil, z_nol, Option.map_some, Option.toList_some, Option.toList_none, List.cons_append, List.nil_append, n_lit, n_m1, n_m2, n_m1lt, n_m1le, n_rem, n_div, n_out, n_cl, n_eq, n_le, n_lt, n_add, n_mul, n_sub, n_nle, n_yle, n_nlt, n_ylt, n_neN, z_lay, z_sz, z_str, z_stI, z_stL, z_stR, eq_self, ↓reduceIte, true_and, and_true, and_self, false_and, and_false, or_self, false_or, or_false, true_or, or_true, not_true_eq_false, not_false_eq_true, Nat.reduceLeDiff, Nat.reduceLT, Nat.reduceAdd, Nat.reduceEqDiff, Nat.reduceMul, Nat.reduceSub, Value.category, Nat.zero_le, beq_self_eq_true]
  rw [e_sw_out (n := 38) rfl (Or.inr ?_) (by decide)]
  · simp (disch := omega) only [kL_law_1450, e_push, e_pushl, e_iload, e_lload, e_aload, e_istore, e_astore, e_lstore, e_iinc, e_iadd, e_isub, e_imul, e_iand, e_ior, e_ixor, e_ishl, e_ishr, e_iushr, e_idiv, e_irem, e_ladd, e_lsub, e_lmul, e_lcmp, e_mmax, e_mmin, e_i2l, e_l2i, e_i2b, e_i2c, e_dup, e_dup2, e_pop, e_icmp_eq, e_icmp_ne, e_icmp_lt, e_icmp_ge, e_icmp_gt, e_icmp_le, e_if_eq, e_if_ne, e_if_lt, e_if_ge, e_if_gt, e_if_le, e_getI, e_getR, e_putI, e_putZ, e_putR, e_iald, e_bald, e_zald, e_lald, e_aald, e_alen, e_iast, e_bast, e_zast, e_last, e_aast, e_iret, e_zret, e_lret, e_vret, e_obj, e_callV, e_callS, e_callT, e_acpy, e_ldcS, e_dn, e_ag, z_pop, List.getElem?_cons_zero, List.getElem?_cons_succ, List.set_cons_zero, List.set_cons_succ, List.length_cons, List.length_nil, z_nol, Option.map_some, Option.toList_some, Option.toList_none, List.cons_append, List.nil_append, n_lit, n_m1, n_m2, n_m1lt, n_m1le, n_rem, n_div, n_out, n_cl, n_eq, n_le, n_lt, n_add, n_mul, n_sub, n_nle, n_yle, n_nlt, n_ylt, n_neN, z_lay, z_sz, z_str, z_stI, z_stL, z_stR, eq_self, ↓reduceIte, true_and, and_true, and_self, false_and, and_false, or_self, false_or, or_false, true_or, or_true, not_true_eq_false, not_false_eq_true, Nat.reduceLeDiff, Nat.reduceLT, Nat.reduceAdd, Nat.reduceEqDiff, Nat.reduceMul, Nat.reduceSub, Value.category, Nat.zero_le, beq_self_eq_true]
  · rw [n_le (by omega) (by omega)]
    exact ht
theorem law_step {σ : zS} {b N B i : Nat} {xs : Nat → Int32} (hI : lawI σ B) (hN : N ≤ 3072) (hi : i + 6 ≤ N) : ∃ σ', bL_law_18 b N xs [some (Value.ref (b)), some (Value.ref (B)), some (Value.ref ((B + 200))), some (Value.int (nI (i)))] [] σ = some (.inl ([some (Value.ref (b)), some (Value.ref (B)), some (Value.ref ((B + 200))), some (Value.int (nI (i + 6)))], σ')) ∧ lawI σ' B := by
  obtain ⟨I, L, Z, rfl, hS, tx, lv, nc, ch, rows, hW, len, col, tm, pd, hF⟩ := hI
  have hB := cl_B hW.1
  have hM := hW.2.1.1
  obtain ⟨t, ht, hx⟩ := by_and63 (xs i)
  by_cases g38 : 38 ≤ t
  · exact ⟨_, law_no hN hi hx g38 ht, I, L, Z, rfl, hS, tx, lv, nc, ch, rows, hW, len, col, tm, pd, hF⟩
  · rcases (show t = 0 ∨ t = 1 ∨ t = 2 ∨ t = 3 ∨ t = 4 ∨ t = 5 ∨ t = 6 ∨ t = 7 ∨ t = 8 ∨ t = 9 ∨ t = 10 ∨ t = 11 ∨ t = 12 ∨ t = 13 ∨ t = 14 ∨ t = 15 ∨ t = 16 ∨ t = 17 ∨ t = 18 ∨ t = 19 ∨ t = 20 ∨ t = 21 ∨ t = 22 ∨ t = 23 ∨ t = 24 ∨ t = 25 ∨ t = 26 ∨ t = 27 ∨ t = 28 ∨ t = 29 ∨ t = 30 ∨ t = 31 ∨ t = 32 ∨ t = 33 ∨ t = 34 ∨ t = 35 ∨ t = 36 ∨ t = 37 by omega) with rfl | rfl | rfl | rfl | rfl | rfl | rfl | rfl | rfl | rfl | rfl | rfl | rfl | rfl | rfl | rfl | rfl | rfl | rfl | rfl | rfl | rfl | rfl | rfl | rfl | rfl | rfl | rfl | rfl | rfl | rfl | rfl | rfl | rfl | rfl | rfl | rfl | rfl
    · obtain ⟨v, I1, I2, o1, o2, w⟩ := lawI_ok hS (o_feed hW hF (xs (i + 1)) (xs (i + 2)) (xs (i + 3)) (xs (i + 4)) (xs (i + 5)))
      exact ⟨_, law_0 hB hM rfl hN hi hx o1 o2, w⟩
    · obtain ⟨v, I1, I2, o1, o2, w⟩ := lawI_ok hS (o_back hW hF (xs (i + 1)))
      exact ⟨_, law_1 hB hM rfl hN hi hx o1 o2, w⟩
    · obtain ⟨v, I1, L1, Z1, I2, L2, o1, o2, hZ, w⟩ := o_read hW hF hS
      refine ⟨_, law_2 hB hM hZ hN hi hx o1 o2, I2, L2, Z1, rfl, ?_, w⟩
      unfold strOk at hS ⊢
      rw [hZ]
      exact hS
    · obtain ⟨v, I1, I2, o1, o2, w⟩ := lawI_ok hS (askOp.ok hW hF (o_place hW))
      exact ⟨_, law_3 hB hM rfl hN hi hx o1 o2, w⟩
    · obtain ⟨v, I1, I2, o1, o2, w⟩ := lawI_ok hS (askOp.ok hW hF (o_child hW.1 hW.2.1 hF.1 hF.2.1 (xs (i + 1)) (xs (i + 2))))
      exact ⟨_, law_4 hB hM rfl hN hi hx o1 o2, w⟩
    · obtain ⟨v, I1, I2, o1, o2, w⟩ := lawI_ok hS (askOp.ok hW hF (o_row hW hF (xs (i + 1)) (xs (i + 2))))
      exact ⟨_, law_5 hB hM rfl hN hi hx o1 o2, w⟩
    · obtain ⟨v, I1, I2, o1, o2, w⟩ := lawI_ok hS (askOp.ok hW hF (o_at hW.1 hW.2.1 hF.1 hF.2.1 hW.2.2.1 (xs (i + 1)) (xs (i + 2)) (xs (i + 3))))
      exact ⟨_, law_6 hB hM rfl hN hi hx o1 o2, w⟩
    · obtain ⟨v, I1, I2, o1, o2, w⟩ := lawI_ok hS (askOp.ok hW hF (o_worth hW hF (xs (i + 1)) (xs (i + 2)) (xs (i + 3))))
      exact ⟨_, law_7 hB hM rfl hN hi hx o1 o2, w⟩
    · obtain ⟨v, I1, I2, o1, o2, w⟩ := lawI_ok hS (askOp.ok hW hF (o_many hW.1 hW.2.1 hF.1 hF.2.1 hW.2.2.1 (xs (i + 1)) (xs (i + 2))))
      exact ⟨_, law_8 hB hM rfl hN hi hx o1 o2, w⟩
    · obtain ⟨v, I1, I2, o1, o2, w⟩ := lawI_ok hS (askOp.ok hW hF (o_side hW hF (xs (i + 1)) (xs (i + 2)) (xs (i + 3))))
      exact ⟨_, law_9 hB hM rfl hN hi hx o1 o2, w⟩
    · obtain ⟨v, I1, I2, o1, o2, w⟩ := lawI_ok hS (askOp.ok hW hF (o_costs hW hF (xs (i + 1)) (xs (i + 2)) (xs (i + 3))))
      exact ⟨_, law_10 hB hM rfl hN hi hx o1 o2, w⟩
    · obtain ⟨v, I1, I2, o1, o2, w⟩ := lawI_ok hS (o_paint hW hF (xs (i + 1)) (xs (i + 2)) (xs (i + 3)))
      exact ⟨_, law_11 hB hM rfl hN hi hx o1 o2, w⟩
    · obtain ⟨v, I1, I2, o1, o2, w⟩ := lawI_ok hS (o_come hW hF (xs (i + 1)) (xs (i + 2)))
      exact ⟨_, law_12 hB hM rfl hN hi hx o1 o2, w⟩
    · obtain ⟨v, I1, I2, o1, o2, w⟩ := lawI_ok hS (o_go hW hF (xs (i + 1)))
      exact ⟨_, law_13 hB hM rfl hN hi hx o1 o2, w⟩
    · obtain ⟨v, I1, I2, o1, o2, w⟩ := lawI_ok hS (o_times hW hF (xs (i + 1)))
      exact ⟨_, law_14 hB hM rfl hN hi hx o1 o2, w⟩
    · obtain ⟨v, I1, I2, o1, o2, w⟩ := lawI_ok hS (o_undo hW hF )
      exact ⟨_, law_15 hB hM rfl hN hi hx o1 o2, w⟩
    · obtain ⟨v, I1, I2, o1, o2, w⟩ := lawI_ok hS (o_makes hW hF (xs (i + 1)) (xs (i + 2)) (xs (i + 3)))
      exact ⟨_, law_16 hB hM rfl hN hi hx o1 o2, w⟩
    · obtain ⟨v, I1, I2, o1, o2, w⟩ := lawI_ok hS (askOp.ok hW hF (o_repaint hW hF (xs (i + 1)) (xs (i + 2)) (xs (i + 3))))
      exact ⟨_, law_17 hB hM rfl hN hi hx o1 o2, w⟩
    · obtain ⟨v, I1, I2, o1, o2, w⟩ := lawI_ok hS (askOp.ok hW hF (o_fairly hW hF (xs (i + 1)) (xs (i + 2))))
      exact ⟨_, law_18 hB hM rfl hN hi hx o1 o2, w⟩
    · obtain ⟨v, I1, I2, o1, o2, w⟩ := lawI_ok hS (askOp.ok hW hF (o_matters hW hF (xs (i + 1))))
      exact ⟨_, law_19 hB hM rfl hN hi hx o1 o2, w⟩
    · obtain ⟨v, I1, I2, o1, o2, w⟩ := lawI_ok hS (askOp.ok hW hF (o_parents hW hF (xs (i + 1)) (xs (i + 2))))
      exact ⟨_, law_20 hB hM rfl hN hi hx o1 o2, w⟩
    · obtain ⟨v, I1, I2, o1, o2, w⟩ := lawI_ok hS (askOp.ok hW hF (o_orphans hW hF (xs (i + 1))))
      exact ⟨_, law_21 hB hM rfl hN hi hx o1 o2, w⟩
    · obtain ⟨v, I1, I2, o1, o2, w⟩ := lawI_ok hS (askOp.ok hW hF (o_ring hW hF (xs (i + 1)) (xs (i + 2))))
      exact ⟨_, law_22 hB hM rfl hN hi hx o1 o2, w⟩
    · obtain ⟨v, I1, I2, o1, o2, w⟩ := lawI_ok hS (askOp.ok hW hF (o_after hW hF (xs (i + 1)) (xs (i + 2)) (xs (i + 3))))
      exact ⟨_, law_23 hB hM rfl hN hi hx o1 o2, w⟩
    · obtain ⟨v, I1, I2, o1, o2, w⟩ := lawI_ok hS (askOp.ok hW hF (o_ways hW hF ))
      exact ⟨_, law_24 hB hM rfl hN hi hx o1 o2, w⟩
    · obtain ⟨v, I1, I2, o1, o2, w⟩ := lawI_ok hS (askOp.ok hW hF (o_shut hW hF (xs (i + 1))))
      exact ⟨_, law_25 hB hM rfl hN hi hx o1 o2, w⟩
    · obtain ⟨v, I1, I2, o1, o2, w⟩ := lawI_ok hS (askOp.ok hW hF (o_deep hW hF (xs (i + 1)) (xs (i + 2))))
      exact ⟨_, law_26 hB hM rfl hN hi hx o1 o2, w⟩
    · obtain ⟨v, I1, I2, o1, o2, w⟩ := lawI_ok hS (o_game hW hF (xs (i + 1)) (xs (i + 2)) (xs (i + 3)))
      exact ⟨_, law_27 hB hM rfl hN hi hx o1 o2, w⟩
    · obtain ⟨v, I1, I2, o1, o2, w⟩ := lawI_ok hS (askOp.ok hW hF (o_then hW hF (xs (i + 1)) (xs (i + 2)) (xs (i + 3))))
      exact ⟨_, law_28 hB hM rfl hN hi hx o1 o2, w⟩
    · obtain ⟨v, I1, I2, o1, o2, w⟩ := lawI_ok hS (askOp.ok hW hF (o_paidIn hW hF (xs (i + 1))))
      exact ⟨_, law_29 hB hM rfl hN hi hx o1 o2, w⟩
    · obtain ⟨v, I1, I2, o1, o2, w⟩ := lawI_ok hS (askOp.ok hW hF (o_year hW hF (xs (i + 1)) (xs (i + 2)) (xs (i + 3)) (xs (i + 4))))
      exact ⟨_, law_30 hB hM rfl hN hi hx o1 o2, w⟩
    · have hs : ∃ s, s < 2 ∧ ((xs (i + 4) = nI 0 ∧ s = 0) ∨ (¬ xs (i + 4) = nI 0 ∧ s = 1)) := by
        by_cases z : xs (i + 4) = nI 0
        · exact ⟨0, by decide, Or.inl ⟨z, rfl⟩⟩
        · exact ⟨1, by decide, Or.inr ⟨z, rfl⟩⟩
      obtain ⟨s, s2, hs⟩ := hs
      obtain ⟨v, I1, I2, o1, o2, w⟩ := lawI_ok hS (o_tell hW hF (xs (i + 1)) (xs (i + 2)) (xs (i + 3)) s s2)
      exact ⟨_, law_31 hB hM rfl hN hi hx hs o1 o2, w⟩
    · obtain ⟨v, I1, I2, o1, o2, w⟩ := lawI_ok hS (o_forget hW hF )
      exact ⟨_, law_32 hB hM rfl hN hi hx o1 o2, w⟩
    · obtain ⟨v, I1, I2, o1, o2, w⟩ := lawI_ok hS (askOp.ok hW hF (o_rows hW hF (xs (i + 1)) (xs (i + 2)) (xs (i + 3))))
      exact ⟨_, law_33 hB hM rfl hN hi hx o1 o2, w⟩
    · obtain ⟨v, I1, I2, o1, o2, w⟩ := lawI_ok hS (askOp.ok hW hF (o_look hW hF (xs (i + 1)) (xs (i + 2))))
      exact ⟨_, law_34 hB hM rfl hN hi hx o1 o2, w⟩
    · obtain ⟨v, I1, I2, o1, o2, w⟩ := lawI_ok hS (o_hold hW hF (xs (i + 1)))
      exact ⟨_, law_35 hB hM rfl hN hi hx o1 o2, w⟩
    · obtain ⟨v, I1, I2, o1, o2, w⟩ := lawI_ok hS (o_restore hW hF (xs (i + 1)))
      exact ⟨_, law_36 hB hM rfl hN hi hx o1 o2, w⟩
    · obtain ⟨v, I1, I2, o1, o2, w⟩ := lawI_ok hS (askOp.ok hW hF (o_count hW hF (xs (i + 1))))
      exact ⟨_, law_37 hB hM rfl hN hi hx o1 o2, w⟩
theorem neg6 : ∀ N, N < 6 → nI N - nI 6 < nI 0 := by decide +kernel
theorem law_end {I : Nat → Nat → Int32} {L : Nat → Nat → Int64} {Z : zZ} {b N B i : Nat} {xs : Nat → Int32} (hN : N ≤ 3072) (hi : ¬ i + 6 ≤ N) (hiN : i ≤ N) (h6 : i % 6 = 0) : bL_law_18 b N xs [some (Value.ref (b)), some (Value.ref (B)), some (Value.ref ((B + 200))), some (Value.int (nI (i)))] [] (I, L, Z) = some (.inr (some (.int (nI 1)), (I, L, Z))) := by
  by_cases g : N < 6
  · have e : i = 0 := by omega
    subst e
    have ng : (nI N - nI 6 < nI 0) = True := eq_true (neg6 N g)
    simp (disch := omega) only [bL_law_18, kL_law_1456, e_sln, e_oL, ng, Option.map_some, e_push, e_pushl, e_iload, e_lload, e_aload, e_istore, e_astore, e_lstore, e_iinc, e_iadd, e_isub, e_imul, e_iand, e_ior, e_ixor, e_ishl, e_ishr, e_iushr, e_idiv, e_irem, e_ladd, e_lsub, e_lmul, e_lcmp, e_mmax, e_mmin, e_i2l, e_l2i, e_i2b, e_i2c, e_dup, e_dup2, e_pop, e_icmp_eq, e_icmp_ne, e_icmp_lt, e_icmp_ge, e_icmp_gt, e_icmp_le, e_if_eq, e_if_ne, e_if_lt, e_if_ge, e_if_gt, e_if_le, e_getI, e_getR, e_putI, e_putZ, e_putR, e_iald, e_bald, e_zald, e_lald, e_aald, e_alen, e_iast, e_bast, e_zast, e_last, e_aast, e_iret, e_zret, e_lret, e_vret, e_obj, e_callV, e_callS, e_callT, e_acpy, e_ldcS, e_dn, e_ag, z_pop, List.getElem?_cons_zero, List.getElem?_cons_succ, List.set_cons_zero, List.set_cons_succ, List.length_cons, List.length_nil, z_nol, Option.map_some, Option.toList_some, Option.toList_none, List.cons_append, List.nil_append, n_lit, n_m1, n_m2, n_m1lt, n_m1le, n_rem, n_div, n_out, n_cl, n_eq, n_le, n_lt, n_add, n_mul, n_sub, n_nle, n_yle, n_nlt, n_ylt, n_neN, z_lay, z_sz, z_str, z_stI, z_stL, z_stR, eq_self, ↓reduceIte, true_and, and_true, and_self, false_and, and_false, or_self, false_or, or_false, true_or, or_true, not_true_eq_false, not_false_eq_true, Nat.reduceLeDiff, Nat.reduceLT, Nat.reduceAdd, Nat.reduceEqDiff, Nat.reduceMul, Nat.reduceSub, Value.category, Nat.zero_le, beq_self_eq_true]
  · simp (disch := omega) only [bL_law_18, kL_law_1456, e_sln, e_oL, Option.map_some, e_push, e_pushl, e_iload, e_lload, e_aload, e_istore, e_astore, e_lstore, e_iinc, e_iadd, e_isub, e_imul, e_iand, e_ior, e_ixor, e_ishl, e_ishr, e_iushr, e_idiv, e_irem, e_ladd, e_lsub, e_lmul, e_lcmp, e_mmax, e_mmin, e_i2l, e_l2i, e_i2b, e_i2c, e_dup, e_dup2, e_pop, e_icmp_eq, e_icmp_ne, e_icmp_lt, e_icmp_ge, e_icmp_gt, e_icmp_le, e_if_eq, e_if_ne, e_if_lt, e_if_ge, e_if_gt, e_if_le, e_getI, e_getR, e_putI, e_putZ, e_putR, e_iald, e_bald, e_zald, e_lald, e_aald, e_alen, e_iast, e_bast, e_zast, e_last, e_aast, e_iret, e_zret, e_lret, e_vret, e_obj, e_callV, e_callS, e_callT, e_acpy, e_ldcS, e_dn, e_ag, z_pop, List.getElem?_cons_zero, List.getElem?_cons_succ, List.set_cons_zero, List.set_cons_succ, List.length_cons, List.length_nil, z_nol, Option.map_some, Option.toList_some, Option.toList_none, List.cons_append, List.nil_append, n_lit, n_m1, n_m2, n_m1lt, n_m1le, n_rem, n_div, n_out, n_cl, n_eq, n_le, n_lt, n_add, n_mul, n_sub, n_nle, n_yle, n_nlt, n_ylt, n_neN, z_lay, z_sz, z_str, z_stI, z_stL, z_stR, eq_self, ↓reduceIte, true_and, and_true, and_self, false_and, and_false, or_self, false_or, or_false, true_or, or_true, not_true_eq_false, not_false_eq_true, Nat.reduceLeDiff, Nat.reduceLT, Nat.reduceAdd, Nat.reduceEqDiff, Nat.reduceMul, Nat.reduceSub, Value.category, Nat.zero_le, beq_self_eq_true]
theorem law_loop {b N B : Nat} {xs : Nat → Int32} (hN : N ≤ 3072) : ∀ m i σ, N < i + 6 * m → i ≤ N → i % 6 = 0 → lawI σ B → ∃ σ', q_lp (bL_law_18 b N xs) [some (Value.ref (b)), some (Value.ref (B)), some (Value.ref ((B + 200))), some (Value.int (nI (i)))] [] σ = some (some (.int (nI 1)), σ') := by
  intro m
  induction m with
  | zero =>
    intro i σ h1 h2
    omega
  | succ m ih =>
    intro i σ h1 h2 h6 hI
    by_cases g : i + 6 ≤ N
    · obtain ⟨σ1, a1, a2⟩ := law_step (b := b) (xs := xs) hI hN g
      obtain ⟨σ2, b1⟩ := ih (i + 6) σ1 (by omega) g (by omega) a2
      refine ⟨σ2, ?_⟩
      rw [q_lp_eq, a1]
      exact b1
    · obtain ⟨I, L, Z, rfl, -⟩ := hI
      refine ⟨(I, L, Z), ?_⟩
      rw [q_lp_eq, law_end hN g h2 h6]
theorem law_all {σ : zS} {b N B : Nat} {xs : Nat → Int32} (hN : N ≤ 3072) (hI : lawI σ B) : ∃ σ', kL_law_16 b N xs [some (.ref b), some (.ref B), some (.ref (B + 200)), none] [] σ = some (some (.int 1), σ') := by
  obtain ⟨σ', e⟩ := law_loop (b := b) (xs := xs) hN 600 0 σ (by omega) (Nat.zero_le _) rfl hI
  refine ⟨σ', ?_⟩
  obtain ⟨I, L, Z, rfl, -⟩ := hI
  show _ = some (some (Value.int (nI 1)), σ')
  simp (disch := omega) only [kL_law_16, kL_law_18, e, e_push, e_pushl, e_iload, e_lload, e_aload, e_istore, e_astore, e_lstore, e_iinc, e_iadd, e_isub, e_imul, e_iand, e_ior, e_ixor, e_ishl, e_ishr, e_iushr, e_idiv, e_irem, e_ladd, e_lsub, e_lmul, e_lcmp, e_mmax, e_mmin, e_i2l, e_l2i, e_i2b, e_i2c, e_dup, e_dup2, e_pop, e_icmp_eq, e_icmp_ne, e_icmp_lt, e_icmp_ge, e_icmp_gt, e_icmp_le, e_if_eq, e_if_ne, e_if_lt, e_if_ge, e_if_gt, e_if_le, e_getI, e_getR, e_putI, e_putZ, e_putR, e_iald, e_bald, e_zald, e_lald, e_aald, e_alen, e_iast, e_bast, e_zast, e_last, e_aast, e_iret, e_zret, e_lret, e_vret, e_obj, e_callV, e_callS, e_callT, e_acpy, e_ldcS, e_dn, e_ag, z_pop, List.getElem?_cons_zero, List.getElem?_cons_succ, List.set_cons_zero, List.set_cons_succ, List.length_cons, List.length_nil, z_nol, Option.map_some, Option.toList_some, Option.toList_none, List.cons_append, List.nil_append, n_lit, n_m1, n_m2, n_m1lt, n_m1le, n_rem, n_div, n_out, n_cl, n_eq, n_le, n_lt, n_add, n_mul, n_sub, n_nle, n_yle, n_nlt, n_ylt, n_neN, z_lay, z_sz, z_str, z_stI, z_stL, z_stR, eq_self, ↓reduceIte, true_and, and_true, and_self, false_and, and_false, or_self, false_or, or_false, true_or, or_true, not_true_eq_false, not_false_eq_true, Nat.reduceLeDiff, Nat.reduceLT, Nat.reduceAdd, Nat.reduceEqDiff, Nat.reduceMul, Nat.reduceSub, Value.category, Nat.zero_le, beq_self_eq_true]
