--deps: 54.lazy 54.mem 55.mem2 56.rmem 57.spec 58.inv 59.keep 60.fin 61.ops2 62.ops3 63.tape 64.told 65.ev 66.law 67.expr 68.good
/-! the class's law as a whole -/
theorem p_passElse {I : Nat → Nat → Int32} {L : Nat → Nat → Int64} {Z : zZ} {B tx sz i j : Nat} {g : Int32} {K W : Nat → Nat} (h : isCls Z B tx) (hT : tokC I L B tx K W sz) (hn : noEl K i j) (hj : j < 400) (hK : K j = 10) : fX2_passElse [.ref (B + 40), .ref (B + (tx + 1))] (atI I B i g, L, Z) = some (none, (atI I B (j + 1) g, L, Z)) := by
  have htx := h.1
  show kX2_passElse_0 [some (.ref ((B + 40))), some (.ref ((B + (tx + 1))))] [] (atI I B i g, L, Z) = _
  simp (disch := omega) only [kX2_passElse_0, e_push, e_pushl, e_iload, e_lload, e_aload, e_istore, e_astore, e_lstore, e_iinc, e_iadd, e_isub, e_imul, e_iand, e_ior, e_ixor, e_ishl, e_ishr, e_iushr, e_idiv, e_irem, e_ladd, e_lsub, e_lmul, e_lcmp, e_mmax, e_mmin, e_i2l, e_l2i, e_i2b, e_i2c, e_dup, e_dup2, e_pop, e_icmp_eq, e_icmp_ne, e_icmp_lt, e_icmp_ge, e_icmp_gt, e_icmp_le, e_if_eq, e_if_ne, e_if_lt, e_if_ge, e_if_gt, e_if_le, e_getI, e_getR, e_putI, e_putZ, e_putR, e_iald, e_bald, e_zald, e_lald, e_aald, e_alen, e_iast, e_bast, e_zast, e_last, e_aast, e_iret, e_zret, e_lret, e_vret, e_obj, e_callV, e_callS, e_callT, e_acpy, e_ldcS, e_dn, e_ag, z_pop, List.getElem?_cons_zero, List.getElem?_cons_succ, List.set_cons_zero, List.set_cons_succ, List.length_cons, List.length_nil, z_nol, Option.map_some, Option.toList_some, Option.toList_none, List.cons_append, List.nil_append, n_lit, n_m1, n_m2, n_m1lt, n_m1le, n_rem, n_div, n_out, n_cl, n_eq, n_le, n_lt, n_add, n_mul, n_sub, n_nle, n_yle, n_nlt, n_ylt, n_neN, z_lay, z_sz, z_str, z_stI, z_stL, z_stR, eq_self, ↓reduceIte, true_and, and_true, and_self, false_and, and_false, or_self, false_or, or_false, true_or, or_true, not_true_eq_false, not_false_eq_true, Nat.reduceLeDiff, Nat.reduceLT, Nat.reduceAdd, Nat.reduceEqDiff, Nat.reduceMul, Nat.reduceSub, Value.category, Nat.zero_le, beq_self_eq_true]
  have := lp_for (body := bX2_passElse_0) (o := some (none, (atI I B (j + 1) g, L, Z))) (fun _ => [some (.ref ((B + 40))), some (.ref ((B + (tx + 1))))]) (fun k => (atI I B (i + k) g, L, Z)) (j - i) ?_ ?_
  · exact this
  · have e : i + (j - i) = j := by have := hn.1; omega
    rw [e]
    have hk := p_kind (I := atI I B j g) (L := L) (i := j) h (hT.at htx) (by omega)
    rw [hK] at hk
    simp (disch := omega) only [bX2_passElse_0, kX2_passElse_36, kX2_passElse_0, cl_40 h, tl_1 h, atI_1, hk, atI_u1, e_push, e_pushl, e_iload, e_lload, e_aload, e_istore, e_astore, e_lstore, e_iinc, e_iadd, e_isub, e_imul, e_iand, e_ior, e_ixor, e_ishl, e_ishr, e_iushr, e_idiv, e_irem, e_ladd, e_lsub, e_lmul, e_lcmp, e_mmax, e_mmin, e_i2l, e_l2i, e_i2b, e_i2c, e_dup, e_dup2, e_pop, e_icmp_eq, e_icmp_ne, e_icmp_lt, e_icmp_ge, e_icmp_gt, e_icmp_le, e_if_eq, e_if_ne, e_if_lt, e_if_ge, e_if_gt, e_if_le, e_getI, e_getR, e_putI, e_putZ, e_putR, e_iald, e_bald, e_zald, e_lald, e_aald, e_alen, e_iast, e_bast, e_zast, e_last, e_aast, e_iret, e_zret, e_lret, e_vret, e_obj, e_callV, e_callS, e_callT, e_acpy, e_ldcS, e_dn, e_ag, z_pop, List.getElem?_cons_zero, List.getElem?_cons_succ, List.set_cons_zero, List.set_cons_succ, List.length_cons, List.length_nil, z_nol, Option.map_some, Option.toList_some, Option.toList_none, List.cons_append, List.nil_append, n_lit, n_m1, n_m2, n_m1lt, n_m1le, n_rem, n_div, n_out, n_cl, n_eq, n_le, n_lt, n_add, n_mul, n_sub, n_nle, n_yle, n_nlt, n_ylt, n_neN, z_lay, z_sz, z_str, z_stI, z_stL, z_stR, eq_self, ↓reduceIte, true_and, and_true, and_self, false_and, and_false, or_self, false_or, or_false, true_or, or_true, not_true_eq_false, not_false_eq_true, Nat.reduceLeDiff, Nat.reduceLT, Nat.reduceAdd, Nat.reduceEqDiff, Nat.reduceMul, Nat.reduceSub, Value.category, Nat.zero_le, beq_self_eq_true]
  · intro k hk0
    have hk := p_kind (I := atI I B (i + k) g) (L := L) (i := i + k) h (hT.at htx) (by omega)
    have hlt := hT.lt (i + k)
    have hne := hn.2.2 (i + k) (by omega) (by omega)
    simp (disch := omega) only [bX2_passElse_0, kX2_passElse_36, kX2_passElse_0, cl_40 h, tl_1 h, atI_1, hk, n_neN hne, atI_u1, Nat.add_assoc, e_push, e_pushl, e_iload, e_lload, e_aload, e_istore, e_astore, e_lstore, e_iinc, e_iadd, e_isub, e_imul, e_iand, e_ior, e_ixor, e_ishl, e_ishr, e_iushr, e_idiv, e_irem, e_ladd, e_lsub, e_lmul, e_lcmp, e_mmax, e_mmin, e_i2l, e_l2i, e_i2b, e_i2c, e_dup, e_dup2, e_pop, e_icmp_eq, e_icmp_ne, e_icmp_lt, e_icmp_ge, e_icmp_gt, e_icmp_le, e_if_eq, e_if_ne, e_if_lt, e_if_ge, e_if_gt, e_if_le, e_getI, e_getR, e_putI, e_putZ, e_putR, e_iald, e_bald, e_zald, e_lald, e_aald, e_alen, e_iast, e_bast, e_zast, e_last, e_aast, e_iret, e_zret, e_lret, e_vret, e_obj, e_callV, e_callS, e_callT, e_acpy, e_ldcS, e_dn, e_ag, z_pop, List.getElem?_cons_zero, List.getElem?_cons_succ, List.set_cons_zero, List.set_cons_succ, List.length_cons, List.length_nil, z_nol, Option.map_some, Option.toList_some, Option.toList_none, List.cons_append, List.nil_append, n_lit, n_m1, n_m2, n_m1lt, n_m1le, n_rem, n_div, n_out, n_cl, n_eq, n_le, n_lt, n_add, n_mul, n_sub, n_nle, n_yle, n_nlt, n_ylt, n_neN, z_lay, z_sz, z_str, z_stI, z_stL, z_stR, eq_self, ↓reduceIte, true_and, and_true, and_self, false_and, and_false, or_self, false_or, or_false, true_or, or_true, not_true_eq_false, not_false_eq_true, Nat.reduceLeDiff, Nat.reduceLT, Nat.reduceAdd, Nat.reduceEqDiff, Nat.reduceMul, Nat.reduceSub, Value.category, Nat.zero_le, beq_self_eq_true]
theorem evQ_getD {w : Option Int32} {x g' : Int32} (h : evQ w x (nI 0) g') : (g' = nI 0 ∧ w.getD (nI 0) = x) ∨ (g' = nI 1 ∧ w.getD (nI 0) = nI 0) := by
  cases w with
  | none => exact Or.inr ⟨h, rfl⟩
  | some v => exact Or.inl ⟨h.2, h.1.symm⟩
/-- the last term -/
theorem told_end {I : Nat → Nat → Int32} {L : Nat → Nat → Int64} {Z : zZ} {B tx sz s j : Nat} {c : List (Nat × Nat)} {K W : Nat → Nat} {vs : Nat → Int32} {a4 a5 a6 : Option Value} {a2 : Option Value} {a3 : Int32} (h : isCls Z B tx) (hT : tokC I L B tx K W sz) (hv : ∀ k, k < 9 → I (B + 41) k = vs k) (he : sE K W s = (0, j, c)) :
    ∃ g', kX2_told_121 [some (.ref ((B + 40))), some (.ref ((B + (tx + 1)))), a2, some (.int (a3)), a4, a5, a6] [] (atI I B s (nI 0), L, Z) = some (some (.int (((ev vs c []).bind List.head?).getD (nI 0))), (atI I B j g', L, Z)) := by
  obtain ⟨w, x, g', b1, b2, b3⟩ := ex_all h hT hv s j c (nI 0) he (Or.inl rfl)
  rw [b1.get]
  refine ⟨g', ?_⟩
  rcases evQ_getD b3 with ⟨rfl, e⟩ | ⟨rfl, e⟩
  · simp (disch := omega) only [kX2_told_142, kX2_told_121, kX2_told_115, kX2_told_105, kX2_told_91, kX2_told_15, kX2_told_0, cl_40 h, b2, atI_2, e, e_push, e_pushl, e_iload, e_lload, e_aload, e_istore, e_astore, e_lstore, e_iinc, e_iadd, e_isub, e_imul, e_iand, e_ior, e_ixor, e_ishl, e_ishr, e_iushr, e_idiv, e_irem, e_ladd, e_lsub, e_lmul, e_lcmp, e_mmax, e_mmin, e_i2l, e_l2i, e_i2b, e_i2c, e_dup, e_dup2, e_pop, e_icmp_eq, e_icmp_ne, e_icmp_lt, e_icmp_ge, e_icmp_gt, e_icmp_le, e_if_eq, e_if_ne, e_if_lt, e_if_ge, e_if_gt, e_if_le, e_getI, e_getR, e_putI, e_putZ, e_putR, e_iald, e_bald, e_zald, e_lald, e_aald, e_alen, e_iast, e_bast, e_zast, e_last, e_aast, e_iret, e_zret, e_lret, e_vret, e_obj, e_callV, e_callS, e_callT, e_acpy, e_ldcS, e_dn, e_ag, z_pop, List.getElem?_cons_zero, List.getElem?_cons_succ, List.set_cons_zero, List.set_cons_succ, List.length_cons, List.length_nil, z_nol, Option.map_some, Option.toList_some, Option.toList_none, List.cons_append, List.nil_append, n_lit, n_m1, n_m2, n_m1lt, n_m1le, n_rem, n_div, n_out, n_cl, n_eq, n_le, n_lt, n_add, n_mul, n_sub, n_nle, n_yle, n_nlt, n_ylt, n_neN, z_lay, z_sz, z_str, z_stI, z_stL, z_stR, eq_self, ↓reduceIte, true_and, and_true, and_self, false_and, and_false, or_self, false_or, or_false, true_or, or_true, not_true_eq_false, not_false_eq_true, Nat.reduceLeDiff, Nat.reduceLT, Nat.reduceAdd, Nat.reduceEqDiff, Nat.reduceMul, Nat.reduceSub, Value.category, Nat.zero_le, beq_self_eq_true]
  · simp (disch := omega) only [kX2_told_142, kX2_told_121, kX2_told_115, kX2_told_105, kX2_told_91, kX2_told_15, kX2_told_0, cl_40 h, b2, atI_2, e, e_push, e_pushl, e_iload, e_lload, e_aload, e_istore, e_astore, e_lstore, e_iinc, e_iadd, e_isub, e_imul, e_iand, e_ior, e_ixor, e_ishl, e_ishr, e_iushr, e_idiv, e_irem, e_ladd, e_lsub, e_lmul, e_lcmp, e_mmax, e_mmin, e_i2l, e_l2i, e_i2b, e_i2c, e_dup, e_dup2, e_pop, e_icmp_eq, e_icmp_ne, e_icmp_lt, e_icmp_ge, e_icmp_gt, e_icmp_le, e_if_eq, e_if_ne, e_if_lt, e_if_ge, e_if_gt, e_if_le, e_getI, e_getR, e_putI, e_putZ, e_putR, e_iald, e_bald, e_zald, e_lald, e_aald, e_alen, e_iast, e_bast, e_zast, e_last, e_aast, e_iret, e_zret, e_lret, e_vret, e_obj, e_callV, e_callS, e_callT, e_acpy, e_ldcS, e_dn, e_ag, z_pop, List.getElem?_cons_zero, List.getElem?_cons_succ, List.set_cons_zero, List.set_cons_succ, List.length_cons, List.length_nil, z_nol, Option.map_some, Option.toList_some, Option.toList_none, List.cons_append, List.nil_append, n_lit, n_m1, n_m2, n_m1lt, n_m1le, n_rem, n_div, n_out, n_cl, n_eq, n_le, n_lt, n_add, n_mul, n_sub, n_nle, n_yle, n_nlt, n_ylt, n_neN, z_lay, z_sz, z_str, z_stI, z_stL, z_stR, eq_self, ↓reduceIte, true_and, and_true, and_self, false_and, and_false, or_self, false_or, or_false, true_or, or_true, not_true_eq_false, not_false_eq_true, Nat.reduceLeDiff, Nat.reduceLT, Nat.reduceAdd, Nat.reduceEqDiff, Nat.reduceMul, Nat.reduceSub, Value.category, Nat.zero_le, beq_self_eq_true]
theorem told_lp {I : Nat → Nat → Int32} {L : Nat → Nat → Int64} {Z : zZ} {B tx sz : Nat} {K W : Nat → Nat} {vs : Nat → Int32} (h : isCls Z B tx) (hT : tokC I L B tx K W sz) (hv : ∀ k, k < 9 → I (B + 41) k = vs k) : ∀ n, n ≤ 4 → ∀ s j bs, s ≤ 400 → sLw K W n s = (0, j, bs) → ∀ (a2 : Int32) (a5 a6 : Option Value), ∃ j' g', q_lp bX2_told_15 [some (.ref ((B + 40))), some (.ref ((B + (tx + 1)))), some (.int (a2)), some (.int (nI (0))), some (.int (nI (4 - n))), a5, a6] [] (atI I B s (nI 0), L, Z) = some (some (.int (evL vs bs)), (atI I B j' g', L, Z)) := by
  have htx := h.1
  have plain : ∀ n, n ≤ 4 → ∀ s j c, s ≤ 400 → K s ≠ 8 → sE K W s = (0, j, c) → ∀ (a2 : Int32) (a5 a6 : Option Value), ∃ j' g', q_lp bX2_told_15 [some (.ref ((B + 40))), some (.ref ((B + (tx + 1)))), some (.int (a2)), some (.int (nI (0))), some (.int (nI (4 - n))), a5, a6] [] (atI I B s (nI 0), L, Z) = some (some (.int (evL vs [(none, c)])), (atI I B j' g', L, Z)) := by
    intro n hn s j c hs h8 he a2 a5 a6
    have hlt := hT.lt s
    have hk := p_kind (I := atI I B s (nI 0)) (L := L) (i := s) h (hT.at htx) (by omega)
    obtain ⟨g', e1⟩ := told_end (a2 := some (.int a2)) (a3 := nI 0) (a4 := some (.int (nI (4 - n)))) (a5 := a5) (a6 := a6) h hT hv he
    refine ⟨j, g', ?_⟩
    rw [q_lp_eq]
    show _ = some (some (Value.int (((ev vs c []).bind List.head?).getD (nI 0))), (atI I B j g', L, Z))
    by_cases q : n = 0
    · subst q
      simp (disch := omega) only [bX2_told_15, e1, e_push, e_pushl, e_iload, e_lload, e_aload, e_istore, e_astore, e_lstore, e_iinc, e_iadd, e_isub, e_imul, e_iand, e_ior, e_ixor, e_ishl, e_ishr, e_iushr, e_idiv, e_irem, e_ladd, e_lsub, e_lmul, e_lcmp, e_mmax, e_mmin, e_i2l, e_l2i, e_i2b, e_i2c, e_dup, e_dup2, e_pop, e_icmp_eq, e_icmp_ne, e_icmp_lt, e_icmp_ge, e_icmp_gt, e_icmp_le, e_if_eq, e_if_ne, e_if_lt, e_if_ge, e_if_gt, e_if_le, e_getI, e_getR, e_putI, e_putZ, e_putR, e_iald, e_bald, e_zald, e_lald, e_aald, e_alen, e_iast, e_bast, e_zast, e_last, e_aast, e_iret, e_zret, e_lret, e_vret, e_obj, e_callV, e_callS, e_callT, e_acpy, e_ldcS, e_dn, e_ag, z_pop, List.getElem?_cons_zero, List.getElem?_cons_succ, List.set_cons_zero, List.set_cons_succ, List.length_cons, List.length_nil, z_nol, Option.map_some, Option.toList_some, Option.toList_none, List.cons_append, List.nil_append, n_lit, n_m1, n_m2, n_m1lt, n_m1le, n_rem, n_div, n_out, n_cl, n_eq, n_le, n_lt, n_add, n_mul, n_sub, n_nle, n_yle, n_nlt, n_ylt, n_neN, z_lay, z_sz, z_str, z_stI, z_stL, z_stR, eq_self, ↓reduceIte, true_and, and_true, and_self, false_and, and_false, or_self, false_or, or_false, true_or, or_true, not_true_eq_false, not_false_eq_true, Nat.reduceLeDiff, Nat.reduceLT, Nat.reduceAdd, Nat.reduceEqDiff, Nat.reduceMul, Nat.reduceSub, Value.category, Nat.zero_le, beq_self_eq_true]
    · simp (disch := omega) only [bX2_told_15, e1, cl_40 h, tl_1 h, atI_1, hk, n_neN h8, e_push, e_pushl, e_iload, e_lload, e_aload, e_istore, e_astore, e_lstore, e_iinc, e_iadd, e_isub, e_imul, e_iand, e_ior, e_ixor, e_ishl, e_ishr, e_iushr, e_idiv, e_irem, e_ladd, e_lsub, e_lmul, e_lcmp, e_mmax, e_mmin, e_i2l, e_l2i, e_i2b, e_i2c, e_dup, e_dup2, e_pop, e_icmp_eq, e_icmp_ne, e_icmp_lt, e_icmp_ge, e_icmp_gt, e_icmp_le, e_if_eq, e_if_ne, e_if_lt, e_if_ge, e_if_gt, e_if_le, e_getI, e_getR, e_putI, e_putZ, e_putR, e_iald, e_bald, e_zald, e_lald, e_aald, e_alen, e_iast, e_bast, e_zast, e_last, e_aast, e_iret, e_zret, e_lret, e_vret, e_obj, e_callV, e_callS, e_callT, e_acpy, e_ldcS, e_dn, e_ag, z_pop, List.getElem?_cons_zero, List.getElem?_cons_succ, List.set_cons_zero, List.set_cons_succ, List.length_cons, List.length_nil, z_nol, Option.map_some, Option.toList_some, Option.toList_none, List.cons_append, List.nil_append, n_lit, n_m1, n_m2, n_m1lt, n_m1le, n_rem, n_div, n_out, n_cl, n_eq, n_le, n_lt, n_add, n_mul, n_sub, n_nle, n_yle, n_nlt, n_ylt, n_neN, z_lay, z_sz, z_str, z_stI, z_stL, z_stR, eq_self, ↓reduceIte, true_and, and_true, and_self, false_and, and_false, or_self, false_or, or_false, true_or, or_true, not_true_eq_false, not_false_eq_true, Nat.reduceLeDiff, Nat.reduceLT, Nat.reduceAdd, Nat.reduceEqDiff, Nat.reduceMul, Nat.reduceSub, Value.category, Nat.zero_le, beq_self_eq_true]
  intro n
  induction n with
  | zero =>
    intro hn s j bs hs he a2 a5 a6
    rw [sLw] at he
    split at he
    · cases he
    · rename_i q
      obtain ⟨e1, e2⟩ := sBind_ok he
      cases e2
      exact plain 0 hn s _ _ hs q (pr3 e1) a2 a5 a6
  | succ n ih =>
    intro hn s j bs hs he a2 a5 a6
    rw [sLw] at he
    split at he
    · rename_i q
      obtain ⟨e1, e2⟩ := sBind_ok he
      obtain ⟨e3, e4⟩ := sBind_ok e2
      cases e4
      have e1' := pr3 e1
      unfold sIf at e1'
      obtain ⟨f1, f2⟩ := sBind_ok e1'
      obtain ⟨x1, x2, -⟩ := sAdv_ok (pr3 f1)
      rw [x2] at f2
      obtain ⟨f3, f4⟩ := sBind_ok f2
      obtain ⟨f5, f6⟩ := sBind_ok f4
      obtain ⟨x3, x4, x5⟩ := sMust_ok (pr3 f5)
      rw [x5] at f6
      obtain ⟨f7, f8⟩ := sBind_ok f6
      obtain ⟨f9, f10⟩ := sBind_ok f8
      obtain ⟨x6, x7, x8⟩ := sMust_ok (pr3 f9)
      rw [x8] at f10
      obtain ⟨f11, f12⟩ := sBind_ok f10
      obtain ⟨f13, f14⟩ := sBind_ok f12
      obtain ⟨x9, x10, x11⟩ := sMust_ok (pr3 f13)
      rw [x11] at f14
      have hb : (sIf K W s).2.1 = _ := (congrArg (fun z => z.2.1) f14).symm
      have hb2 : (sIf K W s).2.2 = _ := (congrArg (fun z => z.2.2) f14).symm
      dsimp only at hb hb2
      rw [hb] at e3
      have e3' := pr3 e3
      rw [hb2, hb]
      have k1 := pr3 f3
      have k2 := pr3 f7
      have k3 := pr3 f11
      generalize (sE K W (s + 1)).2.1 = j1 at *
      generalize (sE K W (s + 1)).2.2 = c1 at *
      generalize (sE K W (j1 + 1)).2.1 = j2 at *
      generalize (sE K W (j1 + 1)).2.2 = c2 at *
      generalize (sE K W (j2 + 1)).2.1 = j3 at *
      generalize (sE K W (j2 + 1)).2.2 = c3 at *
      have hlt := hT.lt s
      have hk := p_kind (I := atI I B s (nI 0)) (L := L) (i := s) h (hT.at htx) (by omega)
      rw [q] at hk
      obtain ⟨w1, y1, g1, b1, b2, b3⟩ := ex_all h hT hv _ _ _ (nI 0) k1 (Or.inl rfl)
      obtain ⟨w2, y2, g2, d1, d2, d3⟩ := ex_all h hT hv _ _ _ g1 k2 (b3.bit (Or.inl rfl))
      have hB : evB vs (some (c1, c2), c3) = evT w1 w2 ((ev vs c3 []).bind List.head?) := by
        show evT _ _ _ = _
        rw [b1.get, d1.get]
      rw [evL_cons, hB]
      have deadC : g2 = nI 1 → ∃ j' g', q_lp bX2_told_15 [some (.ref ((B + 40))), some (.ref ((B + (tx + 1)))), some (.int (a2)), some (.int (nI (0))), some (.int (nI (4 - (n + 1)))), a5, a6] [] (atI I B s (nI 0), L, Z) = some (some (.int (nI 0)), (atI I B j' g', L, Z)) := by
        intro hg
        refine ⟨j2 + 1, g2, ?_⟩
        rw [q_lp_eq]
        subst hg
        simp (disch := omega) only [bX2_told_15, kX2_told_142, kX2_told_121, kX2_told_115, kX2_told_105, kX2_told_91, kX2_told_15, kX2_told_0, cl_40 h, tl_1 h, atI_1, hk, atI_u1, b2, d2, atI_2, e_push, e_pushl, e_iload, e_lload, e_aload, e_istore, e_astore, e_lstore, e_iinc, e_iadd, e_isub, e_imul, e_iand, e_ior, e_ixor, e_ishl, e_ishr, e_iushr, e_idiv, e_irem, e_ladd, e_lsub, e_lmul, e_lcmp, e_mmax, e_mmin, e_i2l, e_l2i, e_i2b, e_i2c, e_dup, e_dup2, e_pop, e_icmp_eq, e_icmp_ne, e_icmp_lt, e_icmp_ge, e_icmp_gt, e_icmp_le, e_if_eq, e_if_ne, e_if_lt, e_if_ge, e_if_gt, e_if_le, e_getI, e_getR, e_putI, e_putZ, e_putR, e_iald, e_bald, e_zald, e_lald, e_aald, e_alen, e_iast, e_bast, e_zast, e_last, e_aast, e_iret, e_zret, e_lret, e_vret, e_obj, e_callV, e_callS, e_callT, e_acpy, e_ldcS, e_dn, e_ag, z_pop, List.getElem?_cons_zero, List.getElem?_cons_succ, List.set_cons_zero, List.set_cons_succ, List.length_cons, List.length_nil, z_nol, Option.map_some, Option.toList_some, Option.toList_none, List.cons_append, List.nil_append, n_lit, n_m1, n_m2, n_m1lt, n_m1le, n_rem, n_div, n_out, n_cl, n_eq, n_le, n_lt, n_add, n_mul, n_sub, n_nle, n_yle, n_nlt, n_ylt, n_neN, z_lay, z_sz, z_str, z_stI, z_stL, z_stR, eq_self, ↓reduceIte, true_and, and_true, and_self, false_and, and_false, or_self, false_or, or_false, true_or, or_true, not_true_eq_false, not_false_eq_true, Nat.reduceLeDiff, Nat.reduceLT, Nat.reduceAdd, Nat.reduceEqDiff, Nat.reduceMul, Nat.reduceSub, Value.category, Nat.zero_le, beq_self_eq_true]
      cases w1 with
      | none =>
        have b3 : g1 = nI 1 := b3
        subst b3
        exact deadC d3.dead
      | some u1 =>
        obtain ⟨rfl, rfl⟩ : y1 = u1 ∧ g1 = nI 0 := b3
        cases w2 with
        | none => exact deadC d3
        | some u2 =>
          obtain ⟨rfl, rfl⟩ : y2 = u2 ∧ g2 = nI 0 := d3
          by_cases q2 : y1 < y2
          · rw [show evT (some y1) (some y2) ((ev vs c3 []).bind List.head?) = some ((ev vs c3 []).bind List.head?) from if_pos q2]
            obtain ⟨g', r1⟩ := told_end (a2 := some (.int a2)) (a3 := nI 1) (a4 := some (.int (nI (4 - (n + 1) + 1)))) (a5 := some (.int y1)) (a6 := some (.int y2)) h hT hv k3
            refine ⟨j3, g', ?_⟩
            show _ = some (some (Value.int (((ev vs c3 []).bind List.head?).getD (nI 0))), (atI I B j3 g', L, Z))
            rw [q_lp_eq]
            have e8 : bX2_told_15 [some (.ref ((B + 40))), some (.ref ((B + (tx + 1)))), some (.int (a2)), some (.int (nI (0))), some (.int (nI (4 - (n + 1)))), a5, a6] [] (atI I B s (nI 0), L, Z) = some (.inl ([some (.ref ((B + 40))), some (.ref ((B + (tx + 1)))), some (.int (a2)), some (.int (nI (1))), some (.int (nI (4 - (n + 1) + 1))), some (.int (y1)), some (.int (y2))], (atI I B (j2 + 1) (nI 0), L, Z))) := by
              have q3 : ¬ y2 ≤ y1 := Int32.not_le.mpr q2
              simp (disch := omega) only [bX2_told_15, kX2_told_105, kX2_told_115, kX2_told_91, cl_40 h, tl_1 h, atI_1, hk, atI_u1, b2, d2, atI_2, q3, e_push, e_pushl, e_iload, e_lload, e_aload, e_istore, e_astore, e_lstore, e_iinc, e_iadd, e_isub, e_imul, e_iand, e_ior, e_ixor, e_ishl, e_ishr, e_iushr, e_idiv, e_irem, e_ladd, e_lsub, e_lmul, e_lcmp, e_mmax, e_mmin, e_i2l, e_l2i, e_i2b, e_i2c, e_dup, e_dup2, e_pop, e_icmp_eq, e_icmp_ne, e_icmp_lt, e_icmp_ge, e_icmp_gt, e_icmp_le, e_if_eq, e_if_ne, e_if_lt, e_if_ge, e_if_gt, e_if_le, e_getI, e_getR, e_putI, e_putZ, e_putR, e_iald, e_bald, e_zald, e_lald, e_aald, e_alen, e_iast, e_bast, e_zast, e_last, e_aast, e_iret, e_zret, e_lret, e_vret, e_obj, e_callV, e_callS, e_callT, e_acpy, e_ldcS, e_dn, e_ag, z_pop, List.getElem?_cons_zero, List.getElem?_cons_succ, List.set_cons_zero, List.set_cons_succ, List.length_cons, List.length_nil, z_nol, Option.map_some, Option.toList_some, Option.toList_none, List.cons_append, List.nil_append, n_lit, n_m1, n_m2, n_m1lt, n_m1le, n_rem, n_div, n_out, n_cl, n_eq, n_le, n_lt, n_add, n_mul, n_sub, n_nle, n_yle, n_nlt, n_ylt, n_neN, z_lay, z_sz, z_str, z_stI, z_stL, z_stR, eq_self, ↓reduceIte, true_and, and_true, and_self, false_and, and_false, or_self, false_or, or_false, true_or, or_true, not_true_eq_false, not_false_eq_true, Nat.reduceLeDiff, Nat.reduceLT, Nat.reduceAdd, Nat.reduceEqDiff, Nat.reduceMul, Nat.reduceSub, Value.category, Nat.zero_le, beq_self_eq_true]
            rw [e8]
            show q_lp bX2_told_15 _ [] _ = _
            rw [q_lp_eq]
            by_cases q5 : n = 0
            · subst q5
              simp (disch := omega) only [bX2_told_15, r1, e_push, e_pushl, e_iload, e_lload, e_aload, e_istore, e_astore, e_lstore, e_iinc, e_iadd, e_isub, e_imul, e_iand, e_ior, e_ixor, e_ishl, e_ishr, e_iushr, e_idiv, e_irem, e_ladd, e_lsub, e_lmul, e_lcmp, e_mmax, e_mmin, e_i2l, e_l2i, e_i2b, e_i2c, e_dup, e_dup2, e_pop, e_icmp_eq, e_icmp_ne, e_icmp_lt, e_icmp_ge, e_icmp_gt, e_icmp_le, e_if_eq, e_if_ne, e_if_lt, e_if_ge, e_if_gt, e_if_le, e_getI, e_getR, e_putI, e_putZ, e_putR, e_iald, e_bald, e_zald, e_lald, e_aald, e_alen, e_iast, e_bast, e_zast, e_last, e_aast, e_iret, e_zret, e_lret, e_vret, e_obj, e_callV, e_callS, e_callT, e_acpy, e_ldcS, e_dn, e_ag, z_pop, List.getElem?_cons_zero, List.getElem?_cons_succ, List.set_cons_zero, List.set_cons_succ, List.length_cons, List.length_nil, z_nol, Option.map_some, Option.toList_some, Option.toList_none, List.cons_append, List.nil_append, n_lit, n_m1, n_m2, n_m1lt, n_m1le, n_rem, n_div, n_out, n_cl, n_eq, n_le, n_lt, n_add, n_mul, n_sub, n_nle, n_yle, n_nlt, n_ylt, n_neN, z_lay, z_sz, z_str, z_stI, z_stL, z_stR, eq_self, ↓reduceIte, true_and, and_true, and_self, false_and, and_false, or_self, false_or, or_false, true_or, or_true, not_true_eq_false, not_false_eq_true, Nat.reduceLeDiff, Nat.reduceLT, Nat.reduceAdd, Nat.reduceEqDiff, Nat.reduceMul, Nat.reduceSub, Value.category, Nat.zero_le, beq_self_eq_true]
            · simp (disch := omega) only [bX2_told_15, r1, e_push, e_pushl, e_iload, e_lload, e_aload, e_istore, e_astore, e_lstore, e_iinc, e_iadd, e_isub, e_imul, e_iand, e_ior, e_ixor, e_ishl, e_ishr, e_iushr, e_idiv, e_irem, e_ladd, e_lsub, e_lmul, e_lcmp, e_mmax, e_mmin, e_i2l, e_l2i, e_i2b, e_i2c, e_dup, e_dup2, e_pop, e_icmp_eq, e_icmp_ne, e_icmp_lt, e_icmp_ge, e_icmp_gt, e_icmp_le, e_if_eq, e_if_ne, e_if_lt, e_if_ge, e_if_gt, e_if_le, e_getI, e_getR, e_putI, e_putZ, e_putR, e_iald, e_bald, e_zald, e_lald, e_aald, e_alen, e_iast, e_bast, e_zast, e_last, e_aast, e_iret, e_zret, e_lret, e_vret, e_obj, e_callV, e_callS, e_callT, e_acpy, e_ldcS, e_dn, e_ag, z_pop, List.getElem?_cons_zero, List.getElem?_cons_succ, List.set_cons_zero, List.set_cons_succ, List.length_cons, List.length_nil, z_nol, Option.map_some, Option.toList_some, Option.toList_none, List.cons_append, List.nil_append, n_lit, n_m1, n_m2, n_m1lt, n_m1le, n_rem, n_div, n_out, n_cl, n_eq, n_le, n_lt, n_add, n_mul, n_sub, n_nle, n_yle, n_nlt, n_ylt, n_neN, z_lay, z_sz, z_str, z_stI, z_stL, z_stR, eq_self, ↓reduceIte, true_and, and_true, and_self, false_and, and_false, or_self, false_or, or_false, true_or, or_true, not_true_eq_false, not_false_eq_true, Nat.reduceLeDiff, Nat.reduceLT, Nat.reduceAdd, Nat.reduceEqDiff, Nat.reduceMul, Nat.reduceSub, Value.category, Nat.zero_le, beq_self_eq_true]
          · rw [show evT (some y1) (some y2) ((ev vs c3 []).bind List.head?) = none from if_neg q2]
            obtain ⟨j', g', r1⟩ := ih (by omega) (j3 + 1) _ _ (by omega) e3' a2 (some (.int y1)) (some (.int y2))
            refine ⟨j', g', ?_⟩
            show _ = some (some (Value.int (evL vs (sLw K W n (j3 + 1)).2.2)), (atI I B j' g', L, Z))
            rw [← r1, q_lp_eq]
            have pe := p_passElse (g := nI 0) h hT (sE_noEl k3) x10 x9
            have q3 : y2 ≤ y1 := Int32.not_lt.mp q2
            have e9 : 4 - (n + 1) + 1 = 4 - n := by omega
            simp (disch := omega) only [bX2_told_15, kX2_told_105, kX2_told_115, kX2_told_91, cl_40 h, tl_1 h, atI_1, hk, atI_u1, b2, d2, atI_2, q3, pe, e9, e_push, e_pushl, e_iload, e_lload, e_aload, e_istore, e_astore, e_lstore, e_iinc, e_iadd, e_isub, e_imul, e_iand, e_ior, e_ixor, e_ishl, e_ishr, e_iushr, e_idiv, e_irem, e_ladd, e_lsub, e_lmul, e_lcmp, e_mmax, e_mmin, e_i2l, e_l2i, e_i2b, e_i2c, e_dup, e_dup2, e_pop, e_icmp_eq, e_icmp_ne, e_icmp_lt, e_icmp_ge, e_icmp_gt, e_icmp_le, e_if_eq, e_if_ne, e_if_lt, e_if_ge, e_if_gt, e_if_le, e_getI, e_getR, e_putI, e_putZ, e_putR, e_iald, e_bald, e_zald, e_lald, e_aald, e_alen, e_iast, e_bast, e_zast, e_last, e_aast, e_iret, e_zret, e_lret, e_vret, e_obj, e_callV, e_callS, e_callT, e_acpy, e_ldcS, e_dn, e_ag, z_pop, List.getElem?_cons_zero, List.getElem?_cons_succ, List.set_cons_zero, List.set_cons_succ, List.length_cons, List.length_nil, z_nol, Option.map_some, Option.toList_some, Option.toList_none, List.cons_append, List.nil_append, n_lit, n_m1, n_m2, n_m1lt, n_m1le, n_rem, n_div, n_out, n_cl, n_eq, n_le, n_lt, n_add, n_mul, n_sub, n_nle, n_yle, n_nlt, n_ylt, n_neN, z_lay, z_sz, z_str, z_stI, z_stL, z_stR, eq_self, ↓reduceIte, true_and, and_true, and_self, false_and, and_false, or_self, false_or, or_false, true_or, or_true, not_true_eq_false, not_false_eq_true, Nat.reduceLeDiff, Nat.reduceLT, Nat.reduceAdd, Nat.reduceEqDiff, Nat.reduceMul, Nat.reduceSub, Value.category, Nat.zero_le, beq_self_eq_true]
    · rename_i q
      obtain ⟨e1, e2⟩ := sBind_ok he
      cases e2
      exact plain (n + 1) hn s _ _ hs q (pr3 e1) a2 a5 a6
theorem atI_of {I : Nat → Nat → Int32} {B j : Nat} {g : Int32} : z_up (z_up I (B + 40) 1 (nI j)) (B + 40) 2 g = atI I B j g := by
  funext b k
  unfold z_up atI
  by_cases e : b = B + 40 ∧ k = 2
  · rw [if_pos e, if_neg (by omega), if_pos e]
  · rw [if_neg e, if_neg e]
theorem p_told {I : Nat → Nat → Int32} {L : Nat → Nat → Int64} {Z : zZ} {B tx sz s j : Nat} {bs : List sB} {K W : Nat → Nat} {vs : Nat → Int32} (h : isCls Z B tx) (hT : tokC I L B tx K W sz) (hv : ∀ k, k < 9 → I (B + 41) k = vs k) (hs : s ≤ 400) (he : sLw K W 4 s = (0, j, bs)) :
    ∃ j' g', fX2_told [.ref (B + 40), .ref (B + (tx + 1)), .int (nI s)] (I, L, Z) = some (some (.int (evL vs bs)), (atI I B j' g', L, Z)) := by
  obtain ⟨j', g', e1⟩ := told_lp h hT hv 4 (by omega) s j bs hs he (nI s) none none
  refine ⟨j', g', ?_⟩
  rw [← e1]
  show kX2_told_0 [some (.ref ((B + 40))), some (.ref ((B + (tx + 1)))), some (.int (nI (s))), none, none, none, none] [] (I, L, Z) = _
  simp (disch := omega) only [kX2_told_0, kX2_told_15, cl_40 h, atI_of, e_push, e_pushl, e_iload, e_lload, e_aload, e_istore, e_astore, e_lstore, e_iinc, e_iadd, e_isub, e_imul, e_iand, e_ior, e_ixor, e_ishl, e_ishr, e_iushr, e_idiv, e_irem, e_ladd, e_lsub, e_lmul, e_lcmp, e_mmax, e_mmin, e_i2l, e_l2i, e_i2b, e_i2c, e_dup, e_dup2, e_pop, e_icmp_eq, e_icmp_ne, e_icmp_lt, e_icmp_ge, e_icmp_gt, e_icmp_le, e_if_eq, e_if_ne, e_if_lt, e_if_ge, e_if_gt, e_if_le, e_getI, e_getR, e_putI, e_putZ, e_putR, e_iald, e_bald, e_zald, e_lald, e_aald, e_alen, e_iast, e_bast, e_zast, e_last, e_aast, e_iret, e_zret, e_lret, e_vret, e_obj, e_callV, e_callS, e_callT, e_acpy, e_ldcS, e_dn, e_ag, z_pop, List.getElem?_cons_zero, List.getElem?_cons_succ, List.set_cons_zero, List.set_cons_succ, List.length_cons, List.length_nil, z_nol, Option.map_some, Option.toList_some, Option.toList_none, List.cons_append, List.nil_append, n_lit, n_m1, n_m2, n_m1lt, n_m1le, n_rem, n_div, n_out, n_cl, n_eq, n_le, n_lt, n_add, n_mul, n_sub, n_nle, n_yle, n_nlt, n_ylt, n_neN, z_lay, z_sz, z_str, z_stI, z_stL, z_stR, eq_self, ↓reduceIte, true_and, and_true, and_self, false_and, and_false, or_self, false_or, or_false, true_or, or_true, not_true_eq_false, not_false_eq_true, Nat.reduceLeDiff, Nat.reduceLT, Nat.reduceAdd, Nat.reduceEqDiff, Nat.reduceMul, Nat.reduceSub, Value.category, Nat.zero_le, beq_self_eq_true]
