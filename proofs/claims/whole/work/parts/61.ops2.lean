--deps: 54.lazy 54.mem 55.mem2 56.rmem 57.spec 58.inv 59.keep 60.fin
/-! come and go -/
theorem famC.grow {I : Nat → Nat → Int32} {a la ca rows nc r c : Nat} {len : Nat → Nat} {col : Nat → Nat → Nat} {tm pd : Int32} (h : famC I a la ca rows nc len col tm pd) (hr : r < rows) (hl : len r < 8) (hc : c < nc) (n1 : a ≠ la) (n2 : a ≠ ca) (n3 : la ≠ ca) : famC (z_up (z_up I ca (r * 8 + len r) (nI c)) la r (nI (len r + 1))) a la ca rows nc (fUp len r (len r + 1)) (fUp col r (fUp (col r) (len r) c)) tm pd := by
  obtain ⟨h1, h2, h3, h4, h5⟩ := h
  refine ⟨by rw [zup_off n1, zup_off n2]; exact h1, by rw [zup_off n1, zup_off n2]; exact h2, by rw [zup_off n1, zup_off n2]; exact h3, h4, fun q hq => ?_⟩
  obtain ⟨⟨g1, g2, g3⟩, g4, g5⟩ := h5 q hq
  by_cases e : q = r
  · subst e
    rw [fUp_at, fUp_at]
    refine ⟨⟨zup_at, by omega, fun i hi => ?_⟩, by omega, fun i hi => ?_⟩
    · rw [zup_off (Ne.symm n3)]
      by_cases e2 : i = len q
      · subst e2; rw [fUp_at]; exact zup_at
      · rw [fUp_ne e2, zup_ne (by omega)]; exact g3 i (by omega)
    · by_cases e2 : i = len q
      · subst e2; rw [fUp_at]; exact hc
      · rw [fUp_ne e2]; exact g5 i (by omega)
  · rw [fUp_ne e, fUp_ne e]
    refine ⟨⟨by rw [zup_ne e, zup_off n3]; exact g1, g2, fun i hi => ?_⟩, g4, g5⟩
    rw [zup_off (Ne.symm n3), zup_ne (by omega)]
    exact g3 i hi
theorem famC.shrink {I : Nat → Nat → Int32} {a la ca rows nc r : Nat} {len : Nat → Nat} {col : Nat → Nat → Nat} {tm pd : Int32} (h : famC I a la ca rows nc len col tm pd) (hr : r < rows) (hl : 1 < len r) (n1 : a ≠ la) (n3 : la ≠ ca) : famC (z_up I la r (nI (len r - 1))) a la ca rows nc (fUp len r (len r - 1)) col tm pd := by
  obtain ⟨h1, h2, h3, h4, h5⟩ := h
  refine ⟨by rw [zup_off n1]; exact h1, by rw [zup_off n1]; exact h2, by rw [zup_off n1]; exact h3, h4, fun q hq => ?_⟩
  obtain ⟨⟨g1, g2, g3⟩, g4, g5⟩ := h5 q hq
  by_cases e : q = r
  · subst e
    rw [fUp_at]
    exact ⟨⟨zup_at, by omega, fun i hi => by rw [zup_off (Ne.symm n3)]; exact g3 i (by omega)⟩, by omega, fun i hi => g5 i (by omega)⟩
  · rw [fUp_ne e]
    exact ⟨⟨by rw [zup_ne e]; exact g1, g2, fun i hi => by rw [zup_off (Ne.symm n3)]; exact g3 i hi⟩, g4, g5⟩
theorem o_come {I : Nat → Nat → Int32} {L : Nat → Nat → Int64} {Z : zZ} {B tx lv nc : Nat} {ch : Nat → Nat → Nat} {rows : Nat} {len : Nat → Nat} {col : Nat → Nat → Nat} {tm pd : Int32} (hW : wRest I L Z B tx lv nc ch rows) (hF : wFam I B tx lv nc ch rows len col tm pd) (x y : Int32) : okOp fX11_come fX12_come [.int x, .int y] I L Z B tx lv nc ch rows := by
  have h := hW.1
  have hM := hW.2.1
  obtain ⟨hV, hR, hU⟩ := id hF
  obtain ⟨h1, h2, h3, h4, h5, h6⟩ := id hV
  have hO := hV.ok
  rcases out_or x (n := rows) (by have := hO.1; omega) with qx | ⟨r, hr, rfl⟩
  · refine ⟨nM1, I, I, ?_, ?_, hW, len, col, tm, pd, hF⟩
    · show kX11_come_0 [some (.ref (B)), some (.int (x)), some (.int (y))] [] (I, L, Z) = _
      simp (disch := omega) only [kX11_come_29, kX11_come_0, cl_B h, cr_0_0 h, cr_0_4 h, cr_0_5 h, cr_0_6 h, cr_0_7 h, cr_0_8 h, cr_0_9 h, cr_0_10 h, cr_0_11 h, cr_0_12 h, h.2.2.2.1, cl_1 h, cl_33 h, cl_36 h, cl_39 h, cl_40 h, cl_42 h, cl_45 h, cl_178 h, cl_186 h, cl_191 h, tl_0 h, tl_5 h, tr_0_0 h, tr_0_1 h, tr_0_2 h, tl_1 h, tl_10 h, p_isRow_no h h6.1 qx, e_push, e_pushl, e_iload, e_lload, e_aload, e_istore, e_astore, e_lstore, e_iinc, e_iadd, e_isub, e_imul, e_iand, e_ior, e_ixor, e_ishl, e_ishr, e_iushr, e_idiv, e_irem, e_ladd, e_lsub, e_lmul, e_lcmp, e_mmax, e_mmin, e_i2l, e_l2i, e_i2b, e_i2c, e_dup, e_dup2, e_pop, e_icmp_eq, e_icmp_ne, e_icmp_lt, e_icmp_ge, e_icmp_gt, e_icmp_le, e_if_eq, e_if_ne, e_if_lt, e_if_ge, e_if_gt, e_if_le, e_getI, e_getR, e_putI, e_putZ, e_putR, e_iald, e_bald, e_zald, e_lald, e_aald, e_alen, e_iast, e_bast, e_zast, e_last, e_aast, e_iret, e_zret, e_lret, e_vret, e_obj, e_callV, e_callS, e_callT, e_acpy, e_ldcS, e_dn, e_ag, z_pop, List.getElem?_cons_zero, List.getElem?_cons_succ, List.set_cons_zero, List.set_cons_succ, List.length_cons, List.length_nil, z_nol, Option.map_some, Option.toList_some, Option.toList_none, List.cons_append, List.nil_append, n_lit, n_m1, n_m2, n_m1lt, n_m1le, n_rem, n_div, n_out, n_cl, n_eq, n_le, n_lt, n_add, n_mul, n_sub, n_nle, n_yle, n_nlt, n_ylt, n_neN, z_lay, z_sz, z_str, z_stI, z_stL, z_stR, eq_self, ↓reduceIte, true_and, and_true, and_self, false_and, and_false, or_self, false_or, or_false, true_or, or_true, not_true_eq_false, not_false_eq_true, Nat.reduceLeDiff, Nat.reduceLT, Nat.reduceAdd, Nat.reduceEqDiff, Nat.reduceMul, Nat.reduceSub, Value.category, Nat.zero_le, beq_self_eq_true]
    · show kX12_come_0 [some (.ref ((B + 200))), some (.int (x)), some (.int (y))] [] (I, L, Z) = _
      simp (disch := omega) only [kX12_come_27, kX12_come_0, hM.1, r_isRow_no hM hR.1 hR.2.1 hO.1 qx, e_push, e_pushl, e_iload, e_lload, e_aload, e_istore, e_astore, e_lstore, e_iinc, e_iadd, e_isub, e_imul, e_iand, e_ior, e_ixor, e_ishl, e_ishr, e_iushr, e_idiv, e_irem, e_ladd, e_lsub, e_lmul, e_lcmp, e_mmax, e_mmin, e_i2l, e_l2i, e_i2b, e_i2c, e_dup, e_dup2, e_pop, e_icmp_eq, e_icmp_ne, e_icmp_lt, e_icmp_ge, e_icmp_gt, e_icmp_le, e_if_eq, e_if_ne, e_if_lt, e_if_ge, e_if_gt, e_if_le, e_getI, e_getR, e_putI, e_putZ, e_putR, e_iald, e_bald, e_zald, e_lald, e_aald, e_alen, e_iast, e_bast, e_zast, e_last, e_aast, e_iret, e_zret, e_lret, e_vret, e_obj, e_callV, e_callS, e_callT, e_acpy, e_ldcS, e_dn, e_ag, z_pop, List.getElem?_cons_zero, List.getElem?_cons_succ, List.set_cons_zero, List.set_cons_succ, List.length_cons, List.length_nil, z_nol, Option.map_some, Option.toList_some, Option.toList_none, List.cons_append, List.nil_append, n_lit, n_m1, n_m2, n_m1lt, n_m1le, n_rem, n_div, n_out, n_cl, n_eq, n_le, n_lt, n_add, n_mul, n_sub, n_nle, n_yle, n_nlt, n_ylt, n_neN, z_lay, z_sz, z_str, z_stI, z_stL, z_stR, eq_self, ↓reduceIte, true_and, and_true, and_self, false_and, and_false, or_self, false_or, or_false, true_or, or_true, not_true_eq_false, not_false_eq_true, Nat.reduceLeDiff, Nat.reduceLT, Nat.reduceAdd, Nat.reduceEqDiff, Nat.reduceMul, Nat.reduceSub, Value.category, Nat.zero_le, beq_self_eq_true]
  · have c1 := p_isRow_yes (L := L) h h6.1 hO.1 hr
    have c2 := r_isRow_yes (L := L) hM hR.1 hR.2.1 hO.1 hr
    rcases out_or y (n := nc) (by omega) with qy | ⟨k, hk, rfl⟩
    · refine ⟨nM1, I, I, ?_, ?_, hW, len, col, tm, pd, hF⟩
      · show kX11_come_0 [some (.ref (B)), some (.int (nI (r))), some (.int (y))] [] (I, L, Z) = _
        simp (disch := omega) only [kX11_come_29, kX11_come_0, cl_B h, cr_0_0 h, cr_0_4 h, cr_0_5 h, cr_0_6 h, cr_0_7 h, cr_0_8 h, cr_0_9 h, cr_0_10 h, cr_0_11 h, cr_0_12 h, h.2.2.2.1, cl_1 h, cl_33 h, cl_36 h, cl_39 h, cl_40 h, cl_42 h, cl_45 h, cl_178 h, cl_186 h, cl_191 h, tl_0 h, tl_5 h, tr_0_0 h, tr_0_1 h, tr_0_2 h, tl_1 h, tl_10 h, c1, p_isColour_no h h1 qy, e_push, e_pushl, e_iload, e_lload, e_aload, e_istore, e_astore, e_lstore, e_iinc, e_iadd, e_isub, e_imul, e_iand, e_ior, e_ixor, e_ishl, e_ishr, e_iushr, e_idiv, e_irem, e_ladd, e_lsub, e_lmul, e_lcmp, e_mmax, e_mmin, e_i2l, e_l2i, e_i2b, e_i2c, e_dup, e_dup2, e_pop, e_icmp_eq, e_icmp_ne, e_icmp_lt, e_icmp_ge, e_icmp_gt, e_icmp_le, e_if_eq, e_if_ne, e_if_lt, e_if_ge, e_if_gt, e_if_le, e_getI, e_getR, e_putI, e_putZ, e_putR, e_iald, e_bald, e_zald, e_lald, e_aald, e_alen, e_iast, e_bast, e_zast, e_last, e_aast, e_iret, e_zret, e_lret, e_vret, e_obj, e_callV, e_callS, e_callT, e_acpy, e_ldcS, e_dn, e_ag, z_pop, List.getElem?_cons_zero, List.getElem?_cons_succ, List.set_cons_zero, List.set_cons_succ, List.length_cons, List.length_nil, z_nol, Option.map_some, Option.toList_some, Option.toList_none, List.cons_append, List.nil_append, n_lit, n_m1, n_m2, n_m1lt, n_m1le, n_rem, n_div, n_out, n_cl, n_eq, n_le, n_lt, n_add, n_mul, n_sub, n_nle, n_yle, n_nlt, n_ylt, n_neN, z_lay, z_sz, z_str, z_stI, z_stL, z_stR, eq_self, ↓reduceIte, true_and, and_true, and_self, false_and, and_false, or_self, false_or, or_false, true_or, or_true, not_true_eq_false, not_false_eq_true, Nat.reduceLeDiff, Nat.reduceLT, Nat.reduceAdd, Nat.reduceEqDiff, Nat.reduceMul, Nat.reduceSub, Value.category, Nat.zero_le, beq_self_eq_true]
      · show kX12_come_0 [some (.ref ((B + 200))), some (.int (nI (r))), some (.int (y))] [] (I, L, Z) = _
        simp (disch := omega) only [kX12_come_27, kX12_come_0, hM.1, c2, r_isColour_no hM hR.1 qy, e_push, e_pushl, e_iload, e_lload, e_aload, e_istore, e_astore, e_lstore, e_iinc, e_iadd, e_isub, e_imul, e_iand, e_ior, e_ixor, e_ishl, e_ishr, e_iushr, e_idiv, e_irem, e_ladd, e_lsub, e_lmul, e_lcmp, e_mmax, e_mmin, e_i2l, e_l2i, e_i2b, e_i2c, e_dup, e_dup2, e_pop, e_icmp_eq, e_icmp_ne, e_icmp_lt, e_icmp_ge, e_icmp_gt, e_icmp_le, e_if_eq, e_if_ne, e_if_lt, e_if_ge, e_if_gt, e_if_le, e_getI, e_getR, e_putI, e_putZ, e_putR, e_iald, e_bald, e_zald, e_lald, e_aald, e_alen, e_iast, e_bast, e_zast, e_last, e_aast, e_iret, e_zret, e_lret, e_vret, e_obj, e_callV, e_callS, e_callT, e_acpy, e_ldcS, e_dn, e_ag, z_pop, List.getElem?_cons_zero, List.getElem?_cons_succ, List.set_cons_zero, List.set_cons_succ, List.length_cons, List.length_nil, z_nol, Option.map_some, Option.toList_some, Option.toList_none, List.cons_append, List.nil_append, n_lit, n_m1, n_m2, n_m1lt, n_m1le, n_rem, n_div, n_out, n_cl, n_eq, n_le, n_lt, n_add, n_mul, n_sub, n_nle, n_yle, n_nlt, n_ylt, n_neN, z_lay, z_sz, z_str, z_stI, z_stL, z_stR, eq_self, ↓reduceIte, true_and, and_true, and_self, false_and, and_false, or_self, false_or, or_false, true_or, or_true, not_true_eq_false, not_false_eq_true, Nat.reduceLeDiff, Nat.reduceLT, Nat.reduceAdd, Nat.reduceEqDiff, Nat.reduceMul, Nat.reduceSub, Value.category, Nat.zero_le, beq_self_eq_true]
    · obtain ⟨o1, o2, o3⟩ := hO.2.2 r hr
      have hr4 : r < 4 := by have := hO.1; omega
      have l1 := p_lengthOf (I := I) (L := L) (cf_33 h) hr4
      rw [(h6.2.2.2.2 r hr).1.1] at l1
      have nr : I (B + 200 + 29) r = nI (len r) := hR.2.2.1 r hr
      by_cases q8 : len r = 8
      · refine ⟨nM1, I, I, ?_, ?_, hW, len, col, tm, pd, hF⟩
        · show kX11_come_0 [some (.ref (B)), some (.int (nI (r))), some (.int (nI (k)))] [] (I, L, Z) = _
          rw [q8] at l1
          simp (disch := omega) only [kX11_come_29, kX11_come_0, cl_B h, cr_0_0 h, cr_0_4 h, cr_0_5 h, cr_0_6 h, cr_0_7 h, cr_0_8 h, cr_0_9 h, cr_0_10 h, cr_0_11 h, cr_0_12 h, h.2.2.2.1, cl_1 h, cl_33 h, cl_36 h, cl_39 h, cl_40 h, cl_42 h, cl_45 h, cl_178 h, cl_186 h, cl_191 h, tl_0 h, tl_5 h, tr_0_0 h, tr_0_1 h, tr_0_2 h, tl_1 h, tl_10 h, c1, p_isColour_yes h h1 h3 hk, l1, e_push, e_pushl, e_iload, e_lload, e_aload, e_istore, e_astore, e_lstore, e_iinc, e_iadd, e_isub, e_imul, e_iand, e_ior, e_ixor, e_ishl, e_ishr, e_iushr, e_idiv, e_irem, e_ladd, e_lsub, e_lmul, e_lcmp, e_mmax, e_mmin, e_i2l, e_l2i, e_i2b, e_i2c, e_dup, e_dup2, e_pop, e_icmp_eq, e_icmp_ne, e_icmp_lt, e_icmp_ge, e_icmp_gt, e_icmp_le, e_if_eq, e_if_ne, e_if_lt, e_if_ge, e_if_gt, e_if_le, e_getI, e_getR, e_putI, e_putZ, e_putR, e_iald, e_bald, e_zald, e_lald, e_aald, e_alen, e_iast, e_bast, e_zast, e_last, e_aast, e_iret, e_zret, e_lret, e_vret, e_obj, e_callV, e_callS, e_callT, e_acpy, e_ldcS, e_dn, e_ag, z_pop, List.getElem?_cons_zero, List.getElem?_cons_succ, List.set_cons_zero, List.set_cons_succ, List.length_cons, List.length_nil, z_nol, Option.map_some, Option.toList_some, Option.toList_none, List.cons_append, List.nil_append, n_lit, n_m1, n_m2, n_m1lt, n_m1le, n_rem, n_div, n_out, n_cl, n_eq, n_le, n_lt, n_add, n_mul, n_sub, n_nle, n_yle, n_nlt, n_ylt, n_neN, z_lay, z_sz, z_str, z_stI, z_stL, z_stR, eq_self, ↓reduceIte, true_and, and_true, and_self, false_and, and_false, or_self, false_or, or_false, true_or, or_true, not_true_eq_false, not_false_eq_true, Nat.reduceLeDiff, Nat.reduceLT, Nat.reduceAdd, Nat.reduceEqDiff, Nat.reduceMul, Nat.reduceSub, Value.category, Nat.zero_le, beq_self_eq_true]
        · rw [q8] at nr
          show kX12_come_0 [some (.ref ((B + 200))), some (.int (nI (r))), some (.int (nI (k)))] [] (I, L, Z) = _
          simp (disch := omega) only [kX12_come_27, kX12_come_0, hM.1, mr_now hM, ml_now hM, c2, r_isColour_yes hM hR.1 hk, nr, e_push, e_pushl, e_iload, e_lload, e_aload, e_istore, e_astore, e_lstore, e_iinc, e_iadd, e_isub, e_imul, e_iand, e_ior, e_ixor, e_ishl, e_ishr, e_iushr, e_idiv, e_irem, e_ladd, e_lsub, e_lmul, e_lcmp, e_mmax, e_mmin, e_i2l, e_l2i, e_i2b, e_i2c, e_dup, e_dup2, e_pop, e_icmp_eq, e_icmp_ne, e_icmp_lt, e_icmp_ge, e_icmp_gt, e_icmp_le, e_if_eq, e_if_ne, e_if_lt, e_if_ge, e_if_gt, e_if_le, e_getI, e_getR, e_putI, e_putZ, e_putR, e_iald, e_bald, e_zald, e_lald, e_aald, e_alen, e_iast, e_bast, e_zast, e_last, e_aast, e_iret, e_zret, e_lret, e_vret, e_obj, e_callV, e_callS, e_callT, e_acpy, e_ldcS, e_dn, e_ag, z_pop, List.getElem?_cons_zero, List.getElem?_cons_succ, List.set_cons_zero, List.set_cons_succ, List.length_cons, List.length_nil, z_nol, Option.map_some, Option.toList_some, Option.toList_none, List.cons_append, List.nil_append, n_lit, n_m1, n_m2, n_m1lt, n_m1le, n_rem, n_div, n_out, n_cl, n_eq, n_le, n_lt, n_add, n_mul, n_sub, n_nle, n_yle, n_nlt, n_ylt, n_neN, z_lay, z_sz, z_str, z_stI, z_stL, z_stR, eq_self, ↓reduceIte, true_and, and_true, and_self, false_and, and_false, or_self, false_or, or_false, true_or, or_true, not_true_eq_false, not_false_eq_true, Nat.reduceLeDiff, Nat.reduceLT, Nat.reduceAdd, Nat.reduceEqDiff, Nat.reduceMul, Nat.reduceSub, Value.category, Nat.zero_le, beq_self_eq_true]
      · obtain ⟨u, nw, u1, u2, u3, u4, u5, u6⟩ := hU
        obtain ⟨J2, m0, m1, m2, m3, m4⟩ := p_remember (L := L) h u3 u1 u4 u2
        have hS : rgS nw < 40 := by unfold rgS; split <;> omega
        have hr5 := hO.1
        have h6J : famC J2 (B + 33) (B + 34) (B + 35) rows nc len col tm pd := h6.kept (m4 _ (by omega) (by omega) (by omega) (by omega)) (m4 _ (by omega) (by omega) (by omega) (by omega)) (m4 _ (by omega) (by omega) (by omega) (by omega))
        have e1 := p_append (I := J2) (L := L) (x := nI k) (cf_33 h) (by omega) hr4 (h6J.2.2.2.2 r hr).1.1 (by omega)
        have f2 := h6J.grow hr (by omega) hk (by omega) (by omega) (by omega)
        have l2 := p_lengthOf (I := z_up (z_up J2 (B + 35) (r * 8 + len r) (nI k)) (B + 34) r (nI (len r + 1))) (L := L) (cf_33 h) hr4
        rw [zup_at] at l2
        have f1 : ∀ k', (k' < 33 ∨ 35 < k') → z_up (z_up J2 (B + 35) (r * 8 + len r) (nI k)) (B + 34) r (nI (len r + 1)) (B + k') = J2 (B + k') := fun k' hk' => by rw [zup_off (by omega), zup_off (by omega)]
        generalize hK1 : z_up (z_up J2 (B + 35) (r * 8 + len r) (nI k)) (B + 34) r (nI (len r + 1)) = K1 at e1 f2 l2 f1
        have y2 : ∀ k', 200 ≤ k' → K1 (B + k') = I (B + k') := fun k' hk' => by rw [f1 k' (by omega), m4 _ (by omega) (by omega) (by omega) (by omega)]
        have y3 : ∀ k', K1 (B + 200 + k') = I (B + 200 + k') := fun k' => by rw [Nat.add_assoc]; exact y2 _ (by omega)
        have hT1 : refTab K1 (B + 200) lv nc ch := hR.1.kept (by rw [y2 200 (by omega)]) (y3 9) (y3 11)
        obtain ⟨N0, b1, b2, b3, b4, b5⟩ := r_copies (L := L) hM hT1
        have c3 : N0 (B + 200 + 30) r = nI (len r) := by rw [b2 r (by omega), y3, nr]
        have c4 : z_up N0 (B + 200 + 30) (4 + 8 * r + len r) (nI k) (B + 200 + 30) r = nI (len r) := by rw [zup_ne (by omega), c3]
        have v5 : z_up (z_up N0 (B + 200 + 30) (4 + 8 * r + len r) (nI k)) (B + 200 + 30) r (nI (len r + 1)) (B + 200) 52 = nI u := by
          rw [zup_off (by omega), zup_off (by omega), b5 52 (by omega), y2 200 (by omega), u5]
        obtain ⟨N2, r0, r1, r2, r3, r4, r5, r6⟩ := r_rec (I := z_up (z_up N0 (B + 200 + 30) (4 + 8 * r + len r) (nI k)) (B + 200 + 30) r (nI (len r + 1))) (L := L) hM v5 u1
        have n1 : sameR K1 (z_up (z_up N0 (B + 200 + 30) (4 + 8 * r + len r) (nI k)) (B + 200 + 30) r (nI (len r + 1))) B := by
          refine ⟨fun k' hk' => ?_, fun k' hk' => ?_, fun j hj => ?_⟩
          · rw [zup_off (by omega), zup_off (by omega), b4 _ (by omega) (by omega)]
          · unfold essA at hk'
            rw [zup_off (by omega), zup_off (by omega), b4 _ (by omega) (by omega)]
          · unfold essF at hj
            rw [zup_off (by omega), zup_off (by omega), b5 j (by omega)]
        have n2 : famR (z_up (z_up N0 (B + 200 + 30) (4 + 8 * r + len r) (nI k)) (B + 200 + 30) r (nI (len r + 1)) (B + 200 + 30)) rows (fUp len r (len r + 1)) (fUp col r (fUp (col r) (len r) k)) tm pd := by
          obtain ⟨d1, d2, d3, d4, d5⟩ := hR.2.2
          refine ⟨fun q hq => ?_, fun q hq1 hq2 => ?_, fun q hq i hi => ?_, ?_, ?_⟩
          · by_cases e : q = r
            · subst e; rw [fUp_at, zup_at]
            · rw [fUp_ne e, zup_ne e, zup_ne (by omega), b2 q (by omega), y3]; exact d1 q hq
          · rw [zup_ne (by omega), zup_ne (by omega), b2 q (by omega), y3]; exact d2 q hq1 hq2
          · have oq := hO.2.2 q hq
            by_cases e : q = r
            · subst e
              rw [fUp_at] at hi
              rw [fUp_at, zup_ne (by omega)]
              by_cases e2 : i = len q
              · subst e2; rw [fUp_at, zup_at]
              · rw [fUp_ne e2, zup_ne (by omega), b2 _ (by omega), y3]; exact d3 q hq i (by omega)
            · rw [fUp_ne e] at hi
              rw [fUp_ne e, zup_ne (by omega), zup_ne (by omega), b2 _ (by omega), y3]; exact d3 q hq i hi
          · rw [zup_ne (by omega), zup_ne (by omega), b2 _ (by omega), y3]; exact d4
          · rw [zup_ne (by omega), zup_ne (by omega), b2 _ (by omega), y3]; exact d5
        obtain ⟨w1, w2⟩ := finF hW hV hR u1 u2 u6 (sameC.refl I B tx) m1 m2 m3 m4 (fun k' h1 _ => f1 k' h1) f2 n1 n2 r1 r2 r3 r4 r5 r6
        have v6 : N2 (B + 200 + 29) r = nI (len r + 1) := by rw [r2 r (by omega), zup_at]
        have nrK : K1 (B + 200 + 29) r = nI (len r) := by rw [y3, nr]
        refine ⟨nI (len r + 1), K1, N2, ?_, ?_, w1, _, _, _, _, w2⟩
        · show kX11_come_0 [some (.ref (B)), some (.int (nI (r))), some (.int (nI (k)))] [] (I, L, Z) = _
          simp (disch := omega) only [kX11_come_29, kX11_come_0, cl_B h, cr_0_0 h, cr_0_4 h, cr_0_5 h, cr_0_6 h, cr_0_7 h, cr_0_8 h, cr_0_9 h, cr_0_10 h, cr_0_11 h, cr_0_12 h, h.2.2.2.1, cl_1 h, cl_33 h, cl_36 h, cl_39 h, cl_40 h, cl_42 h, cl_45 h, cl_178 h, cl_186 h, cl_191 h, tl_0 h, tl_5 h, tr_0_0 h, tr_0_1 h, tr_0_2 h, tl_1 h, tl_10 h, c1, p_isColour_yes h h1 h3 hk, l1, m0, e1, l2, e_push, e_pushl, e_iload, e_lload, e_aload, e_istore, e_astore, e_lstore, e_iinc, e_iadd, e_isub, e_imul, e_iand, e_ior, e_ixor, e_ishl, e_ishr, e_iushr, e_idiv, e_irem, e_ladd, e_lsub, e_lmul, e_lcmp, e_mmax, e_mmin, e_i2l, e_l2i, e_i2b, e_i2c, e_dup, e_dup2, e_pop, e_icmp_eq, e_icmp_ne, e_icmp_lt, e_icmp_ge, e_icmp_gt, e_icmp_le, e_if_eq, e_if_ne, e_if_lt, e_if_ge, e_if_gt, e_if_le, e_getI, e_getR, e_putI, e_putZ, e_putR, e_iald, e_bald, e_zald, e_lald, e_aald, e_alen, e_iast, e_bast, e_zast, e_last, e_aast, e_iret, e_zret, e_lret, e_vret, e_obj, e_callV, e_callS, e_callT, e_acpy, e_ldcS, e_dn, e_ag, z_pop, List.getElem?_cons_zero, List.getElem?_cons_succ, List.set_cons_zero, List.set_cons_succ, List.length_cons, List.length_nil, z_nol, Option.map_some, Option.toList_some, Option.toList_none, List.cons_append, List.nil_append, n_lit, n_m1, n_m2, n_m1lt, n_m1le, n_rem, n_div, n_out, n_cl, n_eq, n_le, n_lt, n_add, n_mul, n_sub, n_nle, n_yle, n_nlt, n_ylt, n_neN, z_lay, z_sz, z_str, z_stI, z_stL, z_stR, eq_self, ↓reduceIte, true_and, and_true, and_self, false_and, and_false, or_self, false_or, or_false, true_or, or_true, not_true_eq_false, not_false_eq_true, Nat.reduceLeDiff, Nat.reduceLT, Nat.reduceAdd, Nat.reduceEqDiff, Nat.reduceMul, Nat.reduceSub, Value.category, Nat.zero_le, beq_self_eq_true]
        · have c2' := r_isRow_yes (L := L) hM hT1 (by rw [y3]; exact hR.2.1) hO.1 hr
          show kX12_come_0 [some (.ref ((B + 200))), some (.int (nI (r))), some (.int (nI (k)))] [] (K1, L, Z) = _
          simp (disch := omega) only [kX12_come_27, kX12_come_0, hM.1, mr_now hM, ml_now hM, mr_row hM, ml_row hM, c2', r_isColour_yes hM hT1 hk, nrK, n_neN q8, b1, c3, c4, r0, v6, e_push, e_pushl, e_iload, e_lload, e_aload, e_istore, e_astore, e_lstore, e_iinc, e_iadd, e_isub, e_imul, e_iand, e_ior, e_ixor, e_ishl, e_ishr, e_iushr, e_idiv, e_irem, e_ladd, e_lsub, e_lmul, e_lcmp, e_mmax, e_mmin, e_i2l, e_l2i, e_i2b, e_i2c, e_dup, e_dup2, e_pop, e_icmp_eq, e_icmp_ne, e_icmp_lt, e_icmp_ge, e_icmp_gt, e_icmp_le, e_if_eq, e_if_ne, e_if_lt, e_if_ge, e_if_gt, e_if_le, e_getI, e_getR, e_putI, e_putZ, e_putR, e_iald, e_bald, e_zald, e_lald, e_aald, e_alen, e_iast, e_bast, e_zast, e_last, e_aast, e_iret, e_zret, e_lret, e_vret, e_obj, e_callV, e_callS, e_callT, e_acpy, e_ldcS, e_dn, e_ag, z_pop, List.getElem?_cons_zero, List.getElem?_cons_succ, List.set_cons_zero, List.set_cons_succ, List.length_cons, List.length_nil, z_nol, Option.map_some, Option.toList_some, Option.toList_none, List.cons_append, List.nil_append, n_lit, n_m1, n_m2, n_m1lt, n_m1le, n_rem, n_div, n_out, n_cl, n_eq, n_le, n_lt, n_add, n_mul, n_sub, n_nle, n_yle, n_nlt, n_ylt, n_neN, z_lay, z_sz, z_str, z_stI, z_stL, z_stR, eq_self, ↓reduceIte, true_and, and_true, and_self, false_and, and_false, or_self, false_or, or_false, true_or, or_true, not_true_eq_false, not_false_eq_true, Nat.reduceLeDiff, Nat.reduceLT, Nat.reduceAdd, Nat.reduceEqDiff, Nat.reduceMul, Nat.reduceSub, Value.category, Nat.zero_le, beq_self_eq_true]
