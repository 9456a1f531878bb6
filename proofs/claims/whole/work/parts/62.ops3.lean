--deps: 54.lazy 54.mem 55.mem2 56.rmem 57.spec 58.inv 59.keep 60.fin 61.ops2
/-! go, undo, hold, restore -/
theorem o_go {I : Nat → Nat → Int32} {L : Nat → Nat → Int64} {Z : zZ} {B tx lv nc : Nat} {ch : Nat → Nat → Nat} {rows : Nat} {len : Nat → Nat} {col : Nat → Nat → Nat} {tm pd : Int32} (hW : wRest I L Z B tx lv nc ch rows) (hF : wFam I B tx lv nc ch rows len col tm pd) (x : Int32) : okOp fX11_go fX12_go [.int x] I L Z B tx lv nc ch rows := by
  have h := hW.1
  have hM := hW.2.1
  obtain ⟨hV, hR, hU⟩ := id hF
  obtain ⟨h1, h2, h3, h4, h5, h6⟩ := id hV
  have hO := hV.ok
  rcases out_or x (n := rows) (by have := hO.1; omega) with qx | ⟨r, hr, rfl⟩
  · refine ⟨nM1, I, I, ?_, ?_, hW, len, col, tm, pd, hF⟩
    · show kX11_go_0 [some (.ref (B)), some (.int (x))] [] (I, L, Z) = _
      simp (disch := omega) only [kX11_go_20, kX11_go_0, cl_B h, cr_0_0 h, cr_0_4 h, cr_0_5 h, cr_0_6 h, cr_0_7 h, cr_0_8 h, cr_0_9 h, cr_0_10 h, cr_0_11 h, cr_0_12 h, h.2.2.2.1, cl_1 h, cl_33 h, cl_36 h, cl_39 h, cl_40 h, cl_42 h, cl_45 h, cl_178 h, cl_186 h, cl_191 h, tl_0 h, tl_5 h, tr_0_0 h, tr_0_1 h, tr_0_2 h, tl_1 h, tl_10 h, p_isRow_no h h6.1 qx, e_push, e_pushl, e_iload, e_lload, e_aload, e_istore, e_astore, e_lstore, e_iinc, e_iadd, e_isub, e_imul, e_iand, e_ior, e_ixor, e_ishl, e_ishr, e_iushr, e_idiv, e_irem, e_ladd, e_lsub, e_lmul, e_lcmp, e_mmax, e_mmin, e_i2l, e_l2i, e_i2b, e_i2c, e_dup, e_dup2, e_pop, e_icmp_eq, e_icmp_ne, e_icmp_lt, e_icmp_ge, e_icmp_gt, e_icmp_le, e_if_eq, e_if_ne, e_if_lt, e_if_ge, e_if_gt, e_if_le, e_getI, e_getR, e_putI, e_putZ, e_putR, e_iald, e_bald, e_zald, e_lald, e_aald, e_alen, e_iast, e_bast, e_zast, e_last, e_aast, e_iret, e_zret, e_lret, e_vret, e_obj, e_callV, e_callS, e_callT, e_acpy, e_ldcS, e_dn, e_ag, z_pop, List.getElem?_cons_zero, List.getElem?_cons_succ, List.set_cons_zero, List.set_cons_succ, List.length_cons, List.length_nil, z_nol, Option.map_some, Option.toList_some, Option.toList_none, List.cons_append, List.nil_append, n_lit, n_m1, n_m2, n_m1lt, n_m1le, n_rem, n_div, n_out, n_cl, n_eq, n_le, n_lt, n_add, n_mul, n_sub, n_nle, n_yle, n_nlt, n_ylt, n_neN, z_lay, z_sz, z_str, z_stI, z_stL, z_stR, eq_self, ↓reduceIte, true_and, and_true, and_self, false_and, and_false, or_self, false_or, or_false, true_or, or_true, not_true_eq_false, not_false_eq_true, Nat.reduceLeDiff, Nat.reduceLT, Nat.reduceAdd, Nat.reduceEqDiff, Nat.reduceMul, Nat.reduceSub, Value.category, Nat.zero_le, beq_self_eq_true]
    · show kX12_go_0 [some (.ref ((B + 200))), some (.int (x))] [] (I, L, Z) = _
      simp (disch := omega) only [kX12_go_18, kX12_go_0, hM.1, r_isRow_no hM hR.1 hR.2.1 hO.1 qx, e_push, e_pushl, e_iload, e_lload, e_aload, e_istore, e_astore, e_lstore, e_iinc, e_iadd, e_isub, e_imul, e_iand, e_ior, e_ixor, e_ishl, e_ishr, e_iushr, e_idiv, e_irem, e_ladd, e_lsub, e_lmul, e_lcmp, e_mmax, e_mmin, e_i2l, e_l2i, e_i2b, e_i2c, e_dup, e_dup2, e_pop, e_icmp_eq, e_icmp_ne, e_icmp_lt, e_icmp_ge, e_icmp_gt, e_icmp_le, e_if_eq, e_if_ne, e_if_lt, e_if_ge, e_if_gt, e_if_le, e_getI, e_getR, e_putI, e_putZ, e_putR, e_iald, e_bald, e_zald, e_lald, e_aald, e_alen, e_iast, e_bast, e_zast, e_last, e_aast, e_iret, e_zret, e_lret, e_vret, e_obj, e_callV, e_callS, e_callT, e_acpy, e_ldcS, e_dn, e_ag, z_pop, List.getElem?_cons_zero, List.getElem?_cons_succ, List.set_cons_zero, List.set_cons_succ, List.length_cons, List.length_nil, z_nol, Option.map_some, Option.toList_some, Option.toList_none, List.cons_append, List.nil_append, n_lit, n_m1, n_m2, n_m1lt, n_m1le, n_rem, n_div, n_out, n_cl, n_eq, n_le, n_lt, n_add, n_mul, n_sub, n_nle, n_yle, n_nlt, n_ylt, n_neN, z_lay, z_sz, z_str, z_stI, z_stL, z_stR, eq_self, ↓reduceIte, true_and, and_true, and_self, false_and, and_false, or_self, false_or, or_false, true_or, or_true, not_true_eq_false, not_false_eq_true, Nat.reduceLeDiff, Nat.reduceLT, Nat.reduceAdd, Nat.reduceEqDiff, Nat.reduceMul, Nat.reduceSub, Value.category, Nat.zero_le, beq_self_eq_true]
  · have c1 := p_isRow_yes (L := L) h h6.1 hO.1 hr
    have c2 := r_isRow_yes (L := L) hM hR.1 hR.2.1 hO.1 hr
    obtain ⟨o1, o2, o3⟩ := hO.2.2 r hr
    have hr5 := hO.1
    have hr4 : r < 4 := by omega
    have l1 := p_lengthOf (I := I) (L := L) (cf_33 h) hr4
    rw [(h6.2.2.2.2 r hr).1.1] at l1
    have nr : I (B + 200 + 29) r = nI (len r) := hR.2.2.1 r hr
    by_cases q8 : len r = 1
    · refine ⟨nM1, I, I, ?_, ?_, hW, len, col, tm, pd, hF⟩
      · show kX11_go_0 [some (.ref (B)), some (.int (nI (r)))] [] (I, L, Z) = _
        rw [q8] at l1
        simp (disch := omega) only [kX11_go_20, kX11_go_0, cl_B h, cr_0_0 h, cr_0_4 h, cr_0_5 h, cr_0_6 h, cr_0_7 h, cr_0_8 h, cr_0_9 h, cr_0_10 h, cr_0_11 h, cr_0_12 h, h.2.2.2.1, cl_1 h, cl_33 h, cl_36 h, cl_39 h, cl_40 h, cl_42 h, cl_45 h, cl_178 h, cl_186 h, cl_191 h, tl_0 h, tl_5 h, tr_0_0 h, tr_0_1 h, tr_0_2 h, tl_1 h, tl_10 h, c1, l1, e_push, e_pushl, e_iload, e_lload, e_aload, e_istore, e_astore, e_lstore, e_iinc, e_iadd, e_isub, e_imul, e_iand, e_ior, e_ixor, e_ishl, e_ishr, e_iushr, e_idiv, e_irem, e_ladd, e_lsub, e_lmul, e_lcmp, e_mmax, e_mmin, e_i2l, e_l2i, e_i2b, e_i2c, e_dup, e_dup2, e_pop, e_icmp_eq, e_icmp_ne, e_icmp_lt, e_icmp_ge, e_icmp_gt, e_icmp_le, e_if_eq, e_if_ne, e_if_lt, e_if_ge, e_if_gt, e_if_le, e_getI, e_getR, e_putI, e_putZ, e_putR, e_iald, e_bald, e_zald, e_lald, e_aald, e_alen, e_iast, e_bast, e_zast, e_last, e_aast, e_iret, e_zret, e_lret, e_vret, e_obj, e_callV, e_callS, e_callT, e_acpy, e_ldcS, e_dn, e_ag, z_pop, List.getElem?_cons_zero, List.getElem?_cons_succ, List.set_cons_zero, List.set_cons_succ, List.length_cons, List.length_nil, z_nol, Option.map_some, Option.toList_some, Option.toList_none, List.cons_append, List.nil_append, n_lit, n_m1, n_m2, n_m1lt, n_m1le, n_rem, n_div, n_out, n_cl, n_eq, n_le, n_lt, n_add, n_mul, n_sub, n_nle, n_yle, n_nlt, n_ylt, n_neN, z_lay, z_sz, z_str, z_stI, z_stL, z_stR, eq_self, ↓reduceIte, true_and, and_true, and_self, false_and, and_false, or_self, false_or, or_false, true_or, or_true, not_true_eq_false, not_false_eq_true, Nat.reduceLeDiff, Nat.reduceLT, Nat.reduceAdd, Nat.reduceEqDiff, Nat.reduceMul, Nat.reduceSub, Value.category, Nat.zero_le, beq_self_eq_true]
      · rw [q8] at nr
        show kX12_go_0 [some (.ref ((B + 200))), some (.int (nI (r)))] [] (I, L, Z) = _
        simp (disch := omega) only [kX12_go_18, kX12_go_0, hM.1, mr_now hM, ml_now hM, c2, nr, e_push, e_pushl, e_iload, e_lload, e_aload, e_istore, e_astore, e_lstore, e_iinc, e_iadd, e_isub, e_imul, e_iand, e_ior, e_ixor, e_ishl, e_ishr, e_iushr, e_idiv, e_irem, e_ladd, e_lsub, e_lmul, e_lcmp, e_mmax, e_mmin, e_i2l, e_l2i, e_i2b, e_i2c, e_dup, e_dup2, e_pop, e_icmp_eq, e_icmp_ne, e_icmp_lt, e_icmp_ge, e_icmp_gt, e_icmp_le, e_if_eq, e_if_ne, e_if_lt, e_if_ge, e_if_gt, e_if_le, e_getI, e_getR, e_putI, e_putZ, e_putR, e_iald, e_bald, e_zald, e_lald, e_aald, e_alen, e_iast, e_bast, e_zast, e_last, e_aast, e_iret, e_zret, e_lret, e_vret, e_obj, e_callV, e_callS, e_callT, e_acpy, e_ldcS, e_dn, e_ag, z_pop, List.getElem?_cons_zero, List.getElem?_cons_succ, List.set_cons_zero, List.set_cons_succ, List.length_cons, List.length_nil, z_nol, Option.map_some, Option.toList_some, Option.toList_none, List.cons_append, List.nil_append, n_lit, n_m1, n_m2, n_m1lt, n_m1le, n_rem, n_div, n_out, n_cl, n_eq, n_le, n_lt, n_add, n_mul, n_sub, n_nle, n_yle, n_nlt, n_ylt, n_neN, z_lay, z_sz, z_str, z_stI, z_stL, z_stR, eq_self, ↓reduceIte, true_and, and_true, and_self, false_and, and_false, or_self, false_or, or_false, true_or, or_true, not_true_eq_false, not_false_eq_true, Nat.reduceLeDiff, Nat.reduceLT, Nat.reduceAdd, Nat.reduceEqDiff, Nat.reduceMul, Nat.reduceSub, Value.category, Nat.zero_le, beq_self_eq_true]
    · obtain ⟨u, nw, u1, u2, u3, u4, u5, u6⟩ := hU
      obtain ⟨J2, m0, m1, m2, m3, m4⟩ := p_remember (L := L) h u3 u1 u4 u2
      have hS : rgS nw < 40 := by unfold rgS; split <;> omega
      have h6J : famC J2 (B + 33) (B + 34) (B + 35) rows nc len col tm pd := h6.kept (m4 _ (by omega) (by omega) (by omega) (by omega)) (m4 _ (by omega) (by omega) (by omega) (by omega)) (m4 _ (by omega) (by omega) (by omega) (by omega))
      have l3 := p_lengthOf (I := J2) (L := L) (cf_33 h) hr4
      rw [(h6J.2.2.2.2 r hr).1.1] at l3
      have e1 := p_setLength (I := J2) (L := L) (x := nI (len r - 1)) (cf_33 h) hr4
      have f2 := h6J.shrink hr (by omega) (by omega) (by omega)
      have l2 := p_lengthOf (I := z_up J2 (B + 34) r (nI (len r - 1))) (L := L) (cf_33 h) hr4
      rw [zup_at] at l2
      have f1 : ∀ k', (k' < 33 ∨ 35 < k') → z_up J2 (B + 34) r (nI (len r - 1)) (B + k') = J2 (B + k') := fun k' hk' => by rw [zup_off (by omega)]
      generalize hK1 : z_up J2 (B + 34) r (nI (len r - 1)) = K1 at e1 f2 l2 f1
      have y2 : ∀ k', 200 ≤ k' → K1 (B + k') = I (B + k') := fun k' hk' => by rw [f1 k' (by omega), m4 _ (by omega) (by omega) (by omega) (by omega)]
      have y3 : ∀ k', K1 (B + 200 + k') = I (B + 200 + k') := fun k' => by rw [Nat.add_assoc]; exact y2 _ (by omega)
      have hT1 : refTab K1 (B + 200) lv nc ch := hR.1.kept (by rw [y2 200 (by omega)]) (y3 9) (y3 11)
      obtain ⟨N0, b1, b2, b3, b4, b5⟩ := r_copies (L := L) hM hT1
      have c3 : N0 (B + 200 + 30) r = nI (len r) := by rw [b2 r (by omega), y3, nr]
      generalize hN1 : z_up (z_up N0 (B + 200 + 30) r (nI (len r - 1))) (B + 200 + 30) (4 + 8 * r + (len r - 1)) (nI 0) = N1
      have v5 : N1 (B + 200) 52 = nI u := by
        rw [← hN1, zup_off (by omega), zup_off (by omega), b5 52 (by omega), y2 200 (by omega), u5]
      obtain ⟨N2, r0, r1, r2, r3, r4, r5, r6⟩ := r_rec (I := N1) (L := L) hM v5 u1
      have n1 : sameR K1 N1 B := by
        rw [← hN1]
        refine ⟨fun k' hk' => ?_, fun k' hk' => ?_, fun j hj => ?_⟩
        · rw [zup_off (by omega), zup_off (by omega), b4 _ (by omega) (by omega)]
        · unfold essA at hk'
          rw [zup_off (by omega), zup_off (by omega), b4 _ (by omega) (by omega)]
        · unfold essF at hj
          rw [zup_off (by omega), zup_off (by omega), b5 j (by omega)]
      have n2 : famR (N1 (B + 200 + 30)) rows (fUp len r (len r - 1)) col tm pd := by
        rw [← hN1]
        obtain ⟨d1, d2, d3, d4, d5⟩ := hR.2.2
        refine ⟨fun q hq => ?_, fun q hq1 hq2 => ?_, fun q hq i hi => ?_, ?_, ?_⟩
        · by_cases e : q = r
          · subst e; rw [fUp_at, zup_ne (by omega), zup_at]
          · rw [fUp_ne e, zup_ne (by omega), zup_ne (by omega), b2 q (by omega), y3]; exact d1 q hq
        · rw [zup_ne (by omega), zup_ne (by omega), b2 q (by omega), y3]; exact d2 q hq1 hq2
        · have oq := hO.2.2 q hq
          by_cases e : q = r
          · subst e
            rw [fUp_at] at hi
            rw [zup_ne (by omega), zup_ne (by omega), b2 _ (by omega), y3]; exact d3 q hq i (by omega)
          · rw [fUp_ne e] at hi
            rw [zup_ne (by omega), zup_ne (by omega), b2 _ (by omega), y3]; exact d3 q hq i hi
        · rw [zup_ne (by omega), zup_ne (by omega), b2 _ (by omega), y3]; exact d4
        · rw [zup_ne (by omega), zup_ne (by omega), b2 _ (by omega), y3]; exact d5
      obtain ⟨w1, w2⟩ := finF hW hV hR u1 u2 u6 (sameC.refl I B tx) m1 m2 m3 m4 (fun k' h1 _ => f1 k' h1) f2 n1 n2 r1 r2 r3 r4 r5 r6
      have v6 : N2 (B + 200 + 29) r = nI (len r - 1) := by rw [r2 r (by omega), ← hN1, zup_ne (by omega), zup_at]
      have nrK : K1 (B + 200 + 29) r = nI (len r) := by rw [y3, nr]
      refine ⟨nI (len r - 1), K1, N2, ?_, ?_, w1, _, _, _, _, w2⟩
      · show kX11_go_0 [some (.ref (B)), some (.int (nI (r)))] [] (I, L, Z) = _
        simp (disch := omega) only [kX11_go_20, kX11_go_0, cl_B h, cr_0_0 h, cr_0_4 h, cr_0_5 h, cr_0_6 h, cr_0_7 h, cr_0_8 h, cr_0_9 h, cr_0_10 h, cr_0_11 h, cr_0_12 h, h.2.2.2.1, cl_1 h, cl_33 h, cl_36 h, cl_39 h, cl_40 h, cl_42 h, cl_45 h, cl_178 h, cl_186 h, cl_191 h, tl_0 h, tl_5 h, tr_0_0 h, tr_0_1 h, tr_0_2 h, tl_1 h, tl_10 h, c1, l1, m0, l3, e1, l2, e_push, e_pushl, e_iload, e_lload, e_aload, e_istore, e_astore, e_lstore, e_iinc, e_iadd, e_isub, e_imul, e_iand, e_ior, e_ixor, e_ishl, e_ishr, e_iushr, e_idiv, e_irem, e_ladd, e_lsub, e_lmul, e_lcmp, e_mmax, e_mmin, e_i2l, e_l2i, e_i2b, e_i2c, e_dup, e_dup2, e_pop, e_icmp_eq, e_icmp_ne, e_icmp_lt, e_icmp_ge, e_icmp_gt, e_icmp_le, e_if_eq, e_if_ne, e_if_lt, e_if_ge, e_if_gt, e_if_le, e_getI, e_getR, e_putI, e_putZ, e_putR, e_iald, e_bald, e_zald, e_lald, e_aald, e_alen, e_iast, e_bast, e_zast, e_last, e_aast, e_iret, e_zret, e_lret, e_vret, e_obj, e_callV, e_callS, e_callT, e_acpy, e_ldcS, e_dn, e_ag, z_pop, List.getElem?_cons_zero, List.getElem?_cons_succ, List.set_cons_zero, List.set_cons_succ, List.length_cons, List.length_nil, z_nol, Option.map_some, Option.toList_some, Option.toList_none, List.cons_append, List.nil_append, n_lit, n_m1, n_m2, n_m1lt, n_m1le, n_rem, n_div, n_out, n_cl, n_eq, n_le, n_lt, n_add, n_mul, n_sub, n_nle, n_yle, n_nlt, n_ylt, n_neN, z_lay, z_sz, z_str, z_stI, z_stL, z_stR, eq_self, ↓reduceIte, true_and, and_true, and_self, false_and, and_false, or_self, false_or, or_false, true_or, or_true, not_true_eq_false, not_false_eq_true, Nat.reduceLeDiff, Nat.reduceLT, Nat.reduceAdd, Nat.reduceEqDiff, Nat.reduceMul, Nat.reduceSub, Value.category, Nat.zero_le, beq_self_eq_true]
      · have c2' := r_isRow_yes (L := L) hM hT1 (by rw [y3]; exact hR.2.1) hO.1 hr
        show kX12_go_0 [some (.ref ((B + 200))), some (.int (nI (r)))] [] (K1, L, Z) = _
        simp (disch := omega) only [kX12_go_18, kX12_go_0, hM.1, mr_now hM, ml_now hM, mr_row hM, ml_row hM, c2', nrK, n_neN q8, b1, c3, zup_at, hN1, r0, v6, e_push, e_pushl, e_iload, e_lload, e_aload, e_istore, e_astore, e_lstore, e_iinc, e_iadd, e_isub, e_imul, e_iand, e_ior, e_ixor, e_ishl, e_ishr, e_iushr, e_idiv, e_irem, e_ladd, e_lsub, e_lmul, e_lcmp, e_mmax, e_mmin, e_i2l, e_l2i, e_i2b, e_i2c, e_dup, e_dup2, e_pop, e_icmp_eq, e_icmp_ne, e_icmp_lt, e_icmp_ge, e_icmp_gt, e_icmp_le, e_if_eq, e_if_ne, e_if_lt, e_if_ge, e_if_gt, e_if_le, e_getI, e_getR, e_putI, e_putZ, e_putR, e_iald, e_bald, e_zald, e_lald, e_aald, e_alen, e_iast, e_bast, e_zast, e_last, e_aast, e_iret, e_zret, e_lret, e_vret, e_obj, e_callV, e_callS, e_callT, e_acpy, e_ldcS, e_dn, e_ag, z_pop, List.getElem?_cons_zero, List.getElem?_cons_succ, List.set_cons_zero, List.set_cons_succ, List.length_cons, List.length_nil, z_nol, Option.map_some, Option.toList_some, Option.toList_none, List.cons_append, List.nil_append, n_lit, n_m1, n_m2, n_m1lt, n_m1le, n_rem, n_div, n_out, n_cl, n_eq, n_le, n_lt, n_add, n_mul, n_sub, n_nle, n_yle, n_nlt, n_ylt, n_neN, z_lay, z_sz, z_str, z_stI, z_stL, z_stR, eq_self, ↓reduceIte, true_and, and_true, and_self, false_and, and_false, or_self, false_or, or_false, true_or, or_true, not_true_eq_false, not_false_eq_true, Nat.reduceLeDiff, Nat.reduceLT, Nat.reduceAdd, Nat.reduceEqDiff, Nat.reduceMul, Nat.reduceSub, Value.category, Nat.zero_le, beq_self_eq_true]
/-- the family is changed alone, the rest stays -/
theorem wFam.of {I J : Nat → Nat → Int32} {B tx lv nc : Nat} {ch : Nat → Nat → Nat} {rows : Nat} {len len' : Nat → Nat} {col col' : Nat → Nat → Nat} {tm pd tm' pd' : Int32} (htx : tx = 3 ∨ tx = 18) (hF : wFam I B tx lv nc ch rows len col tm pd) (hs : famSame I J B tx) (hC : famC J (B + 33) (B + 34) (B + 35) rows nc len' col' tm' pd') (hR : famR (J (B + 200 + 29)) rows len' col' tm' pd') (hU : wUndo J B rows nc) : wFam J B tx lv nc ch rows len' col' tm' pd' := by
  obtain ⟨⟨h1, h2, h3, h4, h5, h6⟩, ⟨g1, g2, g3⟩, -⟩ := hF
  obtain ⟨s1, s2, s3, s4, s5, s6⟩ := hs
  refine ⟨⟨by rw [s2]; exact h1, h2, h3, ?_, h5, hC⟩, ⟨g1.kept (s6 18 (by unfold essF; omega) (by omega)) (s5 9 (by unfold essA; omega) (by omega) (by omega)) (s5 11 (by unfold essA; omega) (by omega) (by omega)), by rw [s5 13 (by unfold essA; omega) (by omega) (by omega)]; exact g2, hR⟩, hU⟩
  unfold tabI
  rw [s1 (tx + 6) (by omega) (by unfold essK; omega) (by omega) (by omega) (by omega)]
  exact h4
theorem o_undo {I : Nat → Nat → Int32} {L : Nat → Nat → Int64} {Z : zZ} {B tx lv nc : Nat} {ch : Nat → Nat → Nat} {rows : Nat} {len : Nat → Nat} {col : Nat → Nat → Nat} {tm pd : Int32} (hW : wRest I L Z B tx lv nc ch rows) (hF : wFam I B tx lv nc ch rows len col tm pd) : okOp fX11_undo fX12_undo [] I L Z B tx lv nc ch rows := by
  have h := hW.1
  have hM := hW.2.1
  obtain ⟨u, nw, u1, u2, u3, u4, u5, u6⟩ := hF.2.2
  by_cases q : u = 0
  · subst q
    refine ⟨nI 0, I, I, ?_, r_undo0 hM u5, hW, len, col, tm, pd, hF⟩
    show kX11_undo_0 [some (.ref (B))] [] (I, L, Z) = _
    simp (disch := omega) only [kX11_undo_0, cl_B h, cr_0_0 h, cr_0_4 h, cr_0_5 h, cr_0_6 h, cr_0_7 h, cr_0_8 h, cr_0_9 h, cr_0_10 h, cr_0_11 h, cr_0_12 h, h.2.2.2.1, cl_1 h, cl_33 h, cl_36 h, cl_39 h, cl_40 h, cl_42 h, cl_45 h, cl_178 h, cl_186 h, cl_191 h, tl_0 h, tl_5 h, tr_0_0 h, tr_0_1 h, tr_0_2 h, tl_1 h, tl_10 h, p_recall0 h u3, e_push, e_pushl, e_iload, e_lload, e_aload, e_istore, e_astore, e_lstore, e_iinc, e_iadd, e_isub, e_imul, e_iand, e_ior, e_ixor, e_ishl, e_ishr, e_iushr, e_idiv, e_irem, e_ladd, e_lsub, e_lmul, e_lcmp, e_mmax, e_mmin, e_i2l, e_l2i, e_i2b, e_i2c, e_dup, e_dup2, e_pop, e_icmp_eq, e_icmp_ne, e_icmp_lt, e_icmp_ge, e_icmp_gt, e_icmp_le, e_if_eq, e_if_ne, e_if_lt, e_if_ge, e_if_gt, e_if_le, e_getI, e_getR, e_putI, e_putZ, e_putR, e_iald, e_bald, e_zald, e_lald, e_aald, e_alen, e_iast, e_bast, e_zast, e_last, e_aast, e_iret, e_zret, e_lret, e_vret, e_obj, e_callV, e_callS, e_callT, e_acpy, e_ldcS, e_dn, e_ag, z_pop, List.getElem?_cons_zero, List.getElem?_cons_succ, List.set_cons_zero, List.set_cons_succ, List.length_cons, List.length_nil, z_nol, Option.map_some, Option.toList_some, Option.toList_none, List.cons_append, List.nil_append, n_lit, n_m1, n_m2, n_m1lt, n_m1le, n_rem, n_div, n_out, n_cl, n_eq, n_le, n_lt, n_add, n_mul, n_sub, n_nle, n_yle, n_nlt, n_ylt, n_neN, z_lay, z_sz, z_str, z_stI, z_stL, z_stR, eq_self, ↓reduceIte, true_and, and_true, and_self, false_and, and_false, or_self, false_or, or_false, true_or, or_true, not_true_eq_false, not_false_eq_true, Nat.reduceLeDiff, Nat.reduceLT, Nat.reduceAdd, Nat.reduceEqDiff, Nat.reduceMul, Nat.reduceSub, Value.category, Nat.zero_le, beq_self_eq_true]
  · obtain ⟨J, a1, a2, a3, a4, a5⟩ := p_recall (L := L) h u3 u1 (by omega) u4 u2
    have y2 : ∀ k', 200 ≤ k' → J (B + k') = I (B + k') := fun k' hk' => a5 _ (by omega) (by omega) (by omega) (by omega)
    have y3 : ∀ k', J (B + 200 + k') = I (B + 200 + k') := fun k' => by rw [Nat.add_assoc]; exact y2 _ (by omega)
    obtain ⟨N, b1, b2, b3, b4, b5⟩ := r_undo (I := J) (L := L) (u := u - 1) hM (by rw [y2 200 (by omega), u5, show u - 1 + 1 = u by omega]) (by omega)
    obtain ⟨len', col', tm', pd', p1, p2⟩ := u6 (u - 1) (by omega)
    have e1 : rgX u nw (u - 1) = nw := by unfold rgX; omega
    rw [e1] at p1
    have z1 : ∀ k, k < 200 → N (B + k) = J (B + k) := fun k hk => b4 _ (by omega) (by omega)
    have hs : famSame I N B tx := by
      refine ⟨fun k k1 k2 k3 k4 k5 => ?_, ?_, ?_, fun hz x hx => ?_, fun k k1 k2 k3 => ?_, fun j j1 j2 => ?_⟩
      · rw [z1 k k1, a5 _ (by omega) (by omega) (by omega) (by omega)]
      · rw [z1 _ (by have := h.1; omega), a5 _ (by have := h.1; omega) (by have := h.1; omega) (by have := h.1; omega) (by have := h.1; omega)]
      · rw [z1 _ (by omega), a5 _ (by omega) (by omega) (by omega) (by omega)]
      · rw [z1 44 (by omega), z1 181 (by omega), z1 189 (by omega), z1 198 (by omega), a5 _ (by omega) (by omega) (by omega) (by omega), a5 _ (by omega) (by omega) (by omega) (by omega), a5 _ (by omega) (by omega) (by omega) (by omega), a5 _ (by omega) (by omega) (by omega) (by omega)]
        exact hz x hx
      · have : 1 ≤ k := by unfold essA at k1; omega
        rw [b4 _ (by omega) (by omega), y3]
      · rw [b5 j j2, y2 200 (by omega)]
    refine ⟨nI 1, J, N, ?_, b1, hW.kept hs, len', col', tm', pd', hF.of h.1 hs ?_ ?_ ?_⟩
    · show kX11_undo_0 [some (.ref (B))] [] (I, L, Z) = _
      simp (disch := omega) only [kX11_undo_0, cl_B h, cr_0_0 h, cr_0_4 h, cr_0_5 h, cr_0_6 h, cr_0_7 h, cr_0_8 h, cr_0_9 h, cr_0_10 h, cr_0_11 h, cr_0_12 h, h.2.2.2.1, cl_1 h, cl_33 h, cl_36 h, cl_39 h, cl_40 h, cl_42 h, cl_45 h, cl_178 h, cl_186 h, cl_191 h, tl_0 h, tl_5 h, tr_0_0 h, tr_0_1 h, tr_0_2 h, tl_1 h, tl_10 h, a1, e_push, e_pushl, e_iload, e_lload, e_aload, e_istore, e_astore, e_lstore, e_iinc, e_iadd, e_isub, e_imul, e_iand, e_ior, e_ixor, e_ishl, e_ishr, e_iushr, e_idiv, e_irem, e_ladd, e_lsub, e_lmul, e_lcmp, e_mmax, e_mmin, e_i2l, e_l2i, e_i2b, e_i2c, e_dup, e_dup2, e_pop, e_icmp_eq, e_icmp_ne, e_icmp_lt, e_icmp_ge, e_icmp_gt, e_icmp_le, e_if_eq, e_if_ne, e_if_lt, e_if_ge, e_if_gt, e_if_le, e_getI, e_getR, e_putI, e_putZ, e_putR, e_iald, e_bald, e_zald, e_lald, e_aald, e_alen, e_iast, e_bast, e_zast, e_last, e_aast, e_iret, e_zret, e_lret, e_vret, e_obj, e_callV, e_callS, e_callT, e_acpy, e_ldcS, e_dn, e_ag, z_pop, List.getElem?_cons_zero, List.getElem?_cons_succ, List.set_cons_zero, List.set_cons_succ, List.length_cons, List.length_nil, z_nol, Option.map_some, Option.toList_some, Option.toList_none, List.cons_append, List.nil_append, n_lit, n_m1, n_m2, n_m1lt, n_m1le, n_rem, n_div, n_out, n_cl, n_eq, n_le, n_lt, n_add, n_mul, n_sub, n_nle, n_yle, n_nlt, n_ylt, n_neN, z_lay, z_sz, z_str, z_stI, z_stL, z_stR, eq_self, ↓reduceIte, true_and, and_true, and_self, false_and, and_false, or_self, false_or, or_false, true_or, or_true, not_true_eq_false, not_false_eq_true, Nat.reduceLeDiff, Nat.reduceLT, Nat.reduceAdd, Nat.reduceEqDiff, Nat.reduceMul, Nat.reduceSub, Value.category, Nat.zero_le, beq_self_eq_true]
    · exact (p1.copy a4).kept (z1 33 (by omega)) (z1 34 (by omega)) (z1 35 (by omega))
    · refine p2.of p1.len.1 p1.len.2 fun k hk => ?_
      rw [b3 k hk, y3]
    · refine ⟨u - 1, rgP nw, by omega, by unfold rgP; split <;> omega, by rw [z1 45 (by omega)]; exact a2, by rw [z1 45 (by omega)]; exact a3, b2, fun p hp => ?_⟩
      obtain ⟨len', col', tm', pd', p1, p2⟩ := u6 p (by omega)
      have e2 : rgX (u - 1) (rgP nw) p = rgX u nw p := by unfold rgX rgP; split <;> omega
      have hx : rgX u nw p < 40 := Nat.mod_lt _ (by omega)
      rw [e2]
      refine ⟨len', col', tm', pd', p1.kept ?_ ?_ ?_, ?_⟩
      · rw [z1 _ (by omega), a5 _ (by omega) (by omega) (by omega) (by omega)]
      · rw [z1 _ (by omega), a5 _ (by omega) (by omega) (by omega) (by omega)]
      · rw [z1 _ (by omega), a5 _ (by omega) (by omega) (by omega) (by omega)]
      · rw [b4 _ (by omega) (by omega), y3]; exact p2
theorem o_hold {I : Nat → Nat → Int32} {L : Nat → Nat → Int64} {Z : zZ} {B tx lv nc : Nat} {ch : Nat → Nat → Nat} {rows : Nat} {len : Nat → Nat} {col : Nat → Nat → Nat} {tm pd : Int32} (hW : wRest I L Z B tx lv nc ch rows) (hF : wFam I B tx lv nc ch rows len col tm pd) (x : Int32) : okOp fX11_hold fX12_hold [.int x] I L Z B tx lv nc ch rows := by
  have h := hW.1
  have hM := hW.2.1
  rcases out_or x (n := 3) (by omega) with qx | ⟨s, hs, rfl⟩
  · refine ⟨nI 0, I, I, ?_, r_hold_no hM qx, hW, len, col, tm, pd, hF⟩
    show kX11_hold_0 [some (.ref (B)), some (.int (x))] [] (I, L, Z) = _
    simp (disch := omega) only [kX11_hold_0, cl_B h, cr_0_0 h, cr_0_4 h, cr_0_5 h, cr_0_6 h, cr_0_7 h, cr_0_8 h, cr_0_9 h, cr_0_10 h, cr_0_11 h, cr_0_12 h, h.2.2.2.1, cl_1 h, cl_33 h, cl_36 h, cl_39 h, cl_40 h, cl_42 h, cl_45 h, cl_178 h, cl_186 h, cl_191 h, tl_0 h, tl_5 h, tr_0_0 h, tr_0_1 h, tr_0_2 h, tl_1 h, tl_10 h, p_keep_no (B := B) (y := B + 33) qx, e_push, e_pushl, e_iload, e_lload, e_aload, e_istore, e_astore, e_lstore, e_iinc, e_iadd, e_isub, e_imul, e_iand, e_ior, e_ixor, e_ishl, e_ishr, e_iushr, e_idiv, e_irem, e_ladd, e_lsub, e_lmul, e_lcmp, e_mmax, e_mmin, e_i2l, e_l2i, e_i2b, e_i2c, e_dup, e_dup2, e_pop, e_icmp_eq, e_icmp_ne, e_icmp_lt, e_icmp_ge, e_icmp_gt, e_icmp_le, e_if_eq, e_if_ne, e_if_lt, e_if_ge, e_if_gt, e_if_le, e_getI, e_getR, e_putI, e_putZ, e_putR, e_iald, e_bald, e_zald, e_lald, e_aald, e_alen, e_iast, e_bast, e_zast, e_last, e_aast, e_iret, e_zret, e_lret, e_vret, e_obj, e_callV, e_callS, e_callT, e_acpy, e_ldcS, e_dn, e_ag, z_pop, List.getElem?_cons_zero, List.getElem?_cons_succ, List.set_cons_zero, List.set_cons_succ, List.length_cons, List.length_nil, z_nol, Option.map_some, Option.toList_some, Option.toList_none, List.cons_append, List.nil_append, n_lit, n_m1, n_m2, n_m1lt, n_m1le, n_rem, n_div, n_out, n_cl, n_eq, n_le, n_lt, n_add, n_mul, n_sub, n_nle, n_yle, n_nlt, n_ylt, n_neN, z_lay, z_sz, z_str, z_stI, z_stL, z_stR, eq_self, ↓reduceIte, true_and, and_true, and_self, false_and, and_false, or_self, false_or, or_false, true_or, or_true, not_true_eq_false, not_false_eq_true, Nat.reduceLeDiff, Nat.reduceLT, Nat.reduceAdd, Nat.reduceEqDiff, Nat.reduceMul, Nat.reduceSub, Value.category, Nat.zero_le, beq_self_eq_true]
  · obtain ⟨J, a1, a2, a3, a4, a5⟩ := p_keep (I := I) (L := L) h hs
    obtain ⟨N, b1, b2, b3, b4, b5, b6⟩ := r_hold (I := J) (L := L) hM hs
    have htx := h.1
    have y1 : ∀ k, k < 169 → k ≠ 48 → N (B + k) = I (B + k) := fun k k1 k2 => by rw [b6 _ (by omega) (by omega), a5 _ (by omega) (by omega) (by omega) (by omega)]
    have y2 : ∀ k, 178 ≤ k → k ≠ 248 → k ≠ 249 → N (B + k) = I (B + k) := fun k k1 k2 k3 => by rw [b6 _ (by omega) (by omega), a5 _ (by omega) (by omega) (by omega) (by omega)]
    have y3 : ∀ k, k ≠ 48 → k ≠ 49 → N (B + 200 + k) = I (B + 200 + k) := fun k k1 k2 => by rw [Nat.add_assoc, y2 _ (by omega) (by omega) (by omega)]
    have yJ : ∀ k, J (B + 200 + k) = I (B + 200 + k) := fun k => by rw [a5 _ (by omega) (by omega) (by omega) (by omega)]
    refine ⟨nI 1, J, N, ?_, b1, ?_, len, col, tm, pd, ?_⟩
    · show kX11_hold_0 [some (.ref (B)), some (.int (nI (s)))] [] (I, L, Z) = _
      simp (disch := omega) only [kX11_hold_0, cl_B h, cr_0_0 h, cr_0_4 h, cr_0_5 h, cr_0_6 h, cr_0_7 h, cr_0_8 h, cr_0_9 h, cr_0_10 h, cr_0_11 h, cr_0_12 h, h.2.2.2.1, cl_1 h, cl_33 h, cl_36 h, cl_39 h, cl_40 h, cl_42 h, cl_45 h, cl_178 h, cl_186 h, cl_191 h, tl_0 h, tl_5 h, tr_0_0 h, tr_0_1 h, tr_0_2 h, tl_1 h, tl_10 h, a1, e_push, e_pushl, e_iload, e_lload, e_aload, e_istore, e_astore, e_lstore, e_iinc, e_iadd, e_isub, e_imul, e_iand, e_ior, e_ixor, e_ishl, e_ishr, e_iushr, e_idiv, e_irem, e_ladd, e_lsub, e_lmul, e_lcmp, e_mmax, e_mmin, e_i2l, e_l2i, e_i2b, e_i2c, e_dup, e_dup2, e_pop, e_icmp_eq, e_icmp_ne, e_icmp_lt, e_icmp_ge, e_icmp_gt, e_icmp_le, e_if_eq, e_if_ne, e_if_lt, e_if_ge, e_if_gt, e_if_le, e_getI, e_getR, e_putI, e_putZ, e_putR, e_iald, e_bald, e_zald, e_lald, e_aald, e_alen, e_iast, e_bast, e_zast, e_last, e_aast, e_iret, e_zret, e_lret, e_vret, e_obj, e_callV, e_callS, e_callT, e_acpy, e_ldcS, e_dn, e_ag, z_pop, List.getElem?_cons_zero, List.getElem?_cons_succ, List.set_cons_zero, List.set_cons_succ, List.length_cons, List.length_nil, z_nol, Option.map_some, Option.toList_some, Option.toList_none, List.cons_append, List.nil_append, n_lit, n_m1, n_m2, n_m1lt, n_m1le, n_rem, n_div, n_out, n_cl, n_eq, n_le, n_lt, n_add, n_mul, n_sub, n_nle, n_yle, n_nlt, n_ylt, n_neN, z_lay, z_sz, z_str, z_stI, z_stL, z_stR, eq_self, ↓reduceIte, true_and, and_true, and_self, false_and, and_false, or_self, false_or, or_false, true_or, or_true, not_true_eq_false, not_false_eq_true, Nat.reduceLeDiff, Nat.reduceLT, Nat.reduceAdd, Nat.reduceEqDiff, Nat.reduceMul, Nat.reduceSub, Value.category, Nat.zero_le, beq_self_eq_true]
    · obtain ⟨-, -, g3, g4, g5, g6, g7, g8, g9, g10, g11⟩ := hW
      refine ⟨h, hM, ?_, ?_, ?_, ?_, ?_, ?_, ?_, ?_, g11⟩
      · intro x hx
        rw [y1 44 (by omega) (by omega), y2 181 (by omega) (by omega) (by omega), y2 189 (by omega) (by omega) (by omega), y2 198 (by omega) (by omega) (by omega)]
        exact g3 x hx
      · unfold wTape
        rw [y1 1 (by omega) (by omega), y1 2 (by omega) (by omega), y2 200 (by omega) (by omega) (by omega), y3 1 (by omega) (by omega)]
        exact g4
      · have := y1 0 (by omega) (by omega)
        rw [Nat.add_zero] at this
        rw [this, y2 200 (by omega) (by omega) (by omega)]
        exact g5
      · unfold wSeed
        rw [y1 tx (by omega) (by omega), y3 16 (by omega) (by omega)]
        exact g6
      · intro s' hs'
        by_cases e : s' = s
        · subst e
          have k1 := hF.1.2.2.2.2.2
          refine Or.inr ⟨by rw [b6 _ (by omega) (by omega)]; exact a2, b2, len, col, tm, pd, (k1.copy a4).kept (b6 _ (by omega) (by omega)) (b6 _ (by omega) (by omega)) (b6 _ (by omega) (by omega)), hF.2.1.2.2.of k1.len.1 k1.len.2 fun k hk => ?_⟩
          rw [b4 k hk, yJ]
        · rw [b6 (B + 48) (by omega) (by omega), a3 s' e, b3 s' e, yJ]
          rcases g7 s' hs' with t | ⟨t1, t2, len', col', tm', pd', t3, t4⟩
          · exact Or.inl t
          · refine Or.inr ⟨t1, t2, len', col', tm', pd', t3.kept ?_ ?_ ?_, t4.of t3.len.1 t3.len.2 fun k hk => ?_⟩
            · rw [b6 _ (by omega) (by omega), a5 _ (by omega) (by omega) (by omega) (by omega)]
            · rw [b6 _ (by omega) (by omega), a5 _ (by omega) (by omega) (by omega) (by omega)]
            · rw [b6 _ (by omega) (by omega), a5 _ (by omega) (by omega) (by omega) (by omega)]
            · rw [b5 _ (by omega), yJ]
      · unfold wTold toldAt
        rw [y2 191 (by omega) (by omega) (by omega), y2 192 (by omega) (by omega) (by omega), y2 193 (by omega) (by omega) (by omega), y2 194 (by omega) (by omega) (by omega), y2 195 (by omega) (by omega) (by omega), y2 200 (by omega) (by omega) (by omega), y3 43 (by omega) (by omega), y3 44 (by omega) (by omega), y3 45 (by omega) (by omega), y3 46 (by omega) (by omega)]
        exact g8
      · unfold wCen cenN
        rw [y2 182 (by omega) (by omega) (by omega), y2 183 (by omega) (by omega) (by omega), y2 184 (by omega) (by omega) (by omega), y2 185 (by omega) (by omega) (by omega)]
        exact g9
      · obtain ⟨K, W, sz, c1, c2, c3⟩ := g10
        exact ⟨K, W, sz, c1.kept (y1 _ (by omega) (by omega)) (y1 _ (by omega) (by omega)), fun k hk => (c2 k hk).kept (y1 _ (by omega) (by omega)) (fun k k1 k2 => y3 k (by omega) (by omega)), fun k hk => (c3 k hk).kept (fun k k1 k2 => y3 k (by omega) (by omega))⟩
    · obtain ⟨⟨h1, h2, h3, h4, h5, h6⟩, ⟨g1, g2, g3⟩, g4⟩ := hF
      refine ⟨⟨by rw [y1 (tx + 5) (by omega) (by omega)]; exact h1, h2, h3, ?_, h5, h6.kept (y1 _ (by omega) (by omega)) (y1 _ (by omega) (by omega)) (y1 _ (by omega) (by omega))⟩, ⟨g1.kept (by rw [y2 200 (by omega) (by omega) (by omega)]) (y3 9 (by omega) (by omega)) (y3 11 (by omega) (by omega)), by rw [y3 13 (by omega) (by omega)]; exact g2, by rw [y3 29 (by omega) (by omega)]; exact g3⟩, g4.kept (fun k k1 k2 k3 => ?_) (by rw [y2 200 (by omega) (by omega) (by omega)]) (y3 33 (by omega) (by omega))⟩
      · unfold tabI
        rw [y1 (tx + 6) (by omega) (by omega)]
        exact h4
      · exact y1 k (by omega) (by omega)
theorem o_restore {I : Nat → Nat → Int32} {L : Nat → Nat → Int64} {Z : zZ} {B tx lv nc : Nat} {ch : Nat → Nat → Nat} {rows : Nat} {len : Nat → Nat} {col : Nat → Nat → Nat} {tm pd : Int32} (hW : wRest I L Z B tx lv nc ch rows) (hF : wFam I B tx lv nc ch rows len col tm pd) (x : Int32) : okOp fX11_restore fX12_restore [.int x] I L Z B tx lv nc ch rows := by
  have h := hW.1
  have hM := hW.2.1
  rcases out_or x (n := 3) (by omega) with qx | ⟨s, hs, rfl⟩
  · refine ⟨nI 0, I, I, ?_, r_restore_no hM qx, hW, len, col, tm, pd, hF⟩
    show kX11_restore_0 [some (.ref (B)), some (.int (x))] [] (I, L, Z) = _
    simp (disch := omega) only [kX11_restore_0, cl_B h, cr_0_0 h, cr_0_4 h, cr_0_5 h, cr_0_6 h, cr_0_7 h, cr_0_8 h, cr_0_9 h, cr_0_10 h, cr_0_11 h, cr_0_12 h, h.2.2.2.1, cl_1 h, cl_33 h, cl_36 h, cl_39 h, cl_40 h, cl_42 h, cl_45 h, cl_178 h, cl_186 h, cl_191 h, tl_0 h, tl_5 h, tr_0_0 h, tr_0_1 h, tr_0_2 h, tl_1 h, tl_10 h, p_bringBack_no (B := B) (y := B + 33) qx, e_push, e_pushl, e_iload, e_lload, e_aload, e_istore, e_astore, e_lstore, e_iinc, e_iadd, e_isub, e_imul, e_iand, e_ior, e_ixor, e_ishl, e_ishr, e_iushr, e_idiv, e_irem, e_ladd, e_lsub, e_lmul, e_lcmp, e_mmax, e_mmin, e_i2l, e_l2i, e_i2b, e_i2c, e_dup, e_dup2, e_pop, e_icmp_eq, e_icmp_ne, e_icmp_lt, e_icmp_ge, e_icmp_gt, e_icmp_le, e_if_eq, e_if_ne, e_if_lt, e_if_ge, e_if_gt, e_if_le, e_getI, e_getR, e_putI, e_putZ, e_putR, e_iald, e_bald, e_zald, e_lald, e_aald, e_alen, e_iast, e_bast, e_zast, e_last, e_aast, e_iret, e_zret, e_lret, e_vret, e_obj, e_callV, e_callS, e_callT, e_acpy, e_ldcS, e_dn, e_ag, z_pop, List.getElem?_cons_zero, List.getElem?_cons_succ, List.set_cons_zero, List.set_cons_succ, List.length_cons, List.length_nil, z_nol, Option.map_some, Option.toList_some, Option.toList_none, List.cons_append, List.nil_append, n_lit, n_m1, n_m2, n_m1lt, n_m1le, n_rem, n_div, n_out, n_cl, n_eq, n_le, n_lt, n_add, n_mul, n_sub, n_nle, n_yle, n_nlt, n_ylt, n_neN, z_lay, z_sz, z_str, z_stI, z_stL, z_stR, eq_self, ↓reduceIte, true_and, and_true, and_self, false_and, and_false, or_self, false_or, or_false, true_or, or_true, not_true_eq_false, not_false_eq_true, Nat.reduceLeDiff, Nat.reduceLT, Nat.reduceAdd, Nat.reduceEqDiff, Nat.reduceMul, Nat.reduceSub, Value.category, Nat.zero_le, beq_self_eq_true]
  · rcases hW.2.2.2.2.2.2.1 s hs with ⟨t1, t2⟩ | ⟨t1, t2, len', col', tm', pd', t3, t4⟩
    · refine ⟨nI 0, I, I, ?_, r_restore0 hM hs t2, hW, len, col, tm, pd, hF⟩
      show kX11_restore_0 [some (.ref (B)), some (.int (nI (s)))] [] (I, L, Z) = _
      simp (disch := omega) only [kX11_restore_0, cl_B h, cr_0_0 h, cr_0_4 h, cr_0_5 h, cr_0_6 h, cr_0_7 h, cr_0_8 h, cr_0_9 h, cr_0_10 h, cr_0_11 h, cr_0_12 h, h.2.2.2.1, cl_1 h, cl_33 h, cl_36 h, cl_39 h, cl_40 h, cl_42 h, cl_45 h, cl_178 h, cl_186 h, cl_191 h, tl_0 h, tl_5 h, tr_0_0 h, tr_0_1 h, tr_0_2 h, tl_1 h, tl_10 h, p_bringBack0 (y := B + 33) h hs t1, e_push, e_pushl, e_iload, e_lload, e_aload, e_istore, e_astore, e_lstore, e_iinc, e_iadd, e_isub, e_imul, e_iand, e_ior, e_ixor, e_ishl, e_ishr, e_iushr, e_idiv, e_irem, e_ladd, e_lsub, e_lmul, e_lcmp, e_mmax, e_mmin, e_i2l, e_l2i, e_i2b, e_i2c, e_dup, e_dup2, e_pop, e_icmp_eq, e_icmp_ne, e_icmp_lt, e_icmp_ge, e_icmp_gt, e_icmp_le, e_if_eq, e_if_ne, e_if_lt, e_if_ge, e_if_gt, e_if_le, e_getI, e_getR, e_putI, e_putZ, e_putR, e_iald, e_bald, e_zald, e_lald, e_aald, e_alen, e_iast, e_bast, e_zast, e_last, e_aast, e_iret, e_zret, e_lret, e_vret, e_obj, e_callV, e_callS, e_callT, e_acpy, e_ldcS, e_dn, e_ag, z_pop, List.getElem?_cons_zero, List.getElem?_cons_succ, List.set_cons_zero, List.set_cons_succ, List.length_cons, List.length_nil, z_nol, Option.map_some, Option.toList_some, Option.toList_none, List.cons_append, List.nil_append, n_lit, n_m1, n_m2, n_m1lt, n_m1le, n_rem, n_div, n_out, n_cl, n_eq, n_le, n_lt, n_add, n_mul, n_sub, n_nle, n_yle, n_nlt, n_ylt, n_neN, z_lay, z_sz, z_str, z_stI, z_stL, z_stR, eq_self, ↓reduceIte, true_and, and_true, and_self, false_and, and_false, or_self, false_or, or_false, true_or, or_true, not_true_eq_false, not_false_eq_true, Nat.reduceLeDiff, Nat.reduceLT, Nat.reduceAdd, Nat.reduceEqDiff, Nat.reduceMul, Nat.reduceSub, Value.category, Nat.zero_le, beq_self_eq_true]
    · obtain ⟨J, a1, a2, a3⟩ := p_bringBack (L := L) h hs t1
      have htx := h.1
      have yJ : ∀ k, z_up J (B + 45) 0 (nI 0) (B + 200 + k) = I (B + 200 + k) := fun k => by rw [zup_off (by omega), a3 _ (by omega) (by omega) (by omega)]
      have yJ0 : z_up J (B + 45) 0 (nI 0) (B + 200) = I (B + 200) := by rw [zup_off (by omega), a3 _ (by omega) (by omega) (by omega)]
      obtain ⟨N, b1, b2, b3, b4, b5⟩ := r_restore (I := z_up J (B + 45) 0 (nI 0)) (L := L) hM hs (by rw [yJ]; exact t2)
      have z1 : ∀ k, k < 200 → N (B + k) = z_up J (B + 45) 0 (nI 0) (B + k) := fun k hk => b4 _ (by omega) (by omega)
      have z2 : ∀ k, k < 200 → k ≠ 45 → ¬ (33 ≤ k ∧ k ≤ 35) → N (B + k) = I (B + k) := fun k k1 k2 k3 => by rw [z1 k k1, zup_off (by omega), a3 _ (by omega) (by omega) (by omega)]
      have hs' : famSame I N B tx := by
        refine ⟨fun k k1 k2 k3 k4 k5 => z2 k k1 k4 k3, by rw [z2 _ (by omega) (by omega) (by omega)], by rw [z2 _ (by omega) (by omega) (by omega)], fun hz x hx => ?_, fun k k1 k2 k3 => ?_, fun j j1 j2 => ?_⟩
        · rw [z2 44 (by omega) (by omega) (by omega), z2 181 (by omega) (by omega) (by omega), z2 189 (by omega) (by omega) (by omega), z2 198 (by omega) (by omega) (by omega)]
          exact hz x hx
        · have : 1 ≤ k := by unfold essA at k1; omega
          rw [b4 _ (by omega) (by omega), yJ]
        · rw [b5 j j2, yJ0]
      refine ⟨nI 1, z_up J (B + 45) 0 (nI 0), N, ?_, b1, hW.kept hs', len', col', tm', pd', hF.of htx hs' ?_ ?_ ?_⟩
      · have c1 : fX3_clearUndone [.ref (B + 45)] (J, L, Z) = some (none, (z_up J (B + 45) 0 (nI 0), L, Z)) := by
          show kX3_clearUndone_0 [some (.ref ((B + 45)))] [] (J, L, Z) = _
          simp (disch := omega) only [kX3_clearUndone_0, cl_45 h, e_push, e_pushl, e_iload, e_lload, e_aload, e_istore, e_astore, e_lstore, e_iinc, e_iadd, e_isub, e_imul, e_iand, e_ior, e_ixor, e_ishl, e_ishr, e_iushr, e_idiv, e_irem, e_ladd, e_lsub, e_lmul, e_lcmp, e_mmax, e_mmin, e_i2l, e_l2i, e_i2b, e_i2c, e_dup, e_dup2, e_pop, e_icmp_eq, e_icmp_ne, e_icmp_lt, e_icmp_ge, e_icmp_gt, e_icmp_le, e_if_eq, e_if_ne, e_if_lt, e_if_ge, e_if_gt, e_if_le, e_getI, e_getR, e_putI, e_putZ, e_putR, e_iald, e_bald, e_zald, e_lald, e_aald, e_alen, e_iast, e_bast, e_zast, e_last, e_aast, e_iret, e_zret, e_lret, e_vret, e_obj, e_callV, e_callS, e_callT, e_acpy, e_ldcS, e_dn, e_ag, z_pop, List.getElem?_cons_zero, List.getElem?_cons_succ, List.set_cons_zero, List.set_cons_succ, List.length_cons, List.length_nil, z_nol, Option.map_some, Option.toList_some, Option.toList_none, List.cons_append, List.nil_append, n_lit, n_m1, n_m2, n_m1lt, n_m1le, n_rem, n_div, n_out, n_cl, n_eq, n_le, n_lt, n_add, n_mul, n_sub, n_nle, n_yle, n_nlt, n_ylt, n_neN, z_lay, z_sz, z_str, z_stI, z_stL, z_stR, eq_self, ↓reduceIte, true_and, and_true, and_self, false_and, and_false, or_self, false_or, or_false, true_or, or_true, not_true_eq_false, not_false_eq_true, Nat.reduceLeDiff, Nat.reduceLT, Nat.reduceAdd, Nat.reduceEqDiff, Nat.reduceMul, Nat.reduceSub, Value.category, Nat.zero_le, beq_self_eq_true]
        show kX11_restore_0 [some (.ref (B)), some (.int (nI (s)))] [] (I, L, Z) = _
        simp (disch := omega) only [kX11_restore_0, cl_B h, cr_0_0 h, cr_0_4 h, cr_0_5 h, cr_0_6 h, cr_0_7 h, cr_0_8 h, cr_0_9 h, cr_0_10 h, cr_0_11 h, cr_0_12 h, h.2.2.2.1, cl_1 h, cl_33 h, cl_36 h, cl_39 h, cl_40 h, cl_42 h, cl_45 h, cl_178 h, cl_186 h, cl_191 h, tl_0 h, tl_5 h, tr_0_0 h, tr_0_1 h, tr_0_2 h, tl_1 h, tl_10 h, a1, c1, e_push, e_pushl, e_iload, e_lload, e_aload, e_istore, e_astore, e_lstore, e_iinc, e_iadd, e_isub, e_imul, e_iand, e_ior, e_ixor, e_ishl, e_ishr, e_iushr, e_idiv, e_irem, e_ladd, e_lsub, e_lmul, e_lcmp, e_mmax, e_mmin, e_i2l, e_l2i, e_i2b, e_i2c, e_dup, e_dup2, e_pop, e_icmp_eq, e_icmp_ne, e_icmp_lt, e_icmp_ge, e_icmp_gt, e_icmp_le, e_if_eq, e_if_ne, e_if_lt, e_if_ge, e_if_gt, e_if_le, e_getI, e_getR, e_putI, e_putZ, e_putR, e_iald, e_bald, e_zald, e_lald, e_aald, e_alen, e_iast, e_bast, e_zast, e_last, e_aast, e_iret, e_zret, e_lret, e_vret, e_obj, e_callV, e_callS, e_callT, e_acpy, e_ldcS, e_dn, e_ag, z_pop, List.getElem?_cons_zero, List.getElem?_cons_succ, List.set_cons_zero, List.set_cons_succ, List.length_cons, List.length_nil, z_nol, Option.map_some, Option.toList_some, Option.toList_none, List.cons_append, List.nil_append, n_lit, n_m1, n_m2, n_m1lt, n_m1le, n_rem, n_div, n_out, n_cl, n_eq, n_le, n_lt, n_add, n_mul, n_sub, n_nle, n_yle, n_nlt, n_ylt, n_neN, z_lay, z_sz, z_str, z_stI, z_stL, z_stR, eq_self, ↓reduceIte, true_and, and_true, and_self, false_and, and_false, or_self, false_or, or_false, true_or, or_true, not_true_eq_false, not_false_eq_true, Nat.reduceLeDiff, Nat.reduceLT, Nat.reduceAdd, Nat.reduceEqDiff, Nat.reduceMul, Nat.reduceSub, Value.category, Nat.zero_le, beq_self_eq_true]
      · exact (t3.copy a2).kept (by rw [z1 33 (by omega), zup_off (by omega)]) (by rw [z1 34 (by omega), zup_off (by omega)]) (by rw [z1 35 (by omega), zup_off (by omega)])
      · refine t4.of t3.len.1 t3.len.2 fun k hk => ?_
        rw [b3 k hk, yJ]
      · obtain ⟨u, nw, u1, u2, u3, u4, u5, u6⟩ := hF.2.2
        refine ⟨0, nw, by omega, u2, by rw [z1 45 (by omega)]; exact zup_at, ?_, b2, fun p hp => by omega⟩
        rw [z1 45 (by omega), zup_ne (by omega), a3 _ (by omega) (by omega) (by omega)]
        exact u4
