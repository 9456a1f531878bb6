/-! read: the reference's answer -/
theorem rdQ_end {T : Nat → Nat} {n : Nat} (h : (rdQ T n).1 = 0) : kK T n (rdQ T n).2 = 22 ∧ lxS T n (rdQ T n).2 = n := by
  have e := tells2_end (K := kK T n) 400 0 0 0 (by decide) (by decide)
  rw [← rdQ_def] at e
  have k := e h
  have lt := (rdQ_lt (T := T) (n := n)).2.2
  refine ⟨k, ?_⟩
  rw [kK_yes lt] at k
  have := lxK_22.mp k
  have := (lxS_le T n (rdQ T n).2).2
  omega
theorem pRf_M {M sd k : Nat} (h : k = 2 ∨ k = 4 ∨ k = 10 ∨ k = 17 ∨ k = 19) : pRf M sd M k := Or.inr (Or.inl ⟨rfl, h⟩)
theorem r_read {I : Nat → Nat → Int32} {L : Nat → Nat → Int64} {Z : zZ} {M n lv : Nat} {T : Nat → Nat} (h : isMod Z M) (hM : 200 ≤ M) (hK : wKey L (M - 200)) (hn : n ≤ 2000) (h2 : I M 2 = nI n) (hT : ∀ i, i < n → I (M + 1) i &&& nI 255 = nI (T i) ∧ T i < 256) (hlv : lv < 2) (h18 : I M 18 = nI lv) : ∃ J L', fX12_read [.ref M] (I, L, Z) = some (some (.int (nI (rdc T n))), (J, L', Z)) ∧ J M 17 = rdp T n ∧ J M 2 = nI 0 ∧ (∀ a, a ≠ M + 6 → a ≠ M + 8 → L' a = L a) ∧ (rdc T n ≠ 0 → frm (pRf M (1 - lv)) I J) ∧ (rdc T n = 0 → frm (pRg M (1 - lv)) I J ∧ rdR J L' M (1 - lv) T n (rdM T n).2.2) := by
  obtain ⟨J, L', a1, a2, a3, a4, a5, a6, a7, a8⟩ := r_read0 (L := L) h hM hK hn h2 hT hlv h18
  have hS := tkS_of (T := T) hn
  obtain ⟨q1, q2, q3⟩ := rdQ_lt (T := T) (n := n)
  by_cases g : (rdQ T n).1 = 0
  · obtain ⟨k22, kS⟩ := rdQ_end g
    obtain ⟨nch, nrow, b, c, hI, h2r⟩ := a3 g
    obtain ⟨hO, ⟨b1, b2, b3, b4, b5, b6, b7, b8, ⟨gg, b9, b9'⟩, b10, b11, b12, b13, b14, b15⟩, hw, hlt, hr⟩ := hI
    have o13 := hO.1
    have o11 := hO.2
    unfold wrS at hw
    dsimp only at hw hlt hr
    by_cases g2 : (rdM T n).1 = 0
    · have hA := (rdM_ok g g2).1
      have hl := (rdM_ok g g2).2.2
      obtain ⟨m1, m2, m3, m4, m5, m6, m7, m8, m9⟩ := id hA
      have r := hr g2
      have r0 := r.1
      have r1 := r.2.1
      have w15 : J M 15 = nI 0 := by rw [hw.1]; exact congrArg nI g2
      by_cases g3 : (rdM T n).2.2 0 ≤ (rdM T n).2.2 1
      · obtain ⟨u1, u2⟩ := rdc_6 g g2 g3
        have hw0 : wrS J M (lxS T n) (0, 0) := ⟨w15, by show 0 < 8; decide, fun z => absurd rfl z⟩
        obtain ⟨J1, k1, k2, k3, k4⟩ := r_wrong (L := L') (k := 6) (t := (rdQ T n).2) h hS a4 hO q3 hw0 (by decide) (by decide) (fun z => absurd rfl z)
        have k3 : wrS J1 M (lxS T n) (6, (rdQ T n).2) := k3
        have v15 := k3.1
        have v16 := k3.2.2 (by show 6 ≠ 0; decide)
        dsimp only at v16
        rw [kS] at v16
        have v13 := k2.1
        have f2 : frm (pRf M (1 - lv)) I (z_up J1 M 17 (nI n)) := (a7.trans (k4.weak fun a k z => by rw [z.1]; exact Or.inl (pT_M (by omega)))).up (pRf_M (by omega))
        have x13 : z_up J1 M 17 (nI n) M 13 = nI 0 := by rw [zup_ne (by omega)]; exact v13
        have x15 : z_up J1 M 17 (nI n) M 15 = nI 6 := by rw [zup_ne (by omega)]; exact v15
        refine ⟨z_up J1 M 17 (nI n), L', ?_, by rw [zup_at, u2], by rw [zup_ne (by omega), k4 _ _ (by omega)]; exact a5, a8, fun _ => f2, fun z => absurd z (by rw [u1]; decide)⟩
        rw [a1, u1]
        have v15 : J1 M 15 = nI 6 := v15
        simp (disch := omega) only [kX12_read_134, kX12_read_172, kX12_read_202, h.1, mr_greatest h, ml_greatest h, mr_colours h, ml_colours h, o13, o11, b1, r0, r1, k1, v13, v15, v16, x13, x15, e_push, e_pushl, e_iload, e_lload, e_aload, e_istore, e_astore, e_lstore, e_iinc, e_iadd, e_isub, e_imul, e_iand, e_ior, e_ixor, e_ishl, e_ishr, e_iushr, e_idiv, e_irem, e_ladd, e_lsub, e_lmul, e_lcmp, e_mmax, e_mmin, e_i2l, e_l2i, e_i2b, e_i2c, e_dup, e_dup2, e_pop, e_icmp_eq, e_icmp_ne, e_icmp_lt, e_icmp_ge, e_icmp_gt, e_icmp_le, e_if_eq, e_if_ne, e_if_lt, e_if_ge, e_if_gt, e_if_le, e_getI, e_getR, e_putI, e_putZ, e_putR, e_iald, e_bald, e_zald, e_lald, e_aald, e_alen, e_iast, e_bast, e_zast, e_last, e_aast, e_iret, e_zret, e_lret, e_vret, e_obj, e_callV, e_callS, e_callT, e_acpy, e_ldcS, e_dn, e_ag, z_pop, List.getElem?_cons_zero, List.getElem?_cons_succ, List.set_cons_zero, List.set_cons_succ, List.length_cons, List.length_nil, z_nol, Option.map_some, Option.toList_some, Option.toList_none, List.cons_append, List.nil_append, n_lit, n_m1, n_m2, n_m1lt, n_m1le, n_rem, n_div, n_out, n_cl, n_eq, n_le, n_lt, n_add, n_mul, n_sub, n_nle, n_yle, n_nlt, n_ylt, n_neN, z_lay, z_sz, z_str, z_stI, z_stL, z_stR, eq_self, ↓reduceIte, true_and, and_true, and_self, false_and, and_false, or_self, false_or, or_false, true_or, or_true, not_true_eq_false, not_false_eq_true, Nat.reduceLeDiff, Nat.reduceLT, Nat.reduceAdd, Nat.reduceEqDiff, Nat.reduceMul, Nat.reduceSub, Value.category, Nat.zero_le, beq_self_eq_true]
      · obtain ⟨u1, u2⟩ := rdc_0 g g2 g3
        have A2 := h2r g2
        rw [← A2] at b6
        have f1 : frm (pRg M (1 - lv)) I (z_up (z_up J M 17 nM1) M 18 (nI (1 - lv))) := ((a7.weak fun a k => Or.inl).up (Or.inl (pRf_M (by omega)))).up (Or.inr (Or.inl ⟨rfl, by omega⟩))
        have x13 : z_up J M 17 nM1 M 13 = nI 0 := by rw [zup_ne (by omega)]; exact o13
        have x15 : z_up J M 17 nM1 M 15 = nI 0 := by rw [zup_ne (by omega)]; exact w15
        have x19 : z_up J M 17 nM1 M 19 = nI (1 - lv) := by rw [zup_ne (by omega)]; exact b1
        have x18 : z_up (z_up J M 17 nM1) M 18 (nI (1 - lv)) M 18 = nI (1 - lv) := zup_at
        have off : ∀ a, a ≠ M → z_up (z_up J M 17 nM1) M 18 (nI (1 - lv)) a = J a := fun a ha => by rw [zup_off ha, zup_off ha]
        have x17 : z_up (z_up J M 17 nM1) M 18 (nI (1 - lv)) M 17 = nM1 := by rw [zup_ne (by omega), zup_at]
        have x2 : z_up (z_up J M 17 nM1) M 18 (nI (1 - lv)) M 2 = nI 0 := by rw [zup_ne (by omega), zup_ne (by omega)]; exact a5
        have st0 : ∀ (J5 : Nat → Nat → Int32), (∃ J3 J4 : Nat → Nat → Int32, fX12_begins [.ref M] (z_up (z_up J M 17 nM1) M 18 (nI (1 - lv)), L', Z) = some (none, (J3, L', Z)) ∧ fX12_keepsRow [.ref M] (J3, L', Z) = some (none, (J4, L', Z)) ∧ q_lp bX12_read_257 [some (Value.ref (M)), some (Value.int (nI (0)))] [] (z_up (z_up J4 M 52 (nI 0)) M 66 (nI 0), L', Z) = some (some (.int (nI 0)), (J5, L', Z))) → fX12_read [.ref M] (I, L, Z) = some (some (.int (nI 0)), (J5, L', Z)) := by
          rintro J5 ⟨J3, J4, e1, e2, e3⟩
          rw [a1]
          simp (disch := omega) only [kX12_read_134, kX12_read_172, kX12_read_202, kX12_read_257, h.1, mr_greatest h, ml_greatest h, mr_colours h, ml_colours h, o13, b1, r0, r1, w15, x13, x15, x19, e1, e2, e3, e_push, e_pushl, e_iload, e_lload, e_aload, e_istore, e_astore, e_lstore, e_iinc, e_iadd, e_isub, e_imul, e_iand, e_ior, e_ixor, e_ishl, e_ishr, e_iushr, e_idiv, e_irem, e_ladd, e_lsub, e_lmul, e_lcmp, e_mmax, e_mmin, e_i2l, e_l2i, e_i2b, e_i2c, e_dup, e_dup2, e_pop, e_icmp_eq, e_icmp_ne, e_icmp_lt, e_icmp_ge, e_icmp_gt, e_icmp_le, e_if_eq, e_if_ne, e_if_lt, e_if_ge, e_if_gt, e_if_le, e_getI, e_getR, e_putI, e_putZ, e_putR, e_iald, e_bald, e_zald, e_lald, e_aald, e_alen, e_iast, e_bast, e_zast, e_last, e_aast, e_iret, e_zret, e_lret, e_vret, e_obj, e_callV, e_callS, e_callT, e_acpy, e_ldcS, e_dn, e_ag, z_pop, List.getElem?_cons_zero, List.getElem?_cons_succ, List.set_cons_zero, List.set_cons_succ, List.length_cons, List.length_nil, z_nol, Option.map_some, Option.toList_some, Option.toList_none, List.cons_append, List.nil_append, n_lit, n_m1, n_m2, n_m1lt, n_m1le, n_rem, n_div, n_out, n_cl, n_eq, n_le, n_lt, n_add, n_mul, n_sub, n_nle, n_yle, n_nlt, n_ylt, n_neN, z_lay, z_sz, z_str, z_stI, z_stL, z_stR, eq_self, ↓reduceIte, true_and, and_true, and_self, false_and, and_false, or_self, false_or, or_false, true_or, or_true, not_true_eq_false, not_false_eq_true, Nat.reduceLeDiff, Nat.reduceLT, Nat.reduceAdd, Nat.reduceEqDiff, Nat.reduceMul, Nat.reduceSub, Value.category, Nat.zero_le, beq_self_eq_true]
        have rA : rrA (z_up (z_up J M 17 nM1) M 18 (nI (1 - lv))) L' M (1 - lv) (kK T n) (kW T n) b c (rdM T n).2.2 := r.kept (fr_M (fr_M (frm.refl _ _))) (fun a k z => Or.inl z)
        have x13a : z_up (z_up J M 17 nM1) M 18 (nI (1 - lv)) (M + 13) (1 - lv) = nI ((rdM T n).2.2 2) := by rw [off _ (by omega)]; exact b6
        generalize z_up (z_up J M 17 nM1) M 18 (nI (1 - lv)) = J2 at f1 x18 x17 x2 st0 rA x13a
        have r4 := rA.2.2.2.2.1
        have r5 := rA.2.2.2.2.2.1
        generalize hAA : (rdM T n).2.2 = A at m1 m2 m3 m4 m5 m6 m7 m8 m9 hl rA x13a r4 r5 hA ⊢
        obtain ⟨J3, c1, c2, c3⟩ := r_begins (I := J2) (L := L') (lv := 1 - lv) (rows := A 2) (sd := A 3) (len := fun r => A (30 + r)) (col := fun r i => A (50 + (r * 8 + i))) h b2 x18 x13a m4 (fun r hr' => ⟨r4 r hr', m7 r (by omega)⟩) (fun r i hr' hi' => by
          have e := r5 r i hr' hi'
          rw [show 8 * (4 * (1 - lv) + r) + i = 32 * (1 - lv) + 8 * r + i by omega] at e
          exact e) rA.2.2.1
        obtain ⟨J4, d1, d2, d3⟩ := r_keepsRow (I := J3) (L := L') h
        have l3 : q_lp bX12_read_257 [some (Value.ref (M)), some (Value.int (nI (0)))] [] (z_up (z_up J4 M 52 (nI 0)) M 66 (nI 0), L', Z) = some (some (.int (nI 0)), (cstA (z_up (z_up J4 M 52 (nI 0)) M 66 (nI 0)) (M + 48) 0 (nI 0) 3, L', Z)) := by
          refine lp_cst (fun k => [some (Value.ref (M)), some (Value.int (nI (k)))]) (M + 48) 0 (nI 0) 3 (fun σ => some (some (Value.int (nI 0)), σ)) _ (fun J' => ?_) (fun k hk J' => ?_)
          · simp (disch := omega) only [bX12_read_257, kX12_read_275, Option.map_some, e_push, e_pushl, e_iload, e_lload, e_aload, e_istore, e_astore, e_lstore, e_iinc, e_iadd, e_isub, e_imul, e_iand, e_ior, e_ixor, e_ishl, e_ishr, e_iushr, e_idiv, e_irem, e_ladd, e_lsub, e_lmul, e_lcmp, e_mmax, e_mmin, e_i2l, e_l2i, e_i2b, e_i2c, e_dup, e_dup2, e_pop, e_icmp_eq, e_icmp_ne, e_icmp_lt, e_icmp_ge, e_icmp_gt, e_icmp_le, e_if_eq, e_if_ne, e_if_lt, e_if_ge, e_if_gt, e_if_le, e_getI, e_getR, e_putI, e_putZ, e_putR, e_iald, e_bald, e_zald, e_lald, e_aald, e_alen, e_iast, e_bast, e_zast, e_last, e_aast, e_iret, e_zret, e_lret, e_vret, e_obj, e_callV, e_callS, e_callT, e_acpy, e_ldcS, e_dn, e_ag, z_pop, List.getElem?_cons_zero, List.getElem?_cons_succ, List.set_cons_zero, List.set_cons_succ, List.length_cons, List.length_nil, z_nol, Option.map_some, Option.toList_some, Option.toList_none, List.cons_append, List.nil_append, n_lit, n_m1, n_m2, n_m1lt, n_m1le, n_rem, n_div, n_out, n_cl, n_eq, n_le, n_lt, n_add, n_mul, n_sub, n_nle, n_yle, n_nlt, n_ylt, n_neN, z_lay, z_sz, z_str, z_stI, z_stL, z_stR, eq_self, ↓reduceIte, true_and, and_true, and_self, false_and, and_false, or_self, false_or, or_false, true_or, or_true, not_true_eq_false, not_false_eq_true, Nat.reduceLeDiff, Nat.reduceLT, Nat.reduceAdd, Nat.reduceEqDiff, Nat.reduceMul, Nat.reduceSub, Value.category, Nat.zero_le, beq_self_eq_true]
          · simp (disch := omega) only [bX12_read_257, h.1, mr_isHeld h, ml_isHeld h, Nat.zero_add, e_push, e_pushl, e_iload, e_lload, e_aload, e_istore, e_astore, e_lstore, e_iinc, e_iadd, e_isub, e_imul, e_iand, e_ior, e_ixor, e_ishl, e_ishr, e_iushr, e_idiv, e_irem, e_ladd, e_lsub, e_lmul, e_lcmp, e_mmax, e_mmin, e_i2l, e_l2i, e_i2b, e_i2c, e_dup, e_dup2, e_pop, e_icmp_eq, e_icmp_ne, e_icmp_lt, e_icmp_ge, e_icmp_gt, e_icmp_le, e_if_eq, e_if_ne, e_if_lt, e_if_ge, e_if_gt, e_if_le, e_getI, e_getR, e_putI, e_putZ, e_putR, e_iald, e_bald, e_zald, e_lald, e_aald, e_alen, e_iast, e_bast, e_zast, e_last, e_aast, e_iret, e_zret, e_lret, e_vret, e_obj, e_callV, e_callS, e_callT, e_acpy, e_ldcS, e_dn, e_ag, z_pop, List.getElem?_cons_zero, List.getElem?_cons_succ, List.set_cons_zero, List.set_cons_succ, List.length_cons, List.length_nil, z_nol, Option.map_some, Option.toList_some, Option.toList_none, List.cons_append, List.nil_append, n_lit, n_m1, n_m2, n_m1lt, n_m1le, n_rem, n_div, n_out, n_cl, n_eq, n_le, n_lt, n_add, n_mul, n_sub, n_nle, n_yle, n_nlt, n_ylt, n_neN, z_lay, z_sz, z_str, z_stI, z_stL, z_stR, eq_self, ↓reduceIte, true_and, and_true, and_self, false_and, and_false, or_self, false_or, or_false, true_or, or_true, not_true_eq_false, not_false_eq_true, Nat.reduceLeDiff, Nat.reduceLT, Nat.reduceAdd, Nat.reduceEqDiff, Nat.reduceMul, Nat.reduceSub, Value.category, Nat.zero_le, beq_self_eq_true]
        have run := st0 _ ⟨J3, J4, c1, d1, l3⟩
        have eM : ∀ a, a ≠ M → a ≠ M + 48 → cstA (z_up (z_up J4 M 52 (nI 0)) M 66 (nI 0)) (M + 48) 0 (nI 0) 3 a = J4 a := fun a h1 h2 => by rw [cst_off h2, zup_off h1, zup_off h1]
        have eF : ∀ k, k ≠ 52 → k ≠ 66 → cstA (z_up (z_up J4 M 52 (nI 0)) M 66 (nI 0)) (M + 48) 0 (nI 0) 3 M k = J4 M k := fun k h1 h2 => by rw [cst_off (by omega), zup_ne h2, zup_ne h1]
        have e52 : cstA (z_up (z_up J4 M 52 (nI 0)) M 66 (nI 0)) (M + 48) 0 (nI 0) 3 M 52 = nI 0 := by rw [cst_off (by omega), zup_ne (by omega), zup_at]
        have e66 : cstA (z_up (z_up J4 M 52 (nI 0)) M 66 (nI 0)) (M + 48) 0 (nI 0) 3 M 66 = nI 0 := by rw [cst_off (by omega), zup_at]
        have e48 : ∀ s, s < 3 → cstA (z_up (z_up J4 M 52 (nI 0)) M 66 (nI 0)) (M + 48) 0 (nI 0) 3 (M + 48) s = nI 0 := fun s hs => cst_at (by omega) (by omega)
        generalize cstA (z_up (z_up J4 M 52 (nI 0)) M 66 (nI 0)) (M + 48) 0 (nI 0) 3 = J5 at run eM eF e52 e66 e48
        have f25 : frm (fun a k => (a = M ∧ (k = 48 ∨ k = 52 ∨ k = 66)) ∨ a = M + 29 ∨ a = M + 30 ∨ a = M + 48) J2 J5 := fun a k hn' => by
          by_cases z : a = M
          · subst z
            rw [eF _ (by omega) (by omega), d3 _ (by omega), c3 _ _ (by omega)]
          · rw [eM a z (by omega), d3 _ (by omega), c3 _ _ (by omega)]
        refine ⟨J5, L', by rw [run, u1], ?_, ?_, a8, fun z => absurd u1 z, fun _ => ⟨f1.trans (f25.weak fun a k z => ?_), ?_, e52, e66, e48, ?_, ?_, b, c, ?_, ?_, ?_⟩⟩
        · rw [f25 _ _ (by omega), x17, u2]
        · rw [f25 _ _ (by omega), x2]
        · rcases z with ⟨z1, z2⟩ | z
          · exact Or.inr (Or.inl ⟨z1, by omega⟩)
          · exact Or.inr (Or.inr z)
        · rw [f25 _ _ (by omega), x18]
        · rw [f25 _ _ (by omega), x13a]
        · rw [eM _ (by omega) (by omega)]
          obtain ⟨w1, w2, w3, w4, w5⟩ := c2
          refine ⟨fun r hr' => ?_, fun r h1 h2' => ?_, fun r hr' i hi' => ?_, ?_, ?_⟩
          · rw [d2 _ (by omega)]; exact w1 r hr'
          · rw [d2 _ (by omega)]; exact w2 r h1 h2'
          · have hi'' : i < A (30 + r) := hi'
            have := m7 r (by omega)
            rw [d2 _ (by omega)]; exact w3 r hr' i hi'
          · rw [d2 _ (by omega)]; exact w4
          · rw [d2 _ (by omega)]; exact w5
        · omega
        · omega
        · refine (?_ : rrA J5 L' M (1 - lv) (kK T n) (kW T n) b c A)
          obtain ⟨s0, s1', s2, s3, s4, s5, s6, s7⟩ := rA
          have ek : ∀ a k, M + 9 ≤ a → a ≤ M + 25 → J5 a k = J2 a k := fun a k h1 h2' => f25 _ _ (by omega)
          refine ⟨by rw [ek _ _ (by omega) (by omega)]; exact s0, by rw [ek _ _ (by omega) (by omega)]; exact s1', by rw [ek _ _ (by omega) (by omega)]; exact s2, fun k hk => ?_, fun r hr' => ?_, fun r i hr' hi' => ?_, s6, fun k hk => ?_⟩
          · rw [ek _ _ (by omega) (by omega)]; exact s3 k hk
          · rw [ek _ _ (by omega) (by omega)]; exact s4 r hr'
          · rw [ek _ _ (by omega) (by omega)]; exact s5 r i hr' hi'
          · exact (s7 k hk).kept f25 (by omega) (by omega) (fun x _ => by omega) (fun a x _ _ _ => by omega) (Nat.le_refl _) (Nat.le_refl _)
    · obtain ⟨u1, u2⟩ := rdc_M g g2
      obtain ⟨v1, v2⟩ := rdM_bad g g2
      have w15 := hw.1
      have w16 : J M 16 = nI (lxS T n (rdM T n).2.1) := hw.2.2 g2
      have pos : 0 < (rdM T n).1 := by omega
      obtain ⟨J1, k1, k2, k3, k4⟩ := r_wrong (L := L') (k := 6) (t := (rdQ T n).2) (w := ((rdM T n).1, (rdM T n).2.1)) h hS a4 hO q3 (by unfold wrS; dsimp only; exact hw) (by decide) (by decide) (by dsimp only; exact fun z => Or.inl (hlt z))
      have kw : wAdd ((rdM T n).1, (rdM T n).2.1) 6 (rdQ T n).2 = ((rdM T n).1, (rdM T n).2.1) := by unfold wAdd; dsimp only; rw [if_neg g2]
      rw [kw] at k3
      unfold wrS at k3
      dsimp only at k3
      have fin : ∀ J2 : Nat → Nat → Int32, J2 M 13 = nI 0 → J2 M 15 = nI (rdM T n).1 → J2 M 16 = nI (lxS T n (rdM T n).2.1) → J2 M 2 = nI 0 → frm (pRf M (1 - lv)) I J2 → kX12_read_134 [some (Value.ref (M)), some (Value.int (nI (n)))] [] (J, L', Z) = kX12_read_172 [some (Value.ref (M)), some (Value.int (nI (n)))] [] (J2, L', Z) → ∃ J L', fX12_read [.ref M] (I, L, Z) = some (some (.int (nI (rdc T n))), (J, L', Z)) ∧ J M 17 = rdp T n ∧ J M 2 = nI 0 ∧ (∀ a, a ≠ M + 6 → a ≠ M + 8 → L' a = L a) ∧ (rdc T n ≠ 0 → frm (pRf M (1 - lv)) I J) ∧ (rdc T n = 0 → frm (pRg M (1 - lv)) I J ∧ rdR J L' M (1 - lv) T n (rdM T n).2.2) := by
        intro J2 e13 e15 e16 e2 ef e
        have x13 : z_up J2 M 17 (nI (lxS T n (rdM T n).2.1)) M 13 = nI 0 := by rw [zup_ne (by omega)]; exact e13
        have x15 : z_up J2 M 17 (nI (lxS T n (rdM T n).2.1)) M 15 = nI (rdM T n).1 := by rw [zup_ne (by omega)]; exact e15
        refine ⟨z_up J2 M 17 (nI (lxS T n (rdM T n).2.1)), L', ?_, by rw [zup_at, u2], by rw [zup_ne (by omega)]; exact e2, a8, fun _ => ef.up (pRf_M (by omega)), fun z => absurd z (by rw [u1]; exact g2)⟩
        rw [a1, e, u1]
        generalize (rdM T n).1 = f at e15 x15 pos v1
        generalize lxS T n (rdM T n).2.1 = pl at e16 x13 x15
        simp (disch := omega) only [kX12_read_172, kX12_read_202, h.1, e13, e15, e16, x13, x15, e_push, e_pushl, e_iload, e_lload, e_aload, e_istore, e_astore, e_lstore, e_iinc, e_iadd, e_isub, e_imul, e_iand, e_ior, e_ixor, e_ishl, e_ishr, e_iushr, e_idiv, e_irem, e_ladd, e_lsub, e_lmul, e_lcmp, e_mmax, e_mmin, e_i2l, e_l2i, e_i2b, e_i2c, e_dup, e_dup2, e_pop, e_icmp_eq, e_icmp_ne, e_icmp_lt, e_icmp_ge, e_icmp_gt, e_icmp_le, e_if_eq, e_if_ne, e_if_lt, e_if_ge, e_if_gt, e_if_le, e_getI, e_getR, e_putI, e_putZ, e_putR, e_iald, e_bald, e_zald, e_lald, e_aald, e_alen, e_iast, e_bast, e_zast, e_last, e_aast, e_iret, e_zret, e_lret, e_vret, e_obj, e_callV, e_callS, e_callT, e_acpy, e_ldcS, e_dn, e_ag, z_pop, List.getElem?_cons_zero, List.getElem?_cons_succ, List.set_cons_zero, List.set_cons_succ, List.length_cons, List.length_nil, z_nol, Option.map_some, Option.toList_some, Option.toList_none, List.cons_append, List.nil_append, n_lit, n_m1, n_m2, n_m1lt, n_m1le, n_rem, n_div, n_out, n_cl, n_eq, n_le, n_lt, n_add, n_mul, n_sub, n_nle, n_yle, n_nlt, n_ylt, n_neN, z_lay, z_sz, z_str, z_stI, z_stL, z_stR, eq_self, ↓reduceIte, true_and, and_true, and_self, false_and, and_false, or_self, false_or, or_false, true_or, or_true, not_true_eq_false, not_false_eq_true, Nat.reduceLeDiff, Nat.reduceLT, Nat.reduceAdd, Nat.reduceEqDiff, Nat.reduceMul, Nat.reduceSub, Value.category, Nat.zero_le, beq_self_eq_true]
      by_cases gc : nI gg < J (M + 9) (1 - lv)
      · exact fin J o13 w15 w16 a5 a7 (by simp (disch := omega) only [kX12_read_134, h.1, mr_greatest h, ml_greatest h, mr_colours h, ml_colours h, o13, b1, b9', gc, e_push, e_pushl, e_iload, e_lload, e_aload, e_istore, e_astore, e_lstore, e_iinc, e_iadd, e_isub, e_imul, e_iand, e_ior, e_ixor, e_ishl, e_ishr, e_iushr, e_idiv, e_irem, e_ladd, e_lsub, e_lmul, e_lcmp, e_mmax, e_mmin, e_i2l, e_l2i, e_i2b, e_i2c, e_dup, e_dup2, e_pop, e_icmp_eq, e_icmp_ne, e_icmp_lt, e_icmp_ge, e_icmp_gt, e_icmp_le, e_if_eq, e_if_ne, e_if_lt, e_if_ge, e_if_gt, e_if_le, e_getI, e_getR, e_putI, e_putZ, e_putR, e_iald, e_bald, e_zald, e_lald, e_aald, e_alen, e_iast, e_bast, e_zast, e_last, e_aast, e_iret, e_zret, e_lret, e_vret, e_obj, e_callV, e_callS, e_callT, e_acpy, e_ldcS, e_dn, e_ag, z_pop, List.getElem?_cons_zero, List.getElem?_cons_succ, List.set_cons_zero, List.set_cons_succ, List.length_cons, List.length_nil, z_nol, Option.map_some, Option.toList_some, Option.toList_none, List.cons_append, List.nil_append, n_lit, n_m1, n_m2, n_m1lt, n_m1le, n_rem, n_div, n_out, n_cl, n_eq, n_le, n_lt, n_add, n_mul, n_sub, n_nle, n_yle, n_nlt, n_ylt, n_neN, z_lay, z_sz, z_str, z_stI, z_stL, z_stR, eq_self, ↓reduceIte, true_and, and_true, and_self, false_and, and_false, or_self, false_or, or_false, true_or, or_true, not_true_eq_false, not_false_eq_true, Nat.reduceLeDiff, Nat.reduceLT, Nat.reduceAdd, Nat.reduceEqDiff, Nat.reduceMul, Nat.reduceSub, Value.category, Nat.zero_le, beq_self_eq_true])
      · exact fin J1 k2.1 k3.1 (k3.2.2 g2) (by rw [k4 _ _ (by omega)]; exact a5) (a7.trans (k4.weak fun a k z => by rw [z.1]; exact Or.inl (pT_M (by omega)))) (by simp (disch := omega) only [kX12_read_134, h.1, mr_greatest h, ml_greatest h, mr_colours h, ml_colours h, o13, o11, b1, b9', gc, k1, e_push, e_pushl, e_iload, e_lload, e_aload, e_istore, e_astore, e_lstore, e_iinc, e_iadd, e_isub, e_imul, e_iand, e_ior, e_ixor, e_ishl, e_ishr, e_iushr, e_idiv, e_irem, e_ladd, e_lsub, e_lmul, e_lcmp, e_mmax, e_mmin, e_i2l, e_l2i, e_i2b, e_i2c, e_dup, e_dup2, e_pop, e_icmp_eq, e_icmp_ne, e_icmp_lt, e_icmp_ge, e_icmp_gt, e_icmp_le, e_if_eq, e_if_ne, e_if_lt, e_if_ge, e_if_gt, e_if_le, e_getI, e_getR, e_putI, e_putZ, e_putR, e_iald, e_bald, e_zald, e_lald, e_aald, e_alen, e_iast, e_bast, e_zast, e_last, e_aast, e_iret, e_zret, e_lret, e_vret, e_obj, e_callV, e_callS, e_callT, e_acpy, e_ldcS, e_dn, e_ag, z_pop, List.getElem?_cons_zero, List.getElem?_cons_succ, List.set_cons_zero, List.set_cons_succ, List.length_cons, List.length_nil, z_nol, Option.map_some, Option.toList_some, Option.toList_none, List.cons_append, List.nil_append, n_lit, n_m1, n_m2, n_m1lt, n_m1le, n_rem, n_div, n_out, n_cl, n_eq, n_le, n_lt, n_add, n_mul, n_sub, n_nle, n_yle, n_nlt, n_ylt, n_neN, z_lay, z_sz, z_str, z_stI, z_stL, z_stR, eq_self, ↓reduceIte, true_and, and_true, and_self, false_and, and_false, or_self, false_or, or_false, true_or, or_true, not_true_eq_false, not_false_eq_true, Nat.reduceLeDiff, Nat.reduceLT, Nat.reduceAdd, Nat.reduceEqDiff, Nat.reduceMul, Nat.reduceSub, Value.category, Nat.zero_le, beq_self_eq_true])
  · obtain ⟨u1, u2⟩ := rdc_Q g
    obtain ⟨f1, f2, f3, f4, t, f5, f6⟩ := a2.2 g
    have x13 : z_up J M 17 (nI (lxS T n (rdQ T n).2)) M 13 = nI (rdQ T n).1 := by rw [zup_ne (by omega)]; exact f1
    refine ⟨z_up J M 17 (nI (lxS T n (rdQ T n).2)), L', ?_, by rw [zup_at, u2], by rw [zup_ne (by omega)]; exact a5, a8, fun _ => a7.up (pRf_M (by omega)), fun z => absurd z (by rw [u1]; exact g)⟩
    rw [a1, u1]
    have pos : 0 < (rdQ T n).1 := by omega
    generalize (rdQ T n).1 = f at f1 x13 pos q1 f2 f3
    generalize lxS T n (rdQ T n).2 = pl at f4 x13
    simp (disch := omega) only [kX12_read_134, kX12_read_172, kX12_read_202, h.1, f1, f2, f4, x13, e_push, e_pushl, e_iload, e_lload, e_aload, e_istore, e_astore, e_lstore, e_iinc, e_iadd, e_isub, e_imul, e_iand, e_ior, e_ixor, e_ishl, e_ishr, e_iushr, e_idiv, e_irem, e_ladd, e_lsub, e_lmul, e_lcmp, e_mmax, e_mmin, e_i2l, e_l2i, e_i2b, e_i2c, e_dup, e_dup2, e_pop, e_icmp_eq, e_icmp_ne, e_icmp_lt, e_icmp_ge, e_icmp_gt, e_icmp_le, e_if_eq, e_if_ne, e_if_lt, e_if_ge, e_if_gt, e_if_le, e_getI, e_getR, e_putI, e_putZ, e_putR, e_iald, e_bald, e_zald, e_lald, e_aald, e_alen, e_iast, e_bast, e_zast, e_last, e_aast, e_iret, e_zret, e_lret, e_vret, e_obj, e_callV, e_callS, e_callT, e_acpy, e_ldcS, e_dn, e_ag, z_pop, List.getElem?_cons_zero, List.getElem?_cons_succ, List.set_cons_zero, List.set_cons_succ, List.length_cons, List.length_nil, z_nol, Option.map_some, Option.toList_some, Option.toList_none, List.cons_append, List.nil_append, n_lit, n_m1, n_m2, n_m1lt, n_m1le, n_rem, n_div, n_out, n_cl, n_eq, n_le, n_lt, n_add, n_mul, n_sub, n_nle, n_yle, n_nlt, n_ylt, n_neN, z_lay, z_sz, z_str, z_stI, z_stL, z_stR, eq_self, ↓reduceIte, true_and, and_true, and_self, false_and, and_false, or_self, false_or, or_false, true_or, or_true, not_true_eq_false, not_false_eq_true, Nat.reduceLeDiff, Nat.reduceLT, Nat.reduceAdd, Nat.reduceEqDiff, Nat.reduceMul, Nat.reduceSub, Value.category, Nat.zero_le, beq_self_eq_true]
