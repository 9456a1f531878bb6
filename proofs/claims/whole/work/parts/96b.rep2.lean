def repS (I : Nat → Nat → Int32) (B : Nat) (Q : Nat → Prop) (cost : Nat → Nat) (t : Nat) : Prop := I (B + 186) 5 = bPI cost (bestV Q cost t) ∧ I (B + 186) 6 = oI (bestV Q cost t)
theorem p_repGo {I : Nat → Nat → Int32} {L : Nat → Nat → Int64} {Z : zZ} {B tx nc n mo fm wd : Nat} {ch : Nat → Nat → Nat} {cst : Nat → Nat → Nat} {Q : Nat → Prop} {cost : Nat → Nat} (h : isCls Z B tx) (h2 : 2 ≤ nc) (h4 : nc ≤ 4) (hch : ∀ a b, a < nc → b < nc → ch a b < nc) (hn : n ≤ 8) (h1 : 1 ≤ n) (hfm : fm < 2) (hwd : wd < 4) (hmb : mo ≤ 100) (hmv : fm = 1 → mo = (n * (n + 1) / 2 + nc - 1) / nc) (hcs : ∀ i x, i < n → x < nc → cst i x ≤ 99) (hcost : ∀ v, cost v = smN (fun i => cst i (dig nc n v i)) n) (hQ1 : fm = 1 → ∀ v, Q v ↔ fairN ch (dig nc n v) n nc = 1) (hQ0 : fm = 0 → ∀ v, Q v ↔ lastV ch nc n v = wd) : ∀ m s v d (c : Nat → Nat) (J : Nat → Nat → Int32), s + m = n → m < d → (∀ i, i < s → c i < nc) → v = num nc c s → J (B + (tx + 5)) 0 = nI nc → tabI J (B + (tx + 6)) ch → J (B + 186) 2 = nI n → J (B + 186) 3 = (if fm = 1 then nM1 else nI wd) → (J (B + 186) 4 = nI mo ∨ fm = 0) → (∀ i x, i < n → x < nc → J (B + 190) (i * 4 + x) = nI (cst i x)) → cellsI J (B + 188) s ch c → (s = n → J (B + 187) 0 = nI n) → (fm = 1 → taI J (B + 189) s ch c) → repS J B Q cost (v * nc ^ m) →
    ∃ K, fX4_goThrough d [.ref (B + 186), .ref (B + (tx + 5)), .int (nI s), .int (nI (smN (fun i => cst i (c i)) s)), .int (nI v)] (J, L, Z) = some (none, (K, L, Z)) ∧ cellsI K (B + 188) s ch c ∧ (fm = 1 → taI K (B + 189) s ch c) ∧ (fm = 0 → K (B + 189) = J (B + 189)) ∧ repS K B Q cost ((v + 1) * nc ^ m) ∧ repF J K B := by
  have htx := h.1
  have hcb : ∀ v, cost v ≤ 8 * 99 := fun v => by
    rw [hcost]
    refine Nat.le_trans (smN_le (m := 99) (fun i hi => hcs i _ hi (dig_lt (by omega)))) ?_
    exact Nat.mul_le_mul_right 99 hn
  have hpb : ∀ (s : Nat) (c : Nat → Nat), s ≤ n → (∀ i, i < s → c i < nc) → smN (fun i => cst i (c i)) s ≤ 8 * 99 := fun s c hs hc => by
    refine Nat.le_trans (smN_le (m := 99) (fun i hi => hcs i _ (by omega) (hc i hi))) ?_
    exact Nat.mul_le_mul_right 99 (by omega)
  -- what is as dear as the best already is passed over
  have prune : ∀ (m s v d : Nat) (c : Nat → Nat) (J : Nat → Nat → Int32), s + m = n → (∀ i, i < s → c i < nc) → v = num nc c s → cellsI J (B + 188) s ch c → (fm = 1 → taI J (B + 189) s ch c) → repS J B Q cost (v * nc ^ m) → (∃ w, bestV Q cost (v * nc ^ m) = some w ∧ cost w ≤ smN (fun i => cst i (c i)) s) → ∃ K, fX4_goThrough (d + 1) [.ref (B + 186), .ref (B + (tx + 5)), .int (nI s), .int (nI (smN (fun i => cst i (c i)) s)), .int (nI v)] (J, L, Z) = some (none, (K, L, Z)) ∧ cellsI K (B + 188) s ch c ∧ (fm = 1 → taI K (B + 189) s ch c) ∧ (fm = 0 → K (B + 189) = J (B + 189)) ∧ repS K B Q cost ((v + 1) * nc ^ m) ∧ repF J K B := by
    rintro m s v d c J hs hc hv hC hA hS ⟨w, w1, w2⟩
    have e1 : bestV Q cost ((v + 1) * nc ^ m) = bestV Q cost (v * nc ^ m) := by
      rw [Nat.add_mul, Nat.one_mul]
      refine bestV_skip _ (fun u u1 u2 => Or.inr ⟨w, w1, ?_⟩)
      have db := dig_block (c0 := 0) (c := c) (s := s) (m := m) (u := u) (by omega) hc (by rw [← hv]; exact u1) (by rw [← hv, Nat.add_mul, Nat.one_mul]; exact u2)
      rw [hs] at db
      rw [hcost u]
      refine Nat.le_trans w2 ?_
      rw [smN_congr (f := fun i => cst i (c i)) (g := fun i => cst i (dig nc n u i)) (fun i hi => by rw [db i hi])]
      exact smN_mono (by omega)
    refine ⟨J, ?_, hC, hA, fun _ => rfl, by unfold repS; rw [e1]; exact hS, repF.refl _ _⟩
    have s1 := hS.1
    rw [w1] at s1
    have s1 : J (B + 186) 5 = nI (cost w) := s1
    have b1 := hcb w
    have b2 := hpb s c (by omega) hc
    have q : ¬ smN (fun i => cst i (c i)) s < cost w := by omega
    generalize smN (fun i => cst i (c i)) s = p at *
    show kX4_goThrough_0 (fX4_goThrough d) [some (Value.ref (B + 186)), some (Value.ref (B + (tx + 5))), some (Value.int (nI (s))), some (Value.int (nI (p))), some (Value.int (nI (v))), none, none] [] (J, L, Z) = _
    simp (disch := omega) only [kX4_goThrough_0, cl_186 h, s1, q, e_push, e_pushl, e_iload, e_lload, e_aload, e_istore, e_astore, e_lstore, e_iinc, e_iadd, e_isub, e_imul, e_iand, e_ior, e_ixor, e_ishl, e_ishr, e_iushr, e_idiv, e_irem, e_ladd, e_lsub, e_lmul, e_lcmp, e_mmax, e_mmin, e_i2l, e_l2i, e_i2b, e_i2c, e_dup, e_dup2, e_pop, e_icmp_eq, e_icmp_ne, e_icmp_lt, e_icmp_ge, e_icmp_gt, e_icmp_le, e_if_eq, e_if_ne, e_if_lt, e_if_ge, e_if_gt, e_if_le, e_getI, e_getR, e_putI, e_putZ, e_putR, e_iald, e_bald, e_zald, e_lald, e_aald, e_alen, e_iast, e_bast, e_zast, e_last, e_aast, e_iret, e_zret, e_lret, e_vret, e_obj, e_callV, e_callS, e_callT, e_acpy, e_ldcS, e_dn, e_ag, z_pop, List.getElem?_cons_zero, List.getElem?_cons_succ, List.set_cons_zero, List.set_cons_succ, List.length_cons, List.length_nil, z_nol, Option.map_some, Option.toList_some, Option.toList_none, List.cons_append, List.nil_append, n_lit, n_m1, n_m2, n_m1lt, n_m1le, n_rem, n_div, n_out, n_cl, n_eq, n_le, n_lt, n_add, n_mul, n_sub, n_nle, n_yle, n_nlt, n_ylt, n_neN, z_lay, z_sz, z_str, z_stI, z_stL, z_stR, eq_self, ↓reduceIte, true_and, and_true, and_self, false_and, and_false, or_self, false_or, or_false, true_or, or_true, not_true_eq_false, not_false_eq_true, Nat.reduceLeDiff, Nat.reduceLT, Nat.reduceAdd, Nat.reduceEqDiff, Nat.reduceMul, Nat.reduceSub, Value.category, Nat.zero_le, beq_self_eq_true]
  -- else it is cheaper than the best
  have cheap : ∀ (J : Nat → Nat → Int32) (t p : Nat), p ≤ 8 * 99 → repS J B Q cost t → ¬ (∃ w, bestV Q cost t = some w ∧ cost w ≤ p) → ∃ b, J (B + 186) 5 = nI b ∧ p < b ∧ b < 2147483648 := by
    intro J t p hp hS hno
    have s1 := hS.1
    cases hb : bestV Q cost t with
    | none => rw [hb] at s1; exact ⟨1000000000, s1, by omega, by omega⟩
    | some w =>
      rw [hb] at s1
      have := hcb w
      exact ⟨cost w, s1, Classical.byContradiction fun z => hno ⟨w, hb, by omega⟩, by omega⟩
  intro m
  induction m with
  | zero =>
    intro s v d c J hs hd hc hv hkc hT hL2 hW hmo hP hC hL hA hS
    obtain ⟨d, rfl⟩ : ∃ e, d = e + 1 := ⟨d - 1, by omega⟩
    by_cases hpr : ∃ w, bestV Q cost (v * nc ^ 0) = some w ∧ cost w ≤ smN (fun i => cst i (c i)) s
    · exact prune 0 s v d c J hs hc hv hC hA hS hpr
    · obtain ⟨b, b1, b2, b3⟩ := cheap J _ _ (hpb s c (by omega) hc) hS hpr
      have e : s = n := by omega
      subst e
      rw [Nat.pow_zero, Nat.mul_one] at hS hpr
      rw [Nat.pow_zero, Nat.mul_one]
      have dg : ∀ i, i < s → dig nc s v i = c i := fun i hi => by rw [hv]; exact dig_num (by omega) hc i hi
      have ec : cost v = smN (fun i => cst i (c i)) s := by rw [hcost]; exact smN_congr (fun i hi => by rw [dg i hi])
      have htri : ∀ d i, d + i < s → tri ch c d i < nc := tri_lt hch hc
      have pb := hpb s c (by omega) hc
      have stepQ : Q v → bestV Q cost (v + 1) = some v := fun hq => by
        rw [bestV]
        cases hb : bestV Q cost v with
        | none => exact ifP_pos hq
        | some w =>
          have : cost v < cost w := Classical.byContradiction fun z => hpr ⟨w, hb, by omega⟩
          exact ifP_pos ⟨hq, this⟩
      have stepN : ¬ Q v → bestV Q cost (v + 1) = bestV Q cost v := fun hq => by
        rw [bestV]
        cases hb : bestV Q cost v with
        | none => exact ifP_neg hq
        | some w => exact ifP_neg (fun z => hq z.1)
      have nt : ∃ g, g = b01 (Q v) ∧ fX4_noteRow [.ref (B + 186), .ref (B + (tx + 5)), .int (nI (smN (fun i => cst i (c i)) s)), .int (nI v)] (J, L, Z) = (if g = 0 then some (none, (J, L, Z)) else some (none, (z_up (z_up J (B + 186) 5 (nI (smN (fun i => cst i (c i)) s))) (B + 186) 6 (nI v), L, Z))) := by
        generalize smN (fun i => cst i (c i)) s = p
        have e0 : fX4_noteRow [.ref (B + 186), .ref (B + (tx + 5)), .int (nI p), .int (nI v)] (J, L, Z) = kX4_noteRow_0 [some (Value.ref (B + 186)), some (Value.ref (B + (tx + 5))), some (Value.int (nI (p))), some (Value.int (nI (v))), none] [] (J, L, Z) := rfl
        rcases (by omega : fm = 0 ∨ fm = 1) with rfl | rfl
        · rw [if_neg (by omega)] at hW
          have w1 : (nI wd = nM1) = False := eq_false (fun z => by
            have e := congrArg Int32.toInt z
            rw [nI_toInt (by omega)] at e
            have : nM1.toInt = -1 := by decide
            omega)
          have a1 := p_lastChild (I := J) (L := L) (cg_187 h) ⟨hL rfl, hC⟩ (by omega) hn
          have e2 : tri ch c (s - 1) 0 = lastV ch nc s v := (tri_congr (s := s) (fun i hi => (dg i hi).symm) (s - 1) 0 (by omega))
          have l1 := htri (s - 1) 0 (by omega)
          rw [e2] at a1 l1
          by_cases q : lastV ch nc s v = wd
          · refine ⟨1, (b01_pos ((hQ0 rfl v).mpr q)).symm, ?_⟩
            rw [e0, if_neg (by omega)]
            rw [q] at a1
            simp (disch := omega) only [kX4_noteRow_58, kX4_noteRow_41, kX4_noteRow_0, cl_186 h, cr_186_0 h, cl_187 h, hW, w1, a1, e_push, e_pushl, e_iload, e_lload, e_aload, e_istore, e_astore, e_lstore, e_iinc, e_iadd, e_isub, e_imul, e_iand, e_ior, e_ixor, e_ishl, e_ishr, e_iushr, e_idiv, e_irem, e_ladd, e_lsub, e_lmul, e_lcmp, e_mmax, e_mmin, e_i2l, e_l2i, e_i2b, e_i2c, e_dup, e_dup2, e_pop, e_icmp_eq, e_icmp_ne, e_icmp_lt, e_icmp_ge, e_icmp_gt, e_icmp_le, e_if_eq, e_if_ne, e_if_lt, e_if_ge, e_if_gt, e_if_le, e_getI, e_getR, e_putI, e_putZ, e_putR, e_iald, e_bald, e_zald, e_lald, e_aald, e_alen, e_iast, e_bast, e_zast, e_last, e_aast, e_iret, e_zret, e_lret, e_vret, e_obj, e_callV, e_callS, e_callT, e_acpy, e_ldcS, e_dn, e_ag, z_pop, List.getElem?_cons_zero, List.getElem?_cons_succ, List.set_cons_zero, List.set_cons_succ, List.length_cons, List.length_nil, z_nol, Option.map_some, Option.toList_some, Option.toList_none, List.cons_append, List.nil_append, n_lit, n_m1, n_m2, n_m1lt, n_m1le, n_rem, n_div, n_out, n_cl, n_eq, n_le, n_lt, n_add, n_mul, n_sub, n_nle, n_yle, n_nlt, n_ylt, n_neN, z_lay, z_sz, z_str, z_stI, z_stL, z_stR, eq_self, ↓reduceIte, true_and, and_true, and_self, false_and, and_false, or_self, false_or, or_false, true_or, or_true, not_true_eq_false, not_false_eq_true, Nat.reduceLeDiff, Nat.reduceLT, Nat.reduceAdd, Nat.reduceEqDiff, Nat.reduceMul, Nat.reduceSub, Value.category, Nat.zero_le, beq_self_eq_true]
          · refine ⟨0, (b01_neg (fun z => q ((hQ0 rfl v).mp z))).symm, ?_⟩
            rw [e0, if_pos rfl]
            simp (disch := omega) only [kX4_noteRow_58, kX4_noteRow_41, kX4_noteRow_0, cl_186 h, cr_186_0 h, cl_187 h, hW, w1, a1, q, e_push, e_pushl, e_iload, e_lload, e_aload, e_istore, e_astore, e_lstore, e_iinc, e_iadd, e_isub, e_imul, e_iand, e_ior, e_ixor, e_ishl, e_ishr, e_iushr, e_idiv, e_irem, e_ladd, e_lsub, e_lmul, e_lcmp, e_mmax, e_mmin, e_i2l, e_l2i, e_i2b, e_i2c, e_dup, e_dup2, e_pop, e_icmp_eq, e_icmp_ne, e_icmp_lt, e_icmp_ge, e_icmp_gt, e_icmp_le, e_if_eq, e_if_ne, e_if_lt, e_if_ge, e_if_gt, e_if_le, e_getI, e_getR, e_putI, e_putZ, e_putR, e_iald, e_bald, e_zald, e_lald, e_aald, e_alen, e_iast, e_bast, e_zast, e_last, e_aast, e_iret, e_zret, e_lret, e_vret, e_obj, e_callV, e_callS, e_callT, e_acpy, e_ldcS, e_dn, e_ag, z_pop, List.getElem?_cons_zero, List.getElem?_cons_succ, List.set_cons_zero, List.set_cons_succ, List.length_cons, List.length_nil, z_nol, Option.map_some, Option.toList_some, Option.toList_none, List.cons_append, List.nil_append, n_lit, n_m1, n_m2, n_m1lt, n_m1le, n_rem, n_div, n_out, n_cl, n_eq, n_le, n_lt, n_add, n_mul, n_sub, n_nle, n_yle, n_nlt, n_ylt, n_neN, z_lay, z_sz, z_str, z_stI, z_stL, z_stR, eq_self, ↓reduceIte, true_and, and_true, and_self, false_and, and_false, or_self, false_or, or_false, true_or, or_true, not_true_eq_false, not_false_eq_true, Nat.reduceLeDiff, Nat.reduceLT, Nat.reduceAdd, Nat.reduceEqDiff, Nat.reduceMul, Nat.reduceSub, Value.category, Nat.zero_le, beq_self_eq_true]
        · rw [if_pos rfl] at hW
          have a1 := p_isFair (I := J) (L := L) (cg_187 h) (hL rfl) (hA rfl) hn h2 h4
          rw [fairN_congr (fun i hi => (dg i hi).symm)] at a1
          rcases fairN_01 ch (dig nc s v) s nc with q | q
          · refine ⟨0, (b01_neg (fun z => by have := (hQ1 rfl v).mp z; omega)).symm, ?_⟩
            rw [e0, if_pos rfl]
            rw [q] at a1
            simp (disch := omega) only [kX4_noteRow_58, kX4_noteRow_41, kX4_noteRow_0, cl_186 h, cr_186_0 h, cl_187 h, tl_5 h, hW, hkc, a1, e_push, e_pushl, e_iload, e_lload, e_aload, e_istore, e_astore, e_lstore, e_iinc, e_iadd, e_isub, e_imul, e_iand, e_ior, e_ixor, e_ishl, e_ishr, e_iushr, e_idiv, e_irem, e_ladd, e_lsub, e_lmul, e_lcmp, e_mmax, e_mmin, e_i2l, e_l2i, e_i2b, e_i2c, e_dup, e_dup2, e_pop, e_icmp_eq, e_icmp_ne, e_icmp_lt, e_icmp_ge, e_icmp_gt, e_icmp_le, e_if_eq, e_if_ne, e_if_lt, e_if_ge, e_if_gt, e_if_le, e_getI, e_getR, e_putI, e_putZ, e_putR, e_iald, e_bald, e_zald, e_lald, e_aald, e_alen, e_iast, e_bast, e_zast, e_last, e_aast, e_iret, e_zret, e_lret, e_vret, e_obj, e_callV, e_callS, e_callT, e_acpy, e_ldcS, e_dn, e_ag, z_pop, List.getElem?_cons_zero, List.getElem?_cons_succ, List.set_cons_zero, List.set_cons_succ, List.length_cons, List.length_nil, z_nol, Option.map_some, Option.toList_some, Option.toList_none, List.cons_append, List.nil_append, n_lit, n_m1, n_m2, n_m1lt, n_m1le, n_rem, n_div, n_out, n_cl, n_eq, n_le, n_lt, n_add, n_mul, n_sub, n_nle, n_yle, n_nlt, n_ylt, n_neN, z_lay, z_sz, z_str, z_stI, z_stL, z_stR, eq_self, ↓reduceIte, true_and, and_true, and_self, false_and, and_false, or_self, false_or, or_false, true_or, or_true, not_true_eq_false, not_false_eq_true, Nat.reduceLeDiff, Nat.reduceLT, Nat.reduceAdd, Nat.reduceEqDiff, Nat.reduceMul, Nat.reduceSub, Value.category, Nat.zero_le, beq_self_eq_true]
          · refine ⟨1, (b01_pos ((hQ1 rfl v).mpr q)).symm, ?_⟩
            rw [e0, if_neg (by omega)]
            rw [q] at a1
            simp (disch := omega) only [kX4_noteRow_58, kX4_noteRow_41, kX4_noteRow_0, cl_186 h, cr_186_0 h, cl_187 h, tl_5 h, hW, hkc, a1, e_push, e_pushl, e_iload, e_lload, e_aload, e_istore, e_astore, e_lstore, e_iinc, e_iadd, e_isub, e_imul, e_iand, e_ior, e_ixor, e_ishl, e_ishr, e_iushr, e_idiv, e_irem, e_ladd, e_lsub, e_lmul, e_lcmp, e_mmax, e_mmin, e_i2l, e_l2i, e_i2b, e_i2c, e_dup, e_dup2, e_pop, e_icmp_eq, e_icmp_ne, e_icmp_lt, e_icmp_ge, e_icmp_gt, e_icmp_le, e_if_eq, e_if_ne, e_if_lt, e_if_ge, e_if_gt, e_if_le, e_getI, e_getR, e_putI, e_putZ, e_putR, e_iald, e_bald, e_zald, e_lald, e_aald, e_alen, e_iast, e_bast, e_zast, e_last, e_aast, e_iret, e_zret, e_lret, e_vret, e_obj, e_callV, e_callS, e_callT, e_acpy, e_ldcS, e_dn, e_ag, z_pop, List.getElem?_cons_zero, List.getElem?_cons_succ, List.set_cons_zero, List.set_cons_succ, List.length_cons, List.length_nil, z_nol, Option.map_some, Option.toList_some, Option.toList_none, List.cons_append, List.nil_append, n_lit, n_m1, n_m2, n_m1lt, n_m1le, n_rem, n_div, n_out, n_cl, n_eq, n_le, n_lt, n_add, n_mul, n_sub, n_nle, n_yle, n_nlt, n_ylt, n_neN, z_lay, z_sz, z_str, z_stI, z_stL, z_stR, eq_self, ↓reduceIte, true_and, and_true, and_self, false_and, and_false, or_self, false_or, or_false, true_or, or_true, not_true_eq_false, not_false_eq_true, Nat.reduceLeDiff, Nat.reduceLT, Nat.reduceAdd, Nat.reduceEqDiff, Nat.reduceMul, Nat.reduceSub, Value.category, Nat.zero_le, beq_self_eq_true]
      obtain ⟨g, g1, g2⟩ := nt
      rcases Classical.em (Q v) with q | q
      · rw [b01_pos q] at g1
        rw [g1, if_neg (by omega)] at g2
        have bs := stepQ q
        refine ⟨z_up (z_up J (B + 186) 5 (nI (smN (fun i => cst i (c i)) s))) (B + 186) 6 (nI v), ?_, fun d i hdi => by rw [zup_off (by omega), zup_off (by omega)]; exact hC d i hdi, fun z s' x hs' hx => by rw [zup_off (by omega), zup_off (by omega)]; exact hA z s' x hs' hx, fun _ => by rw [zup_off (by omega), zup_off (by omega)], ⟨by rw [bs, zup_ne (by omega), zup_at, ← ec]; rfl, by rw [bs, zup_at]; rfl⟩, ⟨fun q z1 z2 z3 z4 => by rw [zup_off z1, zup_off z1], fun j z1 z2 => by rw [zup_ne z2, zup_ne z1]⟩⟩
        generalize smN (fun i => cst i (c i)) s = p at *
        show kX4_goThrough_0 (fX4_goThrough d) [some (Value.ref (B + 186)), some (Value.ref (B + (tx + 5))), some (Value.int (nI (s))), some (Value.int (nI (p))), some (Value.int (nI (v))), none, none] [] (J, L, Z) = _
        simp (disch := omega) only [kX4_goThrough_0, cl_186 h, b1, hL2, g2, e_push, e_pushl, e_iload, e_lload, e_aload, e_istore, e_astore, e_lstore, e_iinc, e_iadd, e_isub, e_imul, e_iand, e_ior, e_ixor, e_ishl, e_ishr, e_iushr, e_idiv, e_irem, e_ladd, e_lsub, e_lmul, e_lcmp, e_mmax, e_mmin, e_i2l, e_l2i, e_i2b, e_i2c, e_dup, e_dup2, e_pop, e_icmp_eq, e_icmp_ne, e_icmp_lt, e_icmp_ge, e_icmp_gt, e_icmp_le, e_if_eq, e_if_ne, e_if_lt, e_if_ge, e_if_gt, e_if_le, e_getI, e_getR, e_putI, e_putZ, e_putR, e_iald, e_bald, e_zald, e_lald, e_aald, e_alen, e_iast, e_bast, e_zast, e_last, e_aast, e_iret, e_zret, e_lret, e_vret, e_obj, e_callV, e_callS, e_callT, e_acpy, e_ldcS, e_dn, e_ag, z_pop, List.getElem?_cons_zero, List.getElem?_cons_succ, List.set_cons_zero, List.set_cons_succ, List.length_cons, List.length_nil, z_nol, Option.map_some, Option.toList_some, Option.toList_none, List.cons_append, List.nil_append, n_lit, n_m1, n_m2, n_m1lt, n_m1le, n_rem, n_div, n_out, n_cl, n_eq, n_le, n_lt, n_add, n_mul, n_sub, n_nle, n_yle, n_nlt, n_ylt, n_neN, z_lay, z_sz, z_str, z_stI, z_stL, z_stR, eq_self, ↓reduceIte, true_and, and_true, and_self, false_and, and_false, or_self, false_or, or_false, true_or, or_true, not_true_eq_false, not_false_eq_true, Nat.reduceLeDiff, Nat.reduceLT, Nat.reduceAdd, Nat.reduceEqDiff, Nat.reduceMul, Nat.reduceSub, Value.category, Nat.zero_le, beq_self_eq_true]
      · rw [b01_neg q] at g1
        rw [g1, if_pos rfl] at g2
        refine ⟨J, ?_, hC, hA, fun _ => rfl, by unfold repS; rw [stepN q]; exact hS, repF.refl _ _⟩
        generalize smN (fun i => cst i (c i)) s = p at *
        show kX4_goThrough_0 (fX4_goThrough d) [some (Value.ref (B + 186)), some (Value.ref (B + (tx + 5))), some (Value.int (nI (s))), some (Value.int (nI (p))), some (Value.int (nI (v))), none, none] [] (J, L, Z) = _
        simp (disch := omega) only [kX4_goThrough_0, cl_186 h, b1, hL2, g2, e_push, e_pushl, e_iload, e_lload, e_aload, e_istore, e_astore, e_lstore, e_iinc, e_iadd, e_isub, e_imul, e_iand, e_ior, e_ixor, e_ishl, e_ishr, e_iushr, e_idiv, e_irem, e_ladd, e_lsub, e_lmul, e_lcmp, e_mmax, e_mmin, e_i2l, e_l2i, e_i2b, e_i2c, e_dup, e_dup2, e_pop, e_icmp_eq, e_icmp_ne, e_icmp_lt, e_icmp_ge, e_icmp_gt, e_icmp_le, e_if_eq, e_if_ne, e_if_lt, e_if_ge, e_if_gt, e_if_le, e_getI, e_getR, e_putI, e_putZ, e_putR, e_iald, e_bald, e_zald, e_lald, e_aald, e_alen, e_iast, e_bast, e_zast, e_last, e_aast, e_iret, e_zret, e_lret, e_vret, e_obj, e_callV, e_callS, e_callT, e_acpy, e_ldcS, e_dn, e_ag, z_pop, List.getElem?_cons_zero, List.getElem?_cons_succ, List.set_cons_zero, List.set_cons_succ, List.length_cons, List.length_nil, z_nol, Option.map_some, Option.toList_some, Option.toList_none, List.cons_append, List.nil_append, n_lit, n_m1, n_m2, n_m1lt, n_m1le, n_rem, n_div, n_out, n_cl, n_eq, n_le, n_lt, n_add, n_mul, n_sub, n_nle, n_yle, n_nlt, n_ylt, n_neN, z_lay, z_sz, z_str, z_stI, z_stL, z_stR, eq_self, ↓reduceIte, true_and, and_true, and_self, false_and, and_false, or_self, false_or, or_false, true_or, or_true, not_true_eq_false, not_false_eq_true, Nat.reduceLeDiff, Nat.reduceLT, Nat.reduceAdd, Nat.reduceEqDiff, Nat.reduceMul, Nat.reduceSub, Value.category, Nat.zero_le, beq_self_eq_true]
  | succ m ih =>
    intro s v d c J hs hd hc hv hkc hT hL2 hW hmo hP hC hL hA hS
    obtain ⟨d, rfl⟩ : ∃ e, d = e + 1 := ⟨d - 1, by omega⟩
    by_cases hpr : ∃ w, bestV Q cost (v * nc ^ (m + 1)) = some w ∧ cost w ≤ smN (fun i => cst i (c i)) s
    · exact prune (m + 1) s v d c J hs hc hv hC hA hS hpr
    · obtain ⟨b, b1, b2, b3⟩ := cheap J _ _ (hpb s c (by omega) hc) hS hpr
      have vb : v < nc ^ s := by rw [hv]; exact num_lt hc
      have hps : nc ^ s ≤ 65536 := pw_le h4 (by omega)
      have pb := hpb s c (by omega) hc
      obtain ⟨p, hp⟩ : ∃ p, p = smN (fun i => cst i (c i)) s := ⟨_, rfl⟩
      rw [← hp] at b2 pb ⊢
      have n1 : s < n := by omega
      have e0 : fX4_goThrough (d + 1) [.ref (B + 186), .ref (B + (tx + 5)), .int (nI s), .int (nI p), .int (nI v)] (J, L, Z) = q_lp (bX4_goThrough_29 (fX4_goThrough d)) [some (Value.ref (B + 186)), some (Value.ref (B + (tx + 5))), some (Value.int (nI (s))), some (Value.int (nI (p))), some (Value.int (nI (v))), some (Value.int (nI (0))), none] [] (J, L, Z) := by
        show kX4_goThrough_0 (fX4_goThrough d) [some (Value.ref (B + 186)), some (Value.ref (B + (tx + 5))), some (Value.int (nI (s))), some (Value.int (nI (p))), some (Value.int (nI (v))), none, none] [] (J, L, Z) = _
        simp (disch := omega) only [kX4_goThrough_0, kX4_goThrough_29, cl_186 h, b1, hL2, e_push, e_pushl, e_iload, e_lload, e_aload, e_istore, e_astore, e_lstore, e_iinc, e_iadd, e_isub, e_imul, e_iand, e_ior, e_ixor, e_ishl, e_ishr, e_iushr, e_idiv, e_irem, e_ladd, e_lsub, e_lmul, e_lcmp, e_mmax, e_mmin, e_i2l, e_l2i, e_i2b, e_i2c, e_dup, e_dup2, e_pop, e_icmp_eq, e_icmp_ne, e_icmp_lt, e_icmp_ge, e_icmp_gt, e_icmp_le, e_if_eq, e_if_ne, e_if_lt, e_if_ge, e_if_gt, e_if_le, e_getI, e_getR, e_putI, e_putZ, e_putR, e_iald, e_bald, e_zald, e_lald, e_aald, e_alen, e_iast, e_bast, e_zast, e_last, e_aast, e_iret, e_zret, e_lret, e_vret, e_obj, e_callV, e_callS, e_callT, e_acpy, e_ldcS, e_dn, e_ag, z_pop, List.getElem?_cons_zero, List.getElem?_cons_succ, List.set_cons_zero, List.set_cons_succ, List.length_cons, List.length_nil, z_nol, Option.map_some, Option.toList_some, Option.toList_none, List.cons_append, List.nil_append, n_lit, n_m1, n_m2, n_m1lt, n_m1le, n_rem, n_div, n_out, n_cl, n_eq, n_le, n_lt, n_add, n_mul, n_sub, n_nle, n_yle, n_nlt, n_ylt, n_neN, z_lay, z_sz, z_str, z_stI, z_stL, z_stR, eq_self, ↓reduceIte, true_and, and_true, and_self, false_and, and_false, or_self, false_or, or_false, true_or, or_true, not_true_eq_false, not_false_eq_true, Nat.reduceLeDiff, Nat.reduceLT, Nat.reduceAdd, Nat.reduceEqDiff, Nat.reduceMul, Nat.reduceSub, Value.category, Nat.zero_le, beq_self_eq_true]
      rw [e0]
      have hS0 : repS J B Q cost ((v * nc + 0) * nc ^ m) := by
        rw [Nat.add_zero, Nat.mul_assoc, Nat.mul_comm nc, ← Nat.pow_succ]; exact hS
      refine lp_ex (fun x ls σ => ∃ (K : Nat → Nat → Int32) (y : Option Value), ls = [some (Value.ref (B + 186)), some (Value.ref (B + (tx + 5))), some (Value.int (nI (s))), some (Value.int (nI (p))), some (Value.int (nI (v))), some (Value.int (nI (x))), y] ∧ σ = (K, L, Z) ∧ cellsI K (B + 188) s ch c ∧ (fm = 1 → taI K (B + 189) s ch c) ∧ (fm = 0 → K (B + 189) = J (B + 189)) ∧ repS K B Q cost ((v * nc + x) * nc ^ m) ∧ repF J K B) nc ?_ ?_ ?_
      · exact ⟨J, none, rfl, rfl, hC, hA, fun _ => rfl, hS0, repF.refl _ _⟩
      · rintro ls σ ⟨K, y, rfl, rfl, q1, q2, q3, q4, q5⟩
        have v1 : K (B + (tx + 5)) 0 = nI nc := by rw [q5.1 _ (by omega) (by omega) (by omega) (by omega)]; exact hkc
        refine ⟨K, ?_, q1, q2, q3, ?_, q5⟩
        · simp (disch := omega) only [bX4_goThrough_29, kX4_goThrough_102, tl_5 h, v1, e_push, e_pushl, e_iload, e_lload, e_aload, e_istore, e_astore, e_lstore, e_iinc, e_iadd, e_isub, e_imul, e_iand, e_ior, e_ixor, e_ishl, e_ishr, e_iushr, e_idiv, e_irem, e_ladd, e_lsub, e_lmul, e_lcmp, e_mmax, e_mmin, e_i2l, e_l2i, e_i2b, e_i2c, e_dup, e_dup2, e_pop, e_icmp_eq, e_icmp_ne, e_icmp_lt, e_icmp_ge, e_icmp_gt, e_icmp_le, e_if_eq, e_if_ne, e_if_lt, e_if_ge, e_if_gt, e_if_le, e_getI, e_getR, e_putI, e_putZ, e_putR, e_iald, e_bald, e_zald, e_lald, e_aald, e_alen, e_iast, e_bast, e_zast, e_last, e_aast, e_iret, e_zret, e_lret, e_vret, e_obj, e_callV, e_callS, e_callT, e_acpy, e_ldcS, e_dn, e_ag, z_pop, List.getElem?_cons_zero, List.getElem?_cons_succ, List.set_cons_zero, List.set_cons_succ, List.length_cons, List.length_nil, z_nol, Option.map_some, Option.toList_some, Option.toList_none, List.cons_append, List.nil_append, n_lit, n_m1, n_m2, n_m1lt, n_m1le, n_rem, n_div, n_out, n_cl, n_eq, n_le, n_lt, n_add, n_mul, n_sub, n_nle, n_yle, n_nlt, n_ylt, n_neN, z_lay, z_sz, z_str, z_stI, z_stL, z_stR, eq_self, ↓reduceIte, true_and, and_true, and_self, false_and, and_false, or_self, false_or, or_false, true_or, or_true, not_true_eq_false, not_false_eq_true, Nat.reduceLeDiff, Nat.reduceLT, Nat.reduceAdd, Nat.reduceEqDiff, Nat.reduceMul, Nat.reduceSub, Value.category, Nat.zero_le, beq_self_eq_true]
        · have : (v + 1) * nc ^ (m + 1) = (v * nc + nc) * nc ^ m := by
            rw [Nat.pow_succ, Nat.mul_comm (nc ^ m), ← Nat.mul_assoc, Nat.add_mul, Nat.one_mul]
          rw [this]; exact q4
      · rintro x hx ls σ ⟨K, y, rfl, rfl, q1, q2, q3, q4, q5⟩
        have v1 : K (B + (tx + 5)) 0 = nI nc := by rw [q5.1 _ (by omega) (by omega) (by omega) (by omega)]; exact hkc
        have t1 : tabI K (B + (tx + 6)) ch := fun x y hx hy => by rw [q5.1 _ (by omega) (by omega) (by omega) (by omega)]; exact hT x y hx hy
        have cc : ∀ i, i < s + 1 → fUp c s x i < nc := fun i hi => by
          by_cases e : i = s
          · subst e; rw [fUp_at]; exact hx
          · rw [fUp_ne e]; exact hc i (by omega)
        have ctri : ∀ d i, d + i < s → tri ch (fUp c s x) d i = tri ch c d i := tri_congr (fun i hi => fUp_ne (by omega))
        obtain ⟨K1, a1, a2, a3, a4⟩ := p_put (I := K) (L := L) (s := s) (c := fUp c s x) (cg_187 h) (ct_tx h) (by omega) t1 (by omega) (fun i hi => Nat.lt_of_lt_of_le (cc i (by omega)) h4) (fun d i hdi => by rw [ctri d i hdi]; exact q1 d i hdi)
        rw [fUp_at] at a1
        have hv' : v * nc + x = num nc (fUp c s x) (s + 1) := by
          show _ = num nc (fUp c s x) s * nc + fUp c s x s
          rw [fUp_at, hv, num_congr (c := fUp c s x) (c' := c) (fun i hi => fUp_ne (by omega))]
        have htri' : ∀ d i, d + i < s + 1 → tri ch (fUp c s x) d i < nc := tri_lt hch cc
        have F1 : ∀ j, K1 (B + 186) j = K (B + 186) j := fun j => by rw [a4 _ (by omega) (by omega)]
        have F2 : ∀ j, j ≠ 5 → j ≠ 6 → K1 (B + 186) j = J (B + 186) j := fun j z1 z2 => by rw [F1, q5.2 j z1 z2]
        obtain ⟨K2, c1, c2, c3, c4⟩ := p_can (I := K1) (L := L) (nc := nc) (s := s) (n := n) (mo := mo) (fm := fm) (wd := wd) (c := fUp c s x) h h4 (by omega) hfm hwd (by rw [F2 3 (by omega) (by omega)]; exact hW) (by rw [F2 4 (by omega) (by omega)]; exact hmo) hmb (fun d i hdi => Nat.lt_of_lt_of_le (htri' d i hdi) h4) a2 (fun z s' x' hs' hx' => by
          rw [a4 _ (by omega) (by omega), q2 z s' x' hs' hx', tal_congr (c := fUp c s x) (c' := c) (fun i hi => fUp_ne (by omega))])
        have G2 : ∀ j, j ≠ 5 → j ≠ 6 → K2 (B + 186) j = J (B + 186) j := fun j z1 z2 => by rw [c4 _ (by omega), F2 j z1 z2]
        have v2 : K1 (B + (tx + 5)) 0 = nI nc := by rw [a4 _ (by omega) (by omega)]; exact v1
        have v3 : K2 (B + (tx + 5)) 0 = nI nc := by rw [c4 _ (by omega)]; exact v2
        have S2 : repS K2 B Q cost ((v * nc + x) * nc ^ m) := by
          unfold repS
          rw [c4 _ (by omega), F1, F1]
          exact q4
        have P2 : ∀ i x, i < n → x < nc → K2 (B + 190) (i * 4 + x) = nI (cst i x) := fun i x hi hx => by
          rw [c4 _ (by omega), a4 _ (by omega) (by omega), q5.1 _ (by omega) (by omega) (by omega) (by omega)]; exact hP i x hi hx
        have C2 : cellsI K2 (B + 188) (s + 1) ch (fUp c s x) := fun d i hdi => by rw [c4 _ (by omega)]; exact a2 d i hdi
        have R2 : repF J K2 B := q5.trans ⟨fun q z1 z2 z3 z4 => by rw [c4 q z4, a4 q z2 z3], fun j z1 z2 => by rw [c4 _ (by omega), F1]⟩
        have n4 : ¬ nc ≤ x := by omega
        have e189 : fm = 0 → K2 (B + 189) = J (B + 189) := fun z => by rw [c3 z, a4 _ (by omega) (by omega), q3 z]
        rcases Classical.em (fm = 1 → ∀ x', x' < nc → tal ch (fUp c s x) (s + 1) x' ≤ mo) with q | q
        · rw [b01_pos q] at c1
          have pv : smN (fun i => cst i (fUp c s x i)) (s + 1) = p + cst s x := by
            rw [smN, fUp_at, hp, smN_congr (f := fun i => cst i (fUp c s x i)) (g := fun i => cst i (c i)) (fun i hi => by rw [fUp_ne (by omega)])]
          obtain ⟨K3, r1, r2, r3, r4, r5, r6⟩ := ih (s + 1) (v * nc + x) d (fUp c s x) K2 (by omega) (by omega) cc hv' v3 (fun x y hx hy => by rw [c4 _ (by omega), a4 _ (by omega) (by omega)]; exact t1 x y hx hy) (by rw [G2 2 (by omega) (by omega)]; exact hL2) (by rw [G2 3 (by omega) (by omega)]; exact hW) (by rw [G2 4 (by omega) (by omega)]; exact hmo) P2 C2 (fun e => by rw [c4 _ (by omega), ← e]; exact a3) c2 S2
          rw [pv] at r1
          have w1 := P2 s x n1 hx
          refine ⟨[some (Value.ref (B + 186)), some (Value.ref (B + (tx + 5))), some (Value.int (nI (s))), some (Value.int (nI (p))), some (Value.int (nI (v))), some (Value.int (nI (x + 1))), some (Value.int (nI (p + cst s x)))], (K3, L, Z), ?_, K3, _, rfl, rfl, fun d i hdi => by rw [r2 d i (by omega), ctri d i hdi], fun z s' x' hs' hx' => by rw [r3 z s' x' (by omega) hx', tal_congr (c := fUp c s x) (c' := c) (fun i hi => fUp_ne (by omega))], fun z => by rw [r4 z, e189 z], by rw [show v * nc + (x + 1) = v * nc + x + 1 by omega]; exact r5, R2.trans r6⟩
          simp (disch := omega) only [bX4_goThrough_29, kX4_goThrough_96, tl_5 h, cl_186 h, cr_186_0 h, cr_186_1 h, cl_187 h, cl_190 h, v1, a1, v2, c1, w1, v3, r1, e_push, e_pushl, e_iload, e_lload, e_aload, e_istore, e_astore, e_lstore, e_iinc, e_iadd, e_isub, e_imul, e_iand, e_ior, e_ixor, e_ishl, e_ishr, e_iushr, e_idiv, e_irem, e_ladd, e_lsub, e_lmul, e_lcmp, e_mmax, e_mmin, e_i2l, e_l2i, e_i2b, e_i2c, e_dup, e_dup2, e_pop, e_icmp_eq, e_icmp_ne, e_icmp_lt, e_icmp_ge, e_icmp_gt, e_icmp_le, e_if_eq, e_if_ne, e_if_lt, e_if_ge, e_if_gt, e_if_le, e_getI, e_getR, e_putI, e_putZ, e_putR, e_iald, e_bald, e_zald, e_lald, e_aald, e_alen, e_iast, e_bast, e_zast, e_last, e_aast, e_iret, e_zret, e_lret, e_vret, e_obj, e_callV, e_callS, e_callT, e_acpy, e_ldcS, e_dn, e_ag, z_pop, List.getElem?_cons_zero, List.getElem?_cons_succ, List.set_cons_zero, List.set_cons_succ, List.length_cons, List.length_nil, z_nol, Option.map_some, Option.toList_some, Option.toList_none, List.cons_append, List.nil_append, n_lit, n_m1, n_m2, n_m1lt, n_m1le, n_rem, n_div, n_out, n_cl, n_eq, n_le, n_lt, n_add, n_mul, n_sub, n_nle, n_yle, n_nlt, n_ylt, n_neN, z_lay, z_sz, z_str, z_stI, z_stL, z_stR, eq_self, ↓reduceIte, true_and, and_true, and_self, false_and, and_false, or_self, false_or, or_false, true_or, or_true, not_true_eq_false, not_false_eq_true, Nat.reduceLeDiff, Nat.reduceLT, Nat.reduceAdd, Nat.reduceEqDiff, Nat.reduceMul, Nat.reduceSub, Value.category, Nat.zero_le, beq_self_eq_true]
        · rw [b01_neg q] at c1
          have f1 : fm = 1 := Classical.byContradiction fun z => q (fun y => absurd y z)
          obtain ⟨x', x1, x2⟩ : ∃ x', x' < nc ∧ ¬ tal ch (fUp c s x) (s + 1) x' ≤ mo := Classical.byContradiction fun z => q (fun _ x' hx' => Classical.byContradiction fun t => z ⟨x', hx', t⟩)
          have e1 : bestV Q cost ((v * nc + (x + 1)) * nc ^ m) = bestV Q cost ((v * nc + x) * nc ^ m) := by
            rw [show v * nc + (x + 1) = v * nc + x + 1 by omega, Nat.add_mul, Nat.one_mul]
            refine bestV_skip _ (fun u u1 u2 => Or.inl (fun hq => x2 ?_))
            have db := dig_block (c0 := 0) (c := fUp c s x) (s := s + 1) (m := m) (u := u) (by omega) cc (by rw [← hv']; exact u1) (by rw [← hv', Nat.add_mul, Nat.one_mul]; exact u2)
            rw [show s + 1 + m = n by omega] at db
            have sh := fair_share h2 h4 (tri_lt (s := n) hch (fun i _ => dig_lt (b := nc) (n := n) (v := u) (by omega))) ((fairN_T h2).mp ((hQ1 f1 u).mp hq)) x1
            rw [← hmv f1] at sh
            have e3 : tal ch (fUp c s x) (s + 1) x' = tal ch (dig nc n u) (s + 1) x' := tal_congr (fun i hi => (db i hi).symm) x'
            rw [e3]
            exact Nat.le_trans (tal_mono (by omega)) sh
          refine ⟨[some (Value.ref (B + 186)), some (Value.ref (B + (tx + 5))), some (Value.int (nI (s))), some (Value.int (nI (p))), some (Value.int (nI (v))), some (Value.int (nI (x + 1))), y], (K2, L, Z), ?_, K2, _, rfl, rfl, fun d i hdi => by rw [C2 d i (by omega), ctri d i hdi], fun z s' x' hs' hx' => by rw [c2 z s' x' (by omega) hx', tal_congr (c := fUp c s x) (c' := c) (fun i hi => fUp_ne (by omega))], e189, by unfold repS; rw [e1]; exact S2, R2⟩
          simp (disch := omega) only [bX4_goThrough_29, kX4_goThrough_96, tl_5 h, cl_186 h, cr_186_0 h, cl_187 h, v1, a1, v2, c1, e_push, e_pushl, e_iload, e_lload, e_aload, e_istore, e_astore, e_lstore, e_iinc, e_iadd, e_isub, e_imul, e_iand, e_ior, e_ixor, e_ishl, e_ishr, e_iushr, e_idiv, e_irem, e_ladd, e_lsub, e_lmul, e_lcmp, e_mmax, e_mmin, e_i2l, e_l2i, e_i2b, e_i2c, e_dup, e_dup2, e_pop, e_icmp_eq, e_icmp_ne, e_icmp_lt, e_icmp_ge, e_icmp_gt, e_icmp_le, e_if_eq, e_if_ne, e_if_lt, e_if_ge, e_if_gt, e_if_le, e_getI, e_getR, e_putI, e_putZ, e_putR, e_iald, e_bald, e_zald, e_lald, e_aald, e_alen, e_iast, e_bast, e_zast, e_last, e_aast, e_iret, e_zret, e_lret, e_vret, e_obj, e_callV, e_callS, e_callT, e_acpy, e_ldcS, e_dn, e_ag, z_pop, List.getElem?_cons_zero, List.getElem?_cons_succ, List.set_cons_zero, List.set_cons_succ, List.length_cons, List.length_nil, z_nol, Option.map_some, Option.toList_some, Option.toList_none, List.cons_append, List.nil_append, n_lit, n_m1, n_m2, n_m1lt, n_m1le, n_rem, n_div, n_out, n_cl, n_eq, n_le, n_lt, n_add, n_mul, n_sub, n_nle, n_yle, n_nlt, n_ylt, n_neN, z_lay, z_sz, z_str, z_stI, z_stL, z_stR, eq_self, ↓reduceIte, true_and, and_true, and_self, false_and, and_false, or_self, false_or, or_false, true_or, or_true, not_true_eq_false, not_false_eq_true, Nat.reduceLeDiff, Nat.reduceLT, Nat.reduceAdd, Nat.reduceEqDiff, Nat.reduceMul, Nat.reduceSub, Value.category, Nat.zero_le, beq_self_eq_true]
