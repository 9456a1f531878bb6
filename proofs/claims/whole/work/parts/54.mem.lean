/-! families copied, kept, brought back -/
theorem n_clN {j : Nat} (h : j < 2147483648) : ¬ nI j < nI 0 := by rw [n_lt h (by omega)]; omega
def zcI (I : Nat → Nat → Int32) (a0 a n : Nat) : Nat → Nat → Int32 := fun b j => if b = a then va_cpy (I a0) (I a) 0 0 n j else I b j
theorem zcI_eq (I : Nat → Nat → Int32) (L : Nat → Nat → Int64) (Z : zZ) (a0 a n : Nat) : z_cpyS (I, L, Z) a0 a 0 0 n = (zcI I a0 a n, L, Z) := rfl
theorem zcI_at {I : Nat → Nat → Int32} {a0 a n j : Nat} (h : j < n) : zcI I a0 a n a j = I a0 j := by
  unfold zcI va_cpy
  rw [if_pos rfl, if_pos ⟨Nat.zero_le _, by omega⟩, Nat.zero_add, Nat.sub_zero]
theorem zcI_off {I : Nat → Nat → Int32} {a0 a n b : Nat} (h : b ≠ a) : zcI I a0 a n b = I b := funext fun j => if_neg h
theorem zup_off {I : Nat → Nat → Int32} {a k b : Nat} {v : Int32} (h : b ≠ a) : z_up I a k v b = I b := funext fun j => if_neg (fun z => h z.1)
theorem zup_at {I : Nat → Nat → Int32} {a k : Nat} {v : Int32} : z_up I a k v a k = v := if_pos ⟨rfl, rfl⟩
theorem zup_ne {I : Nat → Nat → Int32} {a k j b : Nat} {v : Int32} (h : j ≠ k) : z_up I a k v b j = I b j := if_neg (fun z => h z.2)
/-- one family is a copy of another -/
def famEq (I J : Nat → Nat → Int32) (a la ca b lb cb : Nat) : Prop := J a 0 = I b 0 ∧ J a 1 = I b 1 ∧ J a 2 = I b 2 ∧ (∀ j, j < 4 → J la j = I lb j) ∧ ∀ j, j < 32 → J ca j = I cb j
theorem p_copyFrom {I : Nat → Nat → Int32} {L : Nat → Nat → Int64} {Z : zZ} {a la ca b lb cb : Nat} (ha : isFam Z a la ca) (hb : isFam Z b lb cb) (hne : a ≠ la ∧ a ≠ ca ∧ la ≠ ca ∧ a ≠ lb ∧ a ≠ cb ∧ la ≠ cb ∧ la ≠ lb ∧ ca ≠ lb ∧ ca ≠ cb ∧ a ≠ b ∧ la ≠ b ∧ ca ≠ b) :
    ∃ I', fX1_copyFrom [.ref a, .ref b] (I, L, Z) = some (none, (I', L, Z)) ∧ famEq I I' a la ca b lb cb ∧ (∀ q, q ≠ a → q ≠ la → q ≠ ca → I' q = I q) := by
  obtain ⟨a1, a2, a3, a4, a5⟩ := ha
  obtain ⟨b1, b2, b3, b4, b5⟩ := hb
  obtain ⟨n1, n2, n3, n4, n5, n6, n7, n8, n9, n10, n11, n12⟩ := hne
  have e0 : fX1_copyFrom [.ref a, .ref b] (I, L, Z) = kX1_copyFrom_0 [some (.ref a), some (.ref b)] [] (I, L, Z) := rfl
  rw [e0]
  refine ⟨zcI (zcI (z_up (z_up (z_up I a 0 (I b 0)) a 1 (I b 1)) a 2 (I b 2)) lb la 4) cb ca 32, ?_, ⟨?_, ?_, ?_, ?_, ?_⟩, ?_⟩
  · have v1 : z_up I a 0 (I b 0) b 1 = I b 1 := by rw [zup_off (Ne.symm n10)]
    have v2 : z_up (z_up I a 0 (I b 0)) a 1 (I b 1) b 2 = I b 2 := by rw [zup_off (Ne.symm n10), zup_off (Ne.symm n10)]
    have c0 : (nI 0).toNatClampNeg = 0 := n_cl (by omega)
    have c4 : (nI 4).toNatClampNeg = 4 := n_cl (by omega)
    have c32 : (nI 32).toNatClampNeg = 32 := n_cl (by omega)
    have d0 : (nI 0 < nI 0) = False := eq_false (n_clN (by omega))
    have d4 : (nI 4 < nI 0) = False := eq_false (n_clN (by omega))
    have d32 : (nI 32 < nI 0) = False := eq_false (n_clN (by omega))
    simp only [kX1_copyFrom_0, a1, a2, a3, a4, a5, b1, b2, b3, b4, b5, v1, v2, zcI_eq, q_aload, q_getI, q_putI, q_getR, q_push, q_acpy, q_vret, List.getElem?_cons_zero, List.getElem?_cons_succ, List.length_nil, z_lay, z_stI, n_lit, c0, c4, c32, d0, d4, d32, eq_self, reduceIte, not_false_eq_true, true_and, Nat.zero_add, Nat.le_refl, Nat.zero_le, and_self]
  · rw [zcI_off n2, zcI_off n1, zup_ne (by omega), zup_ne (by omega), zup_at]
  · rw [zcI_off n2, zcI_off n1, zup_ne (by omega), zup_at]
  · rw [zcI_off n2, zcI_off n1, zup_at]
  · intro j hj
    rw [zcI_off n3, zcI_at hj, zup_off (Ne.symm n4), zup_off (Ne.symm n4), zup_off (Ne.symm n4)]
  · intro j hj
    rw [zcI_at hj, zcI_off (Ne.symm n6), zup_off (Ne.symm n5), zup_off (Ne.symm n5), zup_off (Ne.symm n5)]
  · intro q h1 h2 h3
    rw [zcI_off h3, zcI_off h2, zup_off h1, zup_off h1, zup_off h1]
theorem famC.copy {I J : Nat → Nat → Int32} {a la ca b lb cb rows nc : Nat} {len : Nat → Nat} {col : Nat → Nat → Nat} {tm pd : Int32} (h : famC I b lb cb rows nc len col tm pd) (he : famEq I J a la ca b lb cb) : famC J a la ca rows nc len col tm pd := by
  obtain ⟨h1, h2, h3, h4, h5⟩ := h
  obtain ⟨e1, e2, e3, e4, e5⟩ := he
  refine ⟨by rw [e1]; exact h1, by rw [e2]; exact h2, by rw [e3]; exact h3, h4, fun r hr => ?_⟩
  obtain ⟨⟨f1, f2, f3⟩, f4, f5⟩ := h5 r hr
  exact ⟨⟨by rw [e4 r (by omega)]; exact f1, f2, fun i hi => by rw [e5 _ (by omega)]; exact f3 i hi⟩, f4, f5⟩
theorem p_setLength {I : Nat → Nat → Int32} {L : Nat → Nat → Int64} {Z : zZ} {a la ca r : Nat} {x : Int32} (h : isFam Z a la ca) (hr : r < 4) : fX1_setLength [.ref a, .int (nI r), .int x] (I, L, Z) = some (none, (z_up I la r x, L, Z)) := by
  obtain ⟨h1, h2, h3, h4, h5⟩ := h
  show kX1_setLength_0 [some (.ref a), some (.int (nI r)), some (.int x)] [] (I, L, Z) = _
  simp (disch := omega) only [kX1_setLength_0, h1, h2, h4, n_and3, q_push, q_pushl, q_iload, q_lload, q_aload, q_istore, q_astore, q_lstore, q_iinc, q_iadd, q_isub, q_imul, q_iand, q_ior, q_ixor, q_ishl, q_ishr, q_iushr, q_idiv, q_irem, q_ladd, q_lsub, q_lmul, q_lcmp, q_mmax, q_mmin, q_i2l, q_l2i, q_i2b, q_i2c, q_dup, q_dup2, q_pop, q_icmp_eq, q_icmp_ne, q_icmp_lt, q_icmp_ge, q_icmp_gt, q_icmp_le, q_if_eq, q_if_ne, q_if_lt, q_if_ge, q_if_gt, q_if_le, q_getI, q_getR, q_putI, q_putZ, q_putR, q_iald, q_bald, q_zald, q_lald, q_aald, q_alen, q_iast, q_bast, q_zast, q_last, q_aast, q_iret, q_zret, q_lret, q_vret, q_obj, q_callV, q_callS, q_callT, q_acpy, q_ldcS, q_dn, q_ag, z_pop, List.getElem?_cons_zero, List.getElem?_cons_succ, List.set_cons_zero, List.set_cons_succ, List.length_cons, List.length_nil, z_nol, Option.map_some, Option.toList_some, Option.toList_none, List.cons_append, List.nil_append, n_lit, n_m1, n_m2, n_m1lt, n_m1le, n_rem, n_div, n_out, n_cl, n_eq, n_le, n_lt, n_add, n_mul, n_sub, n_nle, n_yle, n_nlt, n_ylt, n_neN, z_lay, z_sz, z_str, z_stI, z_stL, z_stR, eq_self, reduceIte, true_and, and_true, and_self, false_and, and_false, or_self, false_or, or_false, true_or, or_true, not_true_eq_false, not_false_eq_true, Nat.reduceLeDiff, Nat.reduceLT, Nat.reduceAdd, Nat.reduceEqDiff, Nat.reduceMul, Nat.reduceSub, Value.category, Nat.zero_le, beq_self_eq_true]
theorem p_setColour {I : Nat → Nat → Int32} {L : Nat → Nat → Int64} {Z : zZ} {a la ca r i : Nat} {x : Int32} (h : isFam Z a la ca) (hr : r < 4) (hi : i < 8) : fX1_setColour [.ref a, .int (nI r), .int (nI i), .int x] (I, L, Z) = some (none, (z_up I ca (r * 8 + i) x, L, Z)) := by
  obtain ⟨h1, h2, h3, h4, h5⟩ := h
  show kX1_setColour_0 [some (.ref a), some (.int (nI r)), some (.int (nI i)), some (.int x)] [] (I, L, Z) = _
  simp (disch := omega) only [kX1_setColour_0, h1, h3, h5, n_and3, n_and7, q_push, q_pushl, q_iload, q_lload, q_aload, q_istore, q_astore, q_lstore, q_iinc, q_iadd, q_isub, q_imul, q_iand, q_ior, q_ixor, q_ishl, q_ishr, q_iushr, q_idiv, q_irem, q_ladd, q_lsub, q_lmul, q_lcmp, q_mmax, q_mmin, q_i2l, q_l2i, q_i2b, q_i2c, q_dup, q_dup2, q_pop, q_icmp_eq, q_icmp_ne, q_icmp_lt, q_icmp_ge, q_icmp_gt, q_icmp_le, q_if_eq, q_if_ne, q_if_lt, q_if_ge, q_if_gt, q_if_le, q_getI, q_getR, q_putI, q_putZ, q_putR, q_iald, q_bald, q_zald, q_lald, q_aald, q_alen, q_iast, q_bast, q_zast, q_last, q_aast, q_iret, q_zret, q_lret, q_vret, q_obj, q_callV, q_callS, q_callT, q_acpy, q_ldcS, q_dn, q_ag, z_pop, List.getElem?_cons_zero, List.getElem?_cons_succ, List.set_cons_zero, List.set_cons_succ, List.length_cons, List.length_nil, z_nol, Option.map_some, Option.toList_some, Option.toList_none, List.cons_append, List.nil_append, n_lit, n_m1, n_m2, n_m1lt, n_m1le, n_rem, n_div, n_out, n_cl, n_eq, n_le, n_lt, n_add, n_mul, n_sub, n_nle, n_yle, n_nlt, n_ylt, n_neN, z_lay, z_sz, z_str, z_stI, z_stL, z_stR, eq_self, reduceIte, true_and, and_true, and_self, false_and, and_false, or_self, false_or, or_false, true_or, or_true, not_true_eq_false, not_false_eq_true, Nat.reduceLeDiff, Nat.reduceLT, Nat.reduceAdd, Nat.reduceEqDiff, Nat.reduceMul, Nat.reduceSub, Value.category, Nat.zero_le, beq_self_eq_true]
theorem p_append {I : Nat → Nat → Int32} {L : Nat → Nat → Int64} {Z : zZ} {a la ca r n : Nat} {x : Int32} (h : isFam Z a la ca) (hne : la ≠ ca) (hr : r < 4) (hn : I la r = nI n) (h8 : n < 8) : fX1_append [.ref a, .int (nI r), .int x] (I, L, Z) = some (none, (z_up (z_up I ca (r * 8 + n) x) la r (nI (n + 1)), L, Z)) := by
  have a1 := p_lengthOf (I := I) (L := L) h hr
  rw [hn] at a1
  have a2 := p_setColour (I := I) (L := L) (i := n) (x := x) h hr h8
  have a3 := p_lengthOf (I := z_up I ca (r * 8 + n) x) (L := L) h hr
  rw [show z_up I ca (r * 8 + n) x la r = I la r from if_neg (fun z => hne z.1), hn] at a3
  have a4 := p_setLength (I := z_up I ca (r * 8 + n) x) (L := L) (x := nI (n + 1)) h hr
  show kX1_append_0 [some (.ref a), some (.int (nI r)), some (.int x)] [] (I, L, Z) = _
  simp (disch := omega) only [kX1_append_0, kX1_append_33, h.1, a1, a2, a3, a4, q_push, q_pushl, q_iload, q_lload, q_aload, q_istore, q_astore, q_lstore, q_iinc, q_iadd, q_isub, q_imul, q_iand, q_ior, q_ixor, q_ishl, q_ishr, q_iushr, q_idiv, q_irem, q_ladd, q_lsub, q_lmul, q_lcmp, q_mmax, q_mmin, q_i2l, q_l2i, q_i2b, q_i2c, q_dup, q_dup2, q_pop, q_icmp_eq, q_icmp_ne, q_icmp_lt, q_icmp_ge, q_icmp_gt, q_icmp_le, q_if_eq, q_if_ne, q_if_lt, q_if_ge, q_if_gt, q_if_le, q_getI, q_getR, q_putI, q_putZ, q_putR, q_iald, q_bald, q_zald, q_lald, q_aald, q_alen, q_iast, q_bast, q_zast, q_last, q_aast, q_iret, q_zret, q_lret, q_vret, q_obj, q_callV, q_callS, q_callT, q_acpy, q_ldcS, q_dn, q_ag, z_pop, List.getElem?_cons_zero, List.getElem?_cons_succ, List.set_cons_zero, List.set_cons_succ, List.length_cons, List.length_nil, z_nol, Option.map_some, Option.toList_some, Option.toList_none, List.cons_append, List.nil_append, n_lit, n_m1, n_m2, n_m1lt, n_m1le, n_rem, n_div, n_out, n_cl, n_eq, n_le, n_lt, n_add, n_mul, n_sub, n_nle, n_yle, n_nlt, n_ylt, n_neN, z_lay, z_sz, z_str, z_stI, z_stL, z_stR, eq_self, reduceIte, true_and, and_true, and_self, false_and, and_false, or_self, false_or, or_false, true_or, or_true, not_true_eq_false, not_false_eq_true, Nat.reduceLeDiff, Nat.reduceLT, Nat.reduceAdd, Nat.reduceEqDiff, Nat.reduceMul, Nat.reduceSub, Value.category, Nat.zero_le, beq_self_eq_true]
/-- a step of the ring of 40 -/
def rgS (n : Nat) : Nat := if n + 1 < 40 then n + 1 else 0
def rgP (n : Nat) : Nat := if 0 < n then n - 1 else 39
theorem p_remember {I : Nat → Nat → Int32} {L : Nat → Nat → Int64} {Z : zZ} {B tx u nw : Nat} (h : isCls Z B tx) (hu : I (B + 45) 0 = nI u) (hu40 : u ≤ 40) (hw : I (B + 45) 1 = nI nw) (hw40 : nw < 40) :
    ∃ I', fX3_remember [.ref (B + 45), .ref (B + 33)] (I, L, Z) = some (none, (I', L, Z)) ∧ I' (B + 45) 0 = nI (if u < 40 then u + 1 else 40) ∧ I' (B + 45) 1 = nI (rgS nw) ∧ famEq I I' (B + (49 + 3 * rgS nw)) (B + (50 + 3 * rgS nw)) (B + (51 + 3 * rgS nw)) (B + 33) (B + 34) (B + 35) ∧ ∀ q, q ≠ B + 45 → q ≠ B + (49 + 3 * rgS nw) → q ≠ B + (50 + 3 * rgS nw) → q ≠ B + (51 + 3 * rgS nw) → I' q = I q := by
  have hS : rgS nw < 40 := by unfold rgS; split <;> omega
  have hp := h.2.2.2.2.2.1 (rgS nw) hS
  obtain ⟨J, a1, a2, a3⟩ := p_copyFrom (I := z_up I (B + 45) 1 (nI (rgS nw))) (L := L) (cf_past h (i := rgS nw) (by omega)) (cf_33 h) (by omega)
  have e1 : ∀ q, q ≠ B + 45 → z_up I (B + 45) 1 (nI (rgS nw)) q = I q := fun q hq => funext fun j => if_neg (fun z => hq z.1)
  have v0 : J (B + 45) 0 = nI u := by rw [a3 _ (by omega) (by omega) (by omega), ← hu]; exact if_neg (by omega)
  have v1 : J (B + 45) 1 = nI (rgS nw) := by rw [a3 _ (by omega) (by omega) (by omega)]; exact if_pos ⟨rfl, rfl⟩
  have w1 : z_up I (B + 45) 1 (nI (rgS nw)) (B + 45) 1 = nI (rgS nw) := if_pos ⟨rfl, rfl⟩
  have e0 : fX3_remember [.ref (B + 45), .ref (B + 33)] (I, L, Z) = kX3_remember_0 [some (.ref (B + 45)), some (.ref (B + 33))] [] (I, L, Z) := rfl
  refine ⟨z_up J (B + 45) 0 (nI (if u < 40 then u + 1 else 40)), ?_, if_pos ⟨rfl, rfl⟩, ?_, ?_, ?_⟩
  · rw [e0]
    have e3 : kX3_remember_0 [some (.ref (B + 45)), some (.ref (B + 33))] [] (I, L, Z) = kX3_remember_22 [some (.ref (B + 45)), some (.ref (B + 33))] [.int (nI (rgS nw)), .ref (B + 45)] (I, L, Z) := by
      unfold rgS
      by_cases q : nw + 1 < 40
      · simp (disch := omega) only [kX3_remember_0, cl_45 h, hw, q, q_push, q_pushl, q_iload, q_lload, q_aload, q_istore, q_astore, q_lstore, q_iinc, q_iadd, q_isub, q_imul, q_iand, q_ior, q_ixor, q_ishl, q_ishr, q_iushr, q_idiv, q_irem, q_ladd, q_lsub, q_lmul, q_lcmp, q_mmax, q_mmin, q_i2l, q_l2i, q_i2b, q_i2c, q_dup, q_dup2, q_pop, q_icmp_eq, q_icmp_ne, q_icmp_lt, q_icmp_ge, q_icmp_gt, q_icmp_le, q_if_eq, q_if_ne, q_if_lt, q_if_ge, q_if_gt, q_if_le, q_getI, q_getR, q_putI, q_putZ, q_putR, q_iald, q_bald, q_zald, q_lald, q_aald, q_alen, q_iast, q_bast, q_zast, q_last, q_aast, q_iret, q_zret, q_lret, q_vret, q_obj, q_callV, q_callS, q_callT, q_acpy, q_ldcS, q_dn, q_ag, z_pop, List.getElem?_cons_zero, List.getElem?_cons_succ, List.set_cons_zero, List.set_cons_succ, List.length_cons, List.length_nil, z_nol, Option.map_some, Option.toList_some, Option.toList_none, List.cons_append, List.nil_append, n_lit, n_m1, n_m2, n_m1lt, n_m1le, n_rem, n_div, n_out, n_cl, n_eq, n_le, n_lt, n_add, n_mul, n_sub, n_nle, n_yle, n_nlt, n_ylt, n_neN, z_lay, z_sz, z_str, z_stI, z_stL, z_stR, eq_self, reduceIte, true_and, and_true, and_self, false_and, and_false, or_self, false_or, or_false, true_or, or_true, not_true_eq_false, not_false_eq_true, Nat.reduceLeDiff, Nat.reduceLT, Nat.reduceAdd, Nat.reduceEqDiff, Nat.reduceMul, Nat.reduceSub, Value.category, Nat.zero_le, beq_self_eq_true]
      · simp (disch := omega) only [kX3_remember_0, cl_45 h, hw, q, q_push, q_pushl, q_iload, q_lload, q_aload, q_istore, q_astore, q_lstore, q_iinc, q_iadd, q_isub, q_imul, q_iand, q_ior, q_ixor, q_ishl, q_ishr, q_iushr, q_idiv, q_irem, q_ladd, q_lsub, q_lmul, q_lcmp, q_mmax, q_mmin, q_i2l, q_l2i, q_i2b, q_i2c, q_dup, q_dup2, q_pop, q_icmp_eq, q_icmp_ne, q_icmp_lt, q_icmp_ge, q_icmp_gt, q_icmp_le, q_if_eq, q_if_ne, q_if_lt, q_if_ge, q_if_gt, q_if_le, q_getI, q_getR, q_putI, q_putZ, q_putR, q_iald, q_bald, q_zald, q_lald, q_aald, q_alen, q_iast, q_bast, q_zast, q_last, q_aast, q_iret, q_zret, q_lret, q_vret, q_obj, q_callV, q_callS, q_callT, q_acpy, q_ldcS, q_dn, q_ag, z_pop, List.getElem?_cons_zero, List.getElem?_cons_succ, List.set_cons_zero, List.set_cons_succ, List.length_cons, List.length_nil, z_nol, Option.map_some, Option.toList_some, Option.toList_none, List.cons_append, List.nil_append, n_lit, n_m1, n_m2, n_m1lt, n_m1le, n_rem, n_div, n_out, n_cl, n_eq, n_le, n_lt, n_add, n_mul, n_sub, n_nle, n_yle, n_nlt, n_ylt, n_neN, z_lay, z_sz, z_str, z_stI, z_stL, z_stR, eq_self, reduceIte, true_and, and_true, and_self, false_and, and_false, or_self, false_or, or_false, true_or, or_true, not_true_eq_false, not_false_eq_true, Nat.reduceLeDiff, Nat.reduceLT, Nat.reduceAdd, Nat.reduceEqDiff, Nat.reduceMul, Nat.reduceSub, Value.category, Nat.zero_le, beq_self_eq_true]
    rw [e3]
    have e6 : (if 40 < u + 1 then 40 else u + 1) = if u < 40 then u + 1 else 40 := by
      split <;> split <;> omega
    simp (disch := omega) only [kX3_remember_22, cl_45 h, cr_45_2 h, cl_46 h, w1, hp, (cf_past h (i := rgS nw) (by omega)).1, a1, v0, n_ite, e6, q_putI, q_aload, q_getR, q_getI, q_aald, q_callV, q_push, q_iadd, q_mmin, q_vret, z_pop, List.getElem?_cons_zero, List.getElem?_cons_succ, List.length_cons, List.length_nil, Option.toList_none, List.nil_append, z_lay, z_sz, z_stI, n_lit, n_out, n_cl, n_add, n_lt, n_nle, n_nlt, eq_self, reduceIte, true_and, and_true, and_self, or_self, or_false, false_or, Nat.reduceLeDiff, Nat.reduceLT, Nat.reduceAdd, Nat.zero_le]
  · rw [← v1]
    exact if_neg (by omega)
  · obtain ⟨f1, f2, f3, f4, f5⟩ := a2
    have k : ∀ q, q ≠ B + 45 → z_up J (B + 45) 0 (nI (if u < 40 then u + 1 else 40)) q = J q := fun q hq => funext fun j => if_neg (fun z => hq z.1)
    refine ⟨?_, ?_, ?_, fun j hj => ?_, fun j hj => ?_⟩
    · rw [k _ (by omega), f1, e1 _ (by omega)]
    · rw [k _ (by omega), f2, e1 _ (by omega)]
    · rw [k _ (by omega), f3, e1 _ (by omega)]
    · rw [k _ (by omega), f4 j hj, e1 _ (by omega)]
    · rw [k _ (by omega), f5 j hj, e1 _ (by omega)]
  · intro q h1 h2 h3 h4
    have k : z_up J (B + 45) 0 (nI (if u < 40 then u + 1 else 40)) q = J q := funext fun j => if_neg (fun z => h1 z.1)
    rw [k, a3 q h2 h3 h4, e1 q h1]
