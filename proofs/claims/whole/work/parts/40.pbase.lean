/-! numbers and loops for the pure side -/
theorem lp_for {α : Type} {body : zK ((zL × zS) ⊕ α)} (ls : Nat → zL) (σ : Nat → zS) (n : Nat) {o : Option α} (hend : body (ls n) [] (σ n) = o.map .inr) (hstep : ∀ i, i < n → body (ls i) [] (σ i) = some (.inl (ls (i + 1), σ (i + 1)))) : q_lp body (ls 0) [] (σ 0) = o := by
  have h : ∀ j k, k + j = n → q_lp body (ls k) [] (σ k) = o := by
    intro j
    induction j with
    | zero =>
      intro k hk
      have e : k = n := by omega
      subst e
      rw [q_lp_eq, hend]
      cases o <;> rfl
    | succ j ih =>
      intro k hk
      rw [q_lp_eq, hstep k (by omega)]
      exact ih (k + 1) (by omega)
  exact h n 0 (by omega)
theorem n_lit (n : Nat) : (OfNat.ofNat n : Int32) = nI n := rfl
theorem n_out {j n : Nat} (h : j < 2147483648) : (nI j < 0 ∨ n ≤ (nI j).toNatClampNeg) ↔ n ≤ j := by
  have h1 : ¬ nI j < 0 := nI_pos h
  rw [nI_clamp h]
  exact ⟨fun q => q.resolve_left h1, Or.inr⟩
theorem n_cl {j : Nat} (h : j < 2147483648) : (nI j).toNatClampNeg = j := nI_clamp h
theorem n_eq {a b : Nat} (ha : a < 2147483648) (hb : b < 2147483648) : (nI a = nI b) = (a = b) := propext (nI_eq ha hb)
theorem n_le {a b : Nat} (ha : a < 2147483648) (hb : b < 2147483648) : (nI a ≤ nI b) = (a ≤ b) := propext (nI_leI ha hb)
theorem n_lt {a b : Nat} (ha : a < 2147483648) (hb : b < 2147483648) : (nI a < nI b) = (a < b) := propext (nI_ltI ha hb)
theorem n_and3 {r : Nat} (h : r < 4) : nI r &&& nI 3 = nI r := by
  rw [pk_andN (by omega) 2 (by decide), Nat.mod_eq_of_lt h]
theorem n_and7 {r : Nat} (h : r < 8) : nI r &&& nI 7 = nI r := by
  rw [pk_andN (by omega) 3 (by decide), Nat.mod_eq_of_lt h]
theorem n_add (a b : Nat) : nI a + nI b = nI (a + b) := nI_add a b
theorem n_mul (a b : Nat) : nI a * nI b = nI (a * b) := pk_mul a b
theorem n_sub {a b : Nat} (h : b ≤ a) : nI a - nI b = nI (a - b) := pk_sub h
def nM1 : Int32 := -1
def nM2 : Int32 := -2
theorem n_m1 : -nI 1 = nM1 := rfl
theorem n_m2 : -nI 2 = nM2 := rfl
theorem n_m1lt {n : Nat} (h : n < 2147483648) : (nM1 < nI n) = True := eq_true (by
  rw [Int32.lt_iff_toInt_lt, nI_toInt h]
  show (-1 : Int) < n
  omega)
theorem n_m1le {n : Nat} (h : n < 2147483648) : (nI n ≤ nM1) = False := eq_false (by
  rw [Int32.le_iff_toInt_le, nI_toInt h]
  show ¬ (n : Int) ≤ -1
  omega)
theorem n_rem {a d : Nat} (ha : a < 2147483648) (h0 : 0 < d) (hd : d < 2147483648) : z_rem (nI a) (nI d) = nI (a % d) := pk_rem ha h0 hd
theorem n_div {a d : Nat} (ha : a < 2147483648) (h0 : 0 < d) (hd : d < 2147483648) : nI a / nI d = nI (a / d) := pk_div ha h0 hd
theorem n_nle {a b : Nat} (h : b < a) : (a ≤ b) = False := eq_false (by omega)
theorem n_yle {a b : Nat} (h : a ≤ b) : (a ≤ b) = True := eq_true h
theorem n_nlt {a b : Nat} (h : b ≤ a) : (a < b) = False := eq_false (by omega)
theorem n_ylt {a b : Nat} (h : a < b) : (a < b) = True := eq_true h
theorem n_neN {a b : Nat} (h : a ≠ b) : (a = b) = False := eq_false h
/-! families -/
def isFam (Z : zZ) (a la ca : Nat) : Prop := Z.2.1 a = some (.inr 1) ∧ Z.1 a 3 = some la ∧ Z.1 a 4 = some ca ∧ Z.2.1 la = some (.inl (0, 4)) ∧ Z.2.1 ca = some (.inl (0, 32))
theorem p_lengthOf {I : Nat → Nat → Int32} {L : Nat → Nat → Int64} {Z : zZ} {a la ca r : Nat} (h : isFam Z a la ca) (hr : r < 4) : fX1_lengthOf [.ref a, .int (nI r)] (I, L, Z) = some (some (.int (I la r)), (I, L, Z)) := by
  obtain ⟨h1, h2, h3, h4, h5⟩ := h
  show kX1_lengthOf_0 [some (.ref a), some (.int (nI r))] [] (I, L, Z) = _
  simp (disch := omega) only [kX1_lengthOf_0, q_push, q_pushl, q_iload, q_lload, q_aload, q_istore, q_astore, q_lstore, q_iinc, q_iadd, q_isub, q_imul, q_iand, q_ior, q_ixor, q_ishl, q_ishr, q_iushr, q_idiv, q_irem, q_ladd, q_lsub, q_lmul, q_lcmp, q_mmax, q_mmin, q_i2l, q_l2i, q_i2b, q_i2c, q_dup, q_dup2, q_pop, q_icmp_eq, q_icmp_ne, q_icmp_lt, q_icmp_ge, q_icmp_gt, q_icmp_le, q_if_eq, q_if_ne, q_if_lt, q_if_ge, q_if_gt, q_if_le, q_getI, q_getR, q_putI, q_putZ, q_putR, q_iald, q_bald, q_zald, q_lald, q_aald, q_alen, q_iast, q_bast, q_zast, q_last, q_aast, q_iret, q_zret, q_lret, q_vret, q_obj, q_callV, q_callS, q_callT, q_acpy, q_ldcS, q_dn, q_ag, z_pop, List.getElem?_cons_zero, List.getElem?_cons_succ, List.set_cons_zero, List.set_cons_succ, List.length_cons, List.length_nil, z_nol, Option.map_some, Option.toList_some, Option.toList_none, List.cons_append, List.nil_append, n_lit, n_m1, n_m2, n_m1lt, n_m1le, n_rem, n_div, n_out, n_cl, n_eq, n_le, n_lt, n_add, n_mul, n_sub, n_nle, n_yle, n_nlt, n_ylt, n_neN, z_lay, z_sz, z_str, z_stI, z_stL, z_stR, eq_self, reduceIte, true_and, and_true, and_self, false_and, and_false, or_self, false_or, or_false, true_or, or_true, not_true_eq_false, not_false_eq_true, Nat.reduceLeDiff, Nat.reduceLT, Nat.reduceAdd, Nat.reduceEqDiff, Nat.reduceMul, Nat.reduceSub, Value.category, Nat.zero_le, beq_self_eq_true, h1, h2, h4, n_and3]
theorem p_colourAt {I : Nat → Nat → Int32} {L : Nat → Nat → Int64} {Z : zZ} {a la ca r i : Nat} (h : isFam Z a la ca) (hr : r < 4) (hi : i < 8) : fX1_colourAt [.ref a, .int (nI r), .int (nI i)] (I, L, Z) = some (some (.int (I ca (r * 8 + i))), (I, L, Z)) := by
  obtain ⟨h1, h2, h3, h4, h5⟩ := h
  show kX1_colourAt_0 [some (.ref a), some (.int (nI r)), some (.int (nI i))] [] (I, L, Z) = _
  simp (disch := omega) only [kX1_colourAt_0, q_push, q_pushl, q_iload, q_lload, q_aload, q_istore, q_astore, q_lstore, q_iinc, q_iadd, q_isub, q_imul, q_iand, q_ior, q_ixor, q_ishl, q_ishr, q_iushr, q_idiv, q_irem, q_ladd, q_lsub, q_lmul, q_lcmp, q_mmax, q_mmin, q_i2l, q_l2i, q_i2b, q_i2c, q_dup, q_dup2, q_pop, q_icmp_eq, q_icmp_ne, q_icmp_lt, q_icmp_ge, q_icmp_gt, q_icmp_le, q_if_eq, q_if_ne, q_if_lt, q_if_ge, q_if_gt, q_if_le, q_getI, q_getR, q_putI, q_putZ, q_putR, q_iald, q_bald, q_zald, q_lald, q_aald, q_alen, q_iast, q_bast, q_zast, q_last, q_aast, q_iret, q_zret, q_lret, q_vret, q_obj, q_callV, q_callS, q_callT, q_acpy, q_ldcS, q_dn, q_ag, z_pop, List.getElem?_cons_zero, List.getElem?_cons_succ, List.set_cons_zero, List.set_cons_succ, List.length_cons, List.length_nil, z_nol, Option.map_some, Option.toList_some, Option.toList_none, List.cons_append, List.nil_append, n_lit, n_m1, n_m2, n_m1lt, n_m1le, n_rem, n_div, n_out, n_cl, n_eq, n_le, n_lt, n_add, n_mul, n_sub, n_nle, n_yle, n_nlt, n_ylt, n_neN, z_lay, z_sz, z_str, z_stI, z_stL, z_stR, eq_self, reduceIte, true_and, and_true, and_self, false_and, and_false, or_self, false_or, or_false, true_or, or_true, not_true_eq_false, not_false_eq_true, Nat.reduceLeDiff, Nat.reduceLT, Nat.reduceAdd, Nat.reduceEqDiff, Nat.reduceMul, Nat.reduceSub, Value.category, Nat.zero_le, beq_self_eq_true, h1, h3, h5, n_and3, n_and7]
/-- how many of the first n satisfy -/
def p_cnt (p : Nat → Prop) [DecidablePred p] : Nat → Nat
  | 0 => 0
  | n + 1 => p_cnt p n + (if p n then 1 else 0)
theorem p_cnt_le (p : Nat → Prop) [DecidablePred p] (n : Nat) : p_cnt p n ≤ n := by
  induction n with
  | zero => exact Nat.le_refl _
  | succ n ih =>
    rw [p_cnt]
    split <;> omega
theorem p_amountOf {I : Nat → Nat → Int32} {L : Nat → Nat → Int64} {Z : zZ} {a la ca r n : Nat} {x : Int32} (h : isFam Z a la ca) (hr : r < 4) (hn : I la r = nI n) (hn8 : n ≤ 8) : fX1_amountOf [.ref a, .int (nI r), .int x] (I, L, Z) = some (some (.int (nI (p_cnt (fun i => I ca (r * 8 + i) = x) n))), (I, L, Z)) := by
  have hl := p_lengthOf (I := I) (L := L) h hr
  have h1 := h.1
  show kX1_amountOf_0 [some (.ref a), some (.int (nI r)), some (.int x), none, none] [] (I, L, Z) = _
  simp (disch := omega) only [kX1_amountOf_0, q_push, q_pushl, q_iload, q_lload, q_aload, q_istore, q_astore, q_lstore, q_iinc, q_iadd, q_isub, q_imul, q_iand, q_ior, q_ixor, q_ishl, q_ishr, q_iushr, q_idiv, q_irem, q_ladd, q_lsub, q_lmul, q_lcmp, q_mmax, q_mmin, q_i2l, q_l2i, q_i2b, q_i2c, q_dup, q_dup2, q_pop, q_icmp_eq, q_icmp_ne, q_icmp_lt, q_icmp_ge, q_icmp_gt, q_icmp_le, q_if_eq, q_if_ne, q_if_lt, q_if_ge, q_if_gt, q_if_le, q_getI, q_getR, q_putI, q_putZ, q_putR, q_iald, q_bald, q_zald, q_lald, q_aald, q_alen, q_iast, q_bast, q_zast, q_last, q_aast, q_iret, q_zret, q_lret, q_vret, q_obj, q_callV, q_callS, q_callT, q_acpy, q_ldcS, q_dn, q_ag, z_pop, List.getElem?_cons_zero, List.getElem?_cons_succ, List.set_cons_zero, List.set_cons_succ, List.length_cons, List.length_nil, z_nol, Option.map_some, Option.toList_some, Option.toList_none, List.cons_append, List.nil_append, n_lit, n_m1, n_m2, n_m1lt, n_m1le, n_rem, n_div, n_out, n_cl, n_eq, n_le, n_lt, n_add, n_mul, n_sub, n_nle, n_yle, n_nlt, n_ylt, n_neN, z_lay, z_sz, z_str, z_stI, z_stL, z_stR, eq_self, reduceIte, true_and, and_true, and_self, false_and, and_false, or_self, false_or, or_false, true_or, or_true, not_true_eq_false, not_false_eq_true, Nat.reduceLeDiff, Nat.reduceLT, Nat.reduceAdd, Nat.reduceEqDiff, Nat.reduceMul, Nat.reduceSub, Value.category, Nat.zero_le, beq_self_eq_true, kX1_amountOf_5]
  refine lp_for (fun i => [some (.ref a), some (.int (nI r)), some (.int x), some (.int (nI (p_cnt (fun i => I ca (r * 8 + i) = x) i))), some (.int (nI i))]) (fun _ => (I, L, Z)) n ?_ ?_
  · simp (disch := omega) only [bX1_amountOf_5, kX1_amountOf_40, q_push, q_pushl, q_iload, q_lload, q_aload, q_istore, q_astore, q_lstore, q_iinc, q_iadd, q_isub, q_imul, q_iand, q_ior, q_ixor, q_ishl, q_ishr, q_iushr, q_idiv, q_irem, q_ladd, q_lsub, q_lmul, q_lcmp, q_mmax, q_mmin, q_i2l, q_l2i, q_i2b, q_i2c, q_dup, q_dup2, q_pop, q_icmp_eq, q_icmp_ne, q_icmp_lt, q_icmp_ge, q_icmp_gt, q_icmp_le, q_if_eq, q_if_ne, q_if_lt, q_if_ge, q_if_gt, q_if_le, q_getI, q_getR, q_putI, q_putZ, q_putR, q_iald, q_bald, q_zald, q_lald, q_aald, q_alen, q_iast, q_bast, q_zast, q_last, q_aast, q_iret, q_zret, q_lret, q_vret, q_obj, q_callV, q_callS, q_callT, q_acpy, q_ldcS, q_dn, q_ag, z_pop, List.getElem?_cons_zero, List.getElem?_cons_succ, List.set_cons_zero, List.set_cons_succ, List.length_cons, List.length_nil, z_nol, Option.map_some, Option.toList_some, Option.toList_none, List.cons_append, List.nil_append, n_lit, n_m1, n_m2, n_m1lt, n_m1le, n_rem, n_div, n_out, n_cl, n_eq, n_le, n_lt, n_add, n_mul, n_sub, n_nle, n_yle, n_nlt, n_ylt, n_neN, z_lay, z_sz, z_str, z_stI, z_stL, z_stR, eq_self, reduceIte, true_and, and_true, and_self, false_and, and_false, or_self, false_or, or_false, true_or, or_true, not_true_eq_false, not_false_eq_true, Nat.reduceLeDiff, Nat.reduceLT, Nat.reduceAdd, Nat.reduceEqDiff, Nat.reduceMul, Nat.reduceSub, Value.category, Nat.zero_le, beq_self_eq_true, hl, h1, hn]
  · intro i hi
    have hc := p_colourAt (I := I) (L := L) (i := i) h hr (by omega)
    simp (disch := omega) only [bX1_amountOf_5, kX1_amountOf_32, q_push, q_pushl, q_iload, q_lload, q_aload, q_istore, q_astore, q_lstore, q_iinc, q_iadd, q_isub, q_imul, q_iand, q_ior, q_ixor, q_ishl, q_ishr, q_iushr, q_idiv, q_irem, q_ladd, q_lsub, q_lmul, q_lcmp, q_mmax, q_mmin, q_i2l, q_l2i, q_i2b, q_i2c, q_dup, q_dup2, q_pop, q_icmp_eq, q_icmp_ne, q_icmp_lt, q_icmp_ge, q_icmp_gt, q_icmp_le, q_if_eq, q_if_ne, q_if_lt, q_if_ge, q_if_gt, q_if_le, q_getI, q_getR, q_putI, q_putZ, q_putR, q_iald, q_bald, q_zald, q_lald, q_aald, q_alen, q_iast, q_bast, q_zast, q_last, q_aast, q_iret, q_zret, q_lret, q_vret, q_obj, q_callV, q_callS, q_callT, q_acpy, q_ldcS, q_dn, q_ag, z_pop, List.getElem?_cons_zero, List.getElem?_cons_succ, List.set_cons_zero, List.set_cons_succ, List.length_cons, List.length_nil, z_nol, Option.map_some, Option.toList_some, Option.toList_none, List.cons_append, List.nil_append, n_lit, n_m1, n_m2, n_m1lt, n_m1le, n_rem, n_div, n_out, n_cl, n_eq, n_le, n_lt, n_add, n_mul, n_sub, n_nle, n_yle, n_nlt, n_ylt, n_neN, z_lay, z_sz, z_str, z_stI, z_stL, z_stR, eq_self, reduceIte, true_and, and_true, and_self, false_and, and_false, or_self, false_or, or_false, true_or, or_true, not_true_eq_false, not_false_eq_true, Nat.reduceLeDiff, Nat.reduceLT, Nat.reduceAdd, Nat.reduceEqDiff, Nat.reduceMul, Nat.reduceSub, Value.category, Nat.zero_le, beq_self_eq_true, hl, h1, hn, hc, p_cnt]
    split <;> simp_all
