--deps: 54.lazy 54.mem 55.mem2 56.rmem 57.spec 58.inv 59.keep 60.fin 61.ops2 62.ops3 63.tape 64.told 65.ev 66.law
/-! the class's expressions -/
def unOK (I : Nat → Nat → Int32) (L : Nat → Nat → Int64) (Z : zZ) (B tx : Nat) (vs : Nat → Int32) (u : zF) (o : Nat) (U : Nat → sR) : Prop := ∀ i j c g, U i = (0, j, c) → (g = nI 0 ∨ g = nI 1) → ∃ w x g', valE vs c w ∧ u [.ref (B + 40), .ref (B + (tx + 1)), .int (nI o)] (atI I B i g, L, Z) = some (some (.int x), (atI I B j g', L, Z)) ∧ evQ w x g g'
def sval (vs : Nat → Int32) (S : Option (List (Nat × Nat) × Nat)) (o : Option Int32) : Prop := match S with
  | none => o = some (nI 0)
  | some q => valE vs q.1 o ∧ (q.2 = 2 ∨ q.2 = 3)
def sgn (S : Option (List (Nat × Nat) × Nat)) : Nat := match S with
  | none => 2
  | some q => q.2
theorem sgn_some {c : List (Nat × Nat)} {k : Nat} : sgn (some (c, k)) = k := rfl
theorem opO_0 (o : Option Int32) : opO 2 (some (nI 0)) o = o := by
  cases o with
  | none => rfl
  | some x =>
    show (if 2 = 5 ∧ x = nI 0 then none else some (opv 2 (nI 0) x)) = some x
    rw [if_neg (by omega)]
    show some (nI 0 + x) = some x
    rw [nI_0, Int32.zero_add]
theorem sval.join {vs : Nat → Int32} {S : Option (List (Nat × Nat) × Nat)} {P : List (Nat × Nat)} {o p : Option Int32} (h : sval vs S o) (hP : valE vs P p) : valE vs (sJoin S P) (opO (sgn S) o p) := by
  cases S with
  | none =>
    have h : o = some (nI 0) := h
    subst h
    show valE vs P (opO 2 (some (nI 0)) p)
    rw [opO_0]
    exact hP
  | some q => exact valE_op (by have := h.2; omega) h.1 hP
theorem sgn_23 {vs : Nat → Int32} {S : Option (List (Nat × Nat) × Nat)} {o : Option Int32} (h : sval vs S o) : sgn S = 2 ∨ sgn S = 3 := by
  cases S with
  | none => exact Or.inl rfl
  | some q => exact h.2
/-- alive, or a division by 0 was met -/
def live2 (oC oP : Option Int32) (s p g0 g : Int32) : Prop := (oC = some s ∧ oP = some p ∧ g = g0) ∨ ((oC = none ∨ oP = none) ∧ g = nI 1)
theorem live2.bit {oC oP : Option Int32} {s p g0 g : Int32} (h : live2 oC oP s p g0 g) (h0 : g0 = nI 0 ∨ g0 = nI 1) : g = nI 0 ∨ g = nI 1 := by
  rcases h with ⟨-, -, h⟩ | ⟨-, h⟩
  · rw [h]; exact h0
  · exact Or.inr h
theorem live2.fin {oC oP : Option Int32} {s p g0 g : Int32} {k : Nat} (h : live2 oC oP s p g0 g) (hk : k = 2 ∨ k = 3 ∨ k = 4) : evQ (opO k oC oP) (opv k s p) g0 g := by
  rcases h with ⟨rfl, rfl, h⟩ | ⟨h1, h⟩
  · show evQ (if k = 5 ∧ p = nI 0 then none else some (opv k s p)) _ _ _
    rw [if_neg (by omega)]
    exact ⟨rfl, h⟩
  · have e : opO k oC oP = none := by
      rcases h1 with rfl | rfl
      · rfl
      · cases oC <;> rfl
    rw [e]
    exact h
theorem tokC.lt {I : Nat → Nat → Int32} {L : Nat → Nat → Int64} {B tx : Nat} {K W : Nat → Nat} {sz : Nat} (h : tokC I L B tx K W sz) (i : Nat) : K i < 64 := by
  rcases Nat.lt_or_ge i sz with q | q
  · exact (h.2.2.1 i q).2.1
  · rw [h.2.2.2 i q]; omega
theorem ex_tail {I : Nat → Nat → Int32} {L : Nat → Nat → Int64} {Z : zZ} {B tx sz o : Nat} {K W : Nat → Nat} {vs : Nat → Int32} {u : zF} {U : Nat → sR} (h : isCls Z B tx) (hT : tokC I L B tx K W sz) (hu : unOK I L Z B tx vs u o U) : ∀ n, n ≤ 400 → ∀ j S P j' c, j ≤ 400 → sTl U K n j S P = (0, j', c) → (∀ i j c, U i = (0, j, c) → j ≤ 400) → ∀ oC oP s p g0 g (y : Option Value), sval vs S oC → valE vs P oP → live2 oC oP s p g0 g → (g0 = nI 0 ∨ g0 = nI 1) →
    ∃ w x g', valE vs c w ∧ q_lp (bX2_expression_16 u) [some (.ref ((B + 40))), some (.ref ((B + (tx + 1)))), some (.int (nI (o))), some (.int (s)), some (.int (nI (if sgn S = 3 then 1 else 0))), some (.int (p)), some (.int (nI (400 - n))), y] [] (atI I B j g, L, Z) = some (some (.int x), (atI I B j' g', L, Z)) ∧ evQ w x g0 g' := by
  intro n
  induction n with
  | zero =>
    intro hn j S P j' c hj he hU oC oP s p g0 g y h1 h2 h3 h4
    cases he
    refine ⟨_, opv (sgn S) s p, g, h1.join h2, ?_, h3.fin (by have := sgn_23 h1; omega)⟩
    rw [q_lp_eq]
    rcases sgn_23 h1 with e | e
    · simp (disch := omega) only [bX2_expression_16, kX2_expression_164, kX2_expression_148, kX2_expression_142, kX2_expression_132, kX2_expression_119, kX2_expression_16, kX2_expression_0, e, opv, cl_40 h, e_push, e_pushl, e_iload, e_lload, e_aload, e_istore, e_astore, e_lstore, e_iinc, e_iadd, e_isub, e_imul, e_iand, e_ior, e_ixor, e_ishl, e_ishr, e_iushr, e_idiv, e_irem, e_ladd, e_lsub, e_lmul, e_lcmp, e_mmax, e_mmin, e_i2l, e_l2i, e_i2b, e_i2c, e_dup, e_dup2, e_pop, e_icmp_eq, e_icmp_ne, e_icmp_lt, e_icmp_ge, e_icmp_gt, e_icmp_le, e_if_eq, e_if_ne, e_if_lt, e_if_ge, e_if_gt, e_if_le, e_getI, e_getR, e_putI, e_putZ, e_putR, e_iald, e_bald, e_zald, e_lald, e_aald, e_alen, e_iast, e_bast, e_zast, e_last, e_aast, e_iret, e_zret, e_lret, e_vret, e_obj, e_callV, e_callS, e_callT, e_acpy, e_ldcS, e_dn, e_ag, z_pop, List.getElem?_cons_zero, List.getElem?_cons_succ, List.set_cons_zero, List.set_cons_succ, List.length_cons, List.length_nil, z_nol, Option.map_some, Option.toList_some, Option.toList_none, List.cons_append, List.nil_append, n_lit, n_m1, n_m2, n_m1lt, n_m1le, n_rem, n_div, n_out, n_cl, n_eq, n_le, n_lt, n_add, n_mul, n_sub, n_nle, n_yle, n_nlt, n_ylt, n_neN, z_lay, z_sz, z_str, z_stI, z_stL, z_stR, eq_self, ↓reduceIte, true_and, and_true, and_self, false_and, and_false, or_self, false_or, or_false, true_or, or_true, not_true_eq_false, not_false_eq_true, Nat.reduceLeDiff, Nat.reduceLT, Nat.reduceAdd, Nat.reduceEqDiff, Nat.reduceMul, Nat.reduceSub, Value.category, Nat.zero_le, beq_self_eq_true]
    · simp (disch := omega) only [bX2_expression_16, kX2_expression_164, kX2_expression_148, kX2_expression_142, kX2_expression_132, kX2_expression_119, kX2_expression_16, kX2_expression_0, e, opv, cl_40 h, e_push, e_pushl, e_iload, e_lload, e_aload, e_istore, e_astore, e_lstore, e_iinc, e_iadd, e_isub, e_imul, e_iand, e_ior, e_ixor, e_ishl, e_ishr, e_iushr, e_idiv, e_irem, e_ladd, e_lsub, e_lmul, e_lcmp, e_mmax, e_mmin, e_i2l, e_l2i, e_i2b, e_i2c, e_dup, e_dup2, e_pop, e_icmp_eq, e_icmp_ne, e_icmp_lt, e_icmp_ge, e_icmp_gt, e_icmp_le, e_if_eq, e_if_ne, e_if_lt, e_if_ge, e_if_gt, e_if_le, e_getI, e_getR, e_putI, e_putZ, e_putR, e_iald, e_bald, e_zald, e_lald, e_aald, e_alen, e_iast, e_bast, e_zast, e_last, e_aast, e_iret, e_zret, e_lret, e_vret, e_obj, e_callV, e_callS, e_callT, e_acpy, e_ldcS, e_dn, e_ag, z_pop, List.getElem?_cons_zero, List.getElem?_cons_succ, List.set_cons_zero, List.set_cons_succ, List.length_cons, List.length_nil, z_nol, Option.map_some, Option.toList_some, Option.toList_none, List.cons_append, List.nil_append, n_lit, n_m1, n_m2, n_m1lt, n_m1le, n_rem, n_div, n_out, n_cl, n_eq, n_le, n_lt, n_add, n_mul, n_sub, n_nle, n_yle, n_nlt, n_ylt, n_neN, z_lay, z_sz, z_str, z_stI, z_stL, z_stR, eq_self, ↓reduceIte, true_and, and_true, and_self, false_and, and_false, or_self, false_or, or_false, true_or, or_true, not_true_eq_false, not_false_eq_true, Nat.reduceLeDiff, Nat.reduceLT, Nat.reduceAdd, Nat.reduceEqDiff, Nat.reduceMul, Nat.reduceSub, Value.category, Nat.zero_le, beq_self_eq_true]
  | succ n ih =>
    intro hn j S P j' c hj he hU oC oP s p g0 g y h1 h2 h3 h4
    have htx := h.1
    have hlt := hT.lt j
    have hk := p_kind (I := atI I B j g) (L := L) (i := j) h (hT.at htx) (by omega)
    have hop := p_isOp hlt (σ := (atI I B j g, L, Z))
    rw [sTl] at he
    split at he
    · rename_i q0
      cases he
      refine ⟨_, opv (sgn S) s p, g, h1.join h2, ?_, h3.fin (by have := sgn_23 h1; omega)⟩
      rw [q_lp_eq]
      rw [if_pos q0] at hop
      rcases sgn_23 h1 with e | e
      · simp (disch := omega) only [bX2_expression_16, kX2_expression_164, kX2_expression_148, kX2_expression_142, kX2_expression_132, kX2_expression_119, kX2_expression_16, kX2_expression_0, e, opv, cl_40 h, tl_1 h, atI_1, hk, hop, e_push, e_pushl, e_iload, e_lload, e_aload, e_istore, e_astore, e_lstore, e_iinc, e_iadd, e_isub, e_imul, e_iand, e_ior, e_ixor, e_ishl, e_ishr, e_iushr, e_idiv, e_irem, e_ladd, e_lsub, e_lmul, e_lcmp, e_mmax, e_mmin, e_i2l, e_l2i, e_i2b, e_i2c, e_dup, e_dup2, e_pop, e_icmp_eq, e_icmp_ne, e_icmp_lt, e_icmp_ge, e_icmp_gt, e_icmp_le, e_if_eq, e_if_ne, e_if_lt, e_if_ge, e_if_gt, e_if_le, e_getI, e_getR, e_putI, e_putZ, e_putR, e_iald, e_bald, e_zald, e_lald, e_aald, e_alen, e_iast, e_bast, e_zast, e_last, e_aast, e_iret, e_zret, e_lret, e_vret, e_obj, e_callV, e_callS, e_callT, e_acpy, e_ldcS, e_dn, e_ag, z_pop, List.getElem?_cons_zero, List.getElem?_cons_succ, List.set_cons_zero, List.set_cons_succ, List.length_cons, List.length_nil, z_nol, Option.map_some, Option.toList_some, Option.toList_none, List.cons_append, List.nil_append, n_lit, n_m1, n_m2, n_m1lt, n_m1le, n_rem, n_div, n_out, n_cl, n_eq, n_le, n_lt, n_add, n_mul, n_sub, n_nle, n_yle, n_nlt, n_ylt, n_neN, z_lay, z_sz, z_str, z_stI, z_stL, z_stR, eq_self, ↓reduceIte, true_and, and_true, and_self, false_and, and_false, or_self, false_or, or_false, true_or, or_true, not_true_eq_false, not_false_eq_true, Nat.reduceLeDiff, Nat.reduceLT, Nat.reduceAdd, Nat.reduceEqDiff, Nat.reduceMul, Nat.reduceSub, Value.category, Nat.zero_le, beq_self_eq_true]
      · simp (disch := omega) only [bX2_expression_16, kX2_expression_164, kX2_expression_148, kX2_expression_142, kX2_expression_132, kX2_expression_119, kX2_expression_16, kX2_expression_0, e, opv, cl_40 h, tl_1 h, atI_1, hk, hop, e_push, e_pushl, e_iload, e_lload, e_aload, e_istore, e_astore, e_lstore, e_iinc, e_iadd, e_isub, e_imul, e_iand, e_ior, e_ixor, e_ishl, e_ishr, e_iushr, e_idiv, e_irem, e_ladd, e_lsub, e_lmul, e_lcmp, e_mmax, e_mmin, e_i2l, e_l2i, e_i2b, e_i2c, e_dup, e_dup2, e_pop, e_icmp_eq, e_icmp_ne, e_icmp_lt, e_icmp_ge, e_icmp_gt, e_icmp_le, e_if_eq, e_if_ne, e_if_lt, e_if_ge, e_if_gt, e_if_le, e_getI, e_getR, e_putI, e_putZ, e_putR, e_iald, e_bald, e_zald, e_lald, e_aald, e_alen, e_iast, e_bast, e_zast, e_last, e_aast, e_iret, e_zret, e_lret, e_vret, e_obj, e_callV, e_callS, e_callT, e_acpy, e_ldcS, e_dn, e_ag, z_pop, List.getElem?_cons_zero, List.getElem?_cons_succ, List.set_cons_zero, List.set_cons_succ, List.length_cons, List.length_nil, z_nol, Option.map_some, Option.toList_some, Option.toList_none, List.cons_append, List.nil_append, n_lit, n_m1, n_m2, n_m1lt, n_m1le, n_rem, n_div, n_out, n_cl, n_eq, n_le, n_lt, n_add, n_mul, n_sub, n_nle, n_yle, n_nlt, n_ylt, n_neN, z_lay, z_sz, z_str, z_stI, z_stL, z_stR, eq_self, ↓reduceIte, true_and, and_true, and_self, false_and, and_false, or_self, false_or, or_false, true_or, or_true, not_true_eq_false, not_false_eq_true, Nat.reduceLeDiff, Nat.reduceLT, Nat.reduceAdd, Nat.reduceEqDiff, Nat.reduceMul, Nat.reduceSub, Value.category, Nat.zero_le, beq_self_eq_true]
    · rename_i q0
      rw [if_neg q0] at hop
      obtain ⟨e1, e2⟩ := sBind_ok he
      obtain ⟨a1, a2, -⟩ := sAdv_ok (pr3 e1)
      obtain ⟨e3, e4⟩ := sBind_ok e2
      have e3' := pr3 e3
      rw [a2] at e3' e4
      have hj2 := hU _ _ _ e3'
      obtain ⟨w2, x2, g2, b1, b2, b3⟩ := hu _ _ _ g e3' (h3.bit h4)
      generalize (U (j + 1)).2.1 = j2 at b1 b2 b3 e4 hj2
      generalize (U (j + 1)).2.2 = c2 at b1 b2 b3 e4
      rw [q_lp_eq]
      have dead : g = nI 1 → g2 = nI 1 := fun z => by rw [z] at b3; exact b3.dead
      have kk : K j = 43 ∨ K j = 45 ∨ K j = 42 ∨ K j = 47 := by
        unfold sOp at q0
        by_cases z1 : K j = 43
        · exact Or.inl z1
        · by_cases z2 : K j = 45
          · exact Or.inr (Or.inl z2)
          · by_cases z3 : K j = 42
            · exact Or.inr (Or.inr (Or.inl z3))
            · by_cases z4 : K j = 47
              · exact Or.inr (Or.inr (Or.inr z4))
              · rw [if_neg z1, if_neg z2, if_neg z3, if_neg z4] at q0
                exact absurd rfl q0
      have hl2 : live2 (opO (sgn S) oC oP) w2 (opv (sgn S) s p) x2 g0 g2 := by
        have hf := h3.fin (k := sgn S) (by have := sgn_23 h1; omega)
        rcases h3 with ⟨rfl, rfl, rfl⟩ | ⟨d1, d2⟩
        · have e : opO (sgn S) (some s) (some p) = some (opv (sgn S) s p) := by
            show (if sgn S = 5 ∧ p = nI 0 then none else some (opv (sgn S) s p)) = _
            rw [if_neg (by have := sgn_23 h1; omega)]
          cases w2 with
          | none => exact Or.inr ⟨Or.inr rfl, b3⟩
          | some v2 => exact Or.inl ⟨e, by rw [b3.1], b3.2⟩
        · have e : opO (sgn S) oC oP = none := by
            rcases d1 with rfl | rfl
            · rfl
            · cases oC <;> rfl
          exact Or.inr ⟨Or.inl e, dead d2⟩
      have hl4 : live2 oC (opO 4 oP w2) s (p * x2) g0 g2 := by
        rcases h3 with ⟨rfl, rfl, rfl⟩ | ⟨d1, d2⟩
        · cases w2 with
          | none => exact Or.inr ⟨Or.inr rfl, b3⟩
          | some v2 => exact Or.inl ⟨rfl, by rw [b3.1]; rfl, b3.2⟩
        · refine Or.inr ⟨?_, dead d2⟩
          rcases d1 with rfl | rfl
          · exact Or.inl rfl
          · exact Or.inr rfl
      rcases kk with kk | kk | kk | kk
      · rw [kk, show sOp 43 = 2 from rfl, if_neg (by omega)] at e4
        obtain ⟨w, x, g', f1, f2, f3⟩ := ih (by omega) j2 _ _ j' c hj2 e4 hU _ _ _ _ g0 g2 (some (.int (nI 43))) (show sval vs (some (sJoin S P, 2)) _ from ⟨h1.join h2, Or.inl rfl⟩) b1 hl2 h4
        refine ⟨w, x, g', f1, ?_, f3⟩
        rw [← f2]
        have e9 : 400 - (n + 1) + 1 = 400 - n := by omega
        rw [kk] at hk hop
        rcases sgn_23 h1 with e | e
        · simp (disch := omega) only [bX2_expression_16, kX2_expression_164, kX2_expression_148, kX2_expression_142, kX2_expression_132, kX2_expression_119, kX2_expression_16, kX2_expression_0, e, opv, cl_40 h, tl_1 h, atI_1, hk, hop, atI_u1, b2, e9, sgn_some, e_push, e_pushl, e_iload, e_lload, e_aload, e_istore, e_astore, e_lstore, e_iinc, e_iadd, e_isub, e_imul, e_iand, e_ior, e_ixor, e_ishl, e_ishr, e_iushr, e_idiv, e_irem, e_ladd, e_lsub, e_lmul, e_lcmp, e_mmax, e_mmin, e_i2l, e_l2i, e_i2b, e_i2c, e_dup, e_dup2, e_pop, e_icmp_eq, e_icmp_ne, e_icmp_lt, e_icmp_ge, e_icmp_gt, e_icmp_le, e_if_eq, e_if_ne, e_if_lt, e_if_ge, e_if_gt, e_if_le, e_getI, e_getR, e_putI, e_putZ, e_putR, e_iald, e_bald, e_zald, e_lald, e_aald, e_alen, e_iast, e_bast, e_zast, e_last, e_aast, e_iret, e_zret, e_lret, e_vret, e_obj, e_callV, e_callS, e_callT, e_acpy, e_ldcS, e_dn, e_ag, z_pop, List.getElem?_cons_zero, List.getElem?_cons_succ, List.set_cons_zero, List.set_cons_succ, List.length_cons, List.length_nil, z_nol, Option.map_some, Option.toList_some, Option.toList_none, List.cons_append, List.nil_append, n_lit, n_m1, n_m2, n_m1lt, n_m1le, n_rem, n_div, n_out, n_cl, n_eq, n_le, n_lt, n_add, n_mul, n_sub, n_nle, n_yle, n_nlt, n_ylt, n_neN, z_lay, z_sz, z_str, z_stI, z_stL, z_stR, eq_self, ↓reduceIte, true_and, and_true, and_self, false_and, and_false, or_self, false_or, or_false, true_or, or_true, not_true_eq_false, not_false_eq_true, Nat.reduceLeDiff, Nat.reduceLT, Nat.reduceAdd, Nat.reduceEqDiff, Nat.reduceMul, Nat.reduceSub, Value.category, Nat.zero_le, beq_self_eq_true]
        · simp (disch := omega) only [bX2_expression_16, kX2_expression_164, kX2_expression_148, kX2_expression_142, kX2_expression_132, kX2_expression_119, kX2_expression_16, kX2_expression_0, e, opv, cl_40 h, tl_1 h, atI_1, hk, hop, atI_u1, b2, e9, sgn_some, e_push, e_pushl, e_iload, e_lload, e_aload, e_istore, e_astore, e_lstore, e_iinc, e_iadd, e_isub, e_imul, e_iand, e_ior, e_ixor, e_ishl, e_ishr, e_iushr, e_idiv, e_irem, e_ladd, e_lsub, e_lmul, e_lcmp, e_mmax, e_mmin, e_i2l, e_l2i, e_i2b, e_i2c, e_dup, e_dup2, e_pop, e_icmp_eq, e_icmp_ne, e_icmp_lt, e_icmp_ge, e_icmp_gt, e_icmp_le, e_if_eq, e_if_ne, e_if_lt, e_if_ge, e_if_gt, e_if_le, e_getI, e_getR, e_putI, e_putZ, e_putR, e_iald, e_bald, e_zald, e_lald, e_aald, e_alen, e_iast, e_bast, e_zast, e_last, e_aast, e_iret, e_zret, e_lret, e_vret, e_obj, e_callV, e_callS, e_callT, e_acpy, e_ldcS, e_dn, e_ag, z_pop, List.getElem?_cons_zero, List.getElem?_cons_succ, List.set_cons_zero, List.set_cons_succ, List.length_cons, List.length_nil, z_nol, Option.map_some, Option.toList_some, Option.toList_none, List.cons_append, List.nil_append, n_lit, n_m1, n_m2, n_m1lt, n_m1le, n_rem, n_div, n_out, n_cl, n_eq, n_le, n_lt, n_add, n_mul, n_sub, n_nle, n_yle, n_nlt, n_ylt, n_neN, z_lay, z_sz, z_str, z_stI, z_stL, z_stR, eq_self, ↓reduceIte, true_and, and_true, and_self, false_and, and_false, or_self, false_or, or_false, true_or, or_true, not_true_eq_false, not_false_eq_true, Nat.reduceLeDiff, Nat.reduceLT, Nat.reduceAdd, Nat.reduceEqDiff, Nat.reduceMul, Nat.reduceSub, Value.category, Nat.zero_le, beq_self_eq_true]
      · rw [kk, show sOp 45 = 3 from rfl, if_neg (by omega)] at e4
        obtain ⟨w, x, g', f1, f2, f3⟩ := ih (by omega) j2 _ _ j' c hj2 e4 hU _ _ _ _ g0 g2 (some (.int (nI 45))) (show sval vs (some (sJoin S P, 3)) _ from ⟨h1.join h2, Or.inr rfl⟩) b1 hl2 h4
        refine ⟨w, x, g', f1, ?_, f3⟩
        rw [← f2]
        have e9 : 400 - (n + 1) + 1 = 400 - n := by omega
        rw [kk] at hk hop
        rcases sgn_23 h1 with e | e
        · simp (disch := omega) only [bX2_expression_16, kX2_expression_164, kX2_expression_148, kX2_expression_142, kX2_expression_132, kX2_expression_119, kX2_expression_16, kX2_expression_0, e, opv, cl_40 h, tl_1 h, atI_1, hk, hop, atI_u1, b2, e9, sgn_some, e_push, e_pushl, e_iload, e_lload, e_aload, e_istore, e_astore, e_lstore, e_iinc, e_iadd, e_isub, e_imul, e_iand, e_ior, e_ixor, e_ishl, e_ishr, e_iushr, e_idiv, e_irem, e_ladd, e_lsub, e_lmul, e_lcmp, e_mmax, e_mmin, e_i2l, e_l2i, e_i2b, e_i2c, e_dup, e_dup2, e_pop, e_icmp_eq, e_icmp_ne, e_icmp_lt, e_icmp_ge, e_icmp_gt, e_icmp_le, e_if_eq, e_if_ne, e_if_lt, e_if_ge, e_if_gt, e_if_le, e_getI, e_getR, e_putI, e_putZ, e_putR, e_iald, e_bald, e_zald, e_lald, e_aald, e_alen, e_iast, e_bast, e_zast, e_last, e_aast, e_iret, e_zret, e_lret, e_vret, e_obj, e_callV, e_callS, e_callT, e_acpy, e_ldcS, e_dn, e_ag, z_pop, List.getElem?_cons_zero, List.getElem?_cons_succ, List.set_cons_zero, List.set_cons_succ, List.length_cons, List.length_nil, z_nol, Option.map_some, Option.toList_some, Option.toList_none, List.cons_append, List.nil_append, n_lit, n_m1, n_m2, n_m1lt, n_m1le, n_rem, n_div, n_out, n_cl, n_eq, n_le, n_lt, n_add, n_mul, n_sub, n_nle, n_yle, n_nlt, n_ylt, n_neN, z_lay, z_sz, z_str, z_stI, z_stL, z_stR, eq_self, ↓reduceIte, true_and, and_true, and_self, false_and, and_false, or_self, false_or, or_false, true_or, or_true, not_true_eq_false, not_false_eq_true, Nat.reduceLeDiff, Nat.reduceLT, Nat.reduceAdd, Nat.reduceEqDiff, Nat.reduceMul, Nat.reduceSub, Value.category, Nat.zero_le, beq_self_eq_true]
        · simp (disch := omega) only [bX2_expression_16, kX2_expression_164, kX2_expression_148, kX2_expression_142, kX2_expression_132, kX2_expression_119, kX2_expression_16, kX2_expression_0, e, opv, cl_40 h, tl_1 h, atI_1, hk, hop, atI_u1, b2, e9, sgn_some, e_push, e_pushl, e_iload, e_lload, e_aload, e_istore, e_astore, e_lstore, e_iinc, e_iadd, e_isub, e_imul, e_iand, e_ior, e_ixor, e_ishl, e_ishr, e_iushr, e_idiv, e_irem, e_ladd, e_lsub, e_lmul, e_lcmp, e_mmax, e_mmin, e_i2l, e_l2i, e_i2b, e_i2c, e_dup, e_dup2, e_pop, e_icmp_eq, e_icmp_ne, e_icmp_lt, e_icmp_ge, e_icmp_gt, e_icmp_le, e_if_eq, e_if_ne, e_if_lt, e_if_ge, e_if_gt, e_if_le, e_getI, e_getR, e_putI, e_putZ, e_putR, e_iald, e_bald, e_zald, e_lald, e_aald, e_alen, e_iast, e_bast, e_zast, e_last, e_aast, e_iret, e_zret, e_lret, e_vret, e_obj, e_callV, e_callS, e_callT, e_acpy, e_ldcS, e_dn, e_ag, z_pop, List.getElem?_cons_zero, List.getElem?_cons_succ, List.set_cons_zero, List.set_cons_succ, List.length_cons, List.length_nil, z_nol, Option.map_some, Option.toList_some, Option.toList_none, List.cons_append, List.nil_append, n_lit, n_m1, n_m2, n_m1lt, n_m1le, n_rem, n_div, n_out, n_cl, n_eq, n_le, n_lt, n_add, n_mul, n_sub, n_nle, n_yle, n_nlt, n_ylt, n_neN, z_lay, z_sz, z_str, z_stI, z_stL, z_stR, eq_self, ↓reduceIte, true_and, and_true, and_self, false_and, and_false, or_self, false_or, or_false, true_or, or_true, not_true_eq_false, not_false_eq_true, Nat.reduceLeDiff, Nat.reduceLT, Nat.reduceAdd, Nat.reduceEqDiff, Nat.reduceMul, Nat.reduceSub, Value.category, Nat.zero_le, beq_self_eq_true]
      · rw [kk, show sOp 42 = 4 from rfl, if_pos (by omega)] at e4
        obtain ⟨w, x, g', f1, f2, f3⟩ := ih (by omega) j2 _ _ j' c hj2 e4 hU oC _ s _ g0 g2 (some (.int (nI 42))) h1 (valE_op (by omega) h2 b1) hl4 h4
        refine ⟨w, x, g', f1, ?_, f3⟩
        rw [← f2]
        have e9 : 400 - (n + 1) + 1 = 400 - n := by omega
        rw [kk] at hk hop
        simp (disch := omega) only [bX2_expression_16, kX2_expression_164, kX2_expression_148, kX2_expression_142, kX2_expression_132, kX2_expression_119, kX2_expression_16, kX2_expression_0, cl_40 h, tl_1 h, atI_1, hk, hop, atI_u1, b2, e9, e_push, e_pushl, e_iload, e_lload, e_aload, e_istore, e_astore, e_lstore, e_iinc, e_iadd, e_isub, e_imul, e_iand, e_ior, e_ixor, e_ishl, e_ishr, e_iushr, e_idiv, e_irem, e_ladd, e_lsub, e_lmul, e_lcmp, e_mmax, e_mmin, e_i2l, e_l2i, e_i2b, e_i2c, e_dup, e_dup2, e_pop, e_icmp_eq, e_icmp_ne, e_icmp_lt, e_icmp_ge, e_icmp_gt, e_icmp_le, e_if_eq, e_if_ne, e_if_lt, e_if_ge, e_if_gt, e_if_le, e_getI, e_getR, e_putI, e_putZ, e_putR, e_iald, e_bald, e_zald, e_lald, e_aald, e_alen, e_iast, e_bast, e_zast, e_last, e_aast, e_iret, e_zret, e_lret, e_vret, e_obj, e_callV, e_callS, e_callT, e_acpy, e_ldcS, e_dn, e_ag, z_pop, List.getElem?_cons_zero, List.getElem?_cons_succ, List.set_cons_zero, List.set_cons_succ, List.length_cons, List.length_nil, z_nol, Option.map_some, Option.toList_some, Option.toList_none, List.cons_append, List.nil_append, n_lit, n_m1, n_m2, n_m1lt, n_m1le, n_rem, n_div, n_out, n_cl, n_eq, n_le, n_lt, n_add, n_mul, n_sub, n_nle, n_yle, n_nlt, n_ylt, n_neN, z_lay, z_sz, z_str, z_stI, z_stL, z_stR, eq_self, ↓reduceIte, true_and, and_true, and_self, false_and, and_false, or_self, false_or, or_false, true_or, or_true, not_true_eq_false, not_false_eq_true, Nat.reduceLeDiff, Nat.reduceLT, Nat.reduceAdd, Nat.reduceEqDiff, Nat.reduceMul, Nat.reduceSub, Value.category, Nat.zero_le, beq_self_eq_true]
      · rw [kk, show sOp 47 = 5 from rfl, if_pos (by omega)] at e4
        have e9 : 400 - (n + 1) + 1 = 400 - n := by omega
        rw [kk] at hk hop
        by_cases x0 : x2 = nI 0
        · have hq : fX2_quotient [.ref (B + 40), .int p, .int x2] (atI I B j2 g2, L, Z) = some (some (.int (nI 0)), (atI I B j2 (nI 1), L, Z)) := by
            show kX2_quotient_0 [some (.ref ((B + 40))), some (.int (p)), some (.int (x2))] [] (atI I B j2 g2, L, Z) = _
            simp (disch := omega) only [kX2_quotient_0, x0, cl_40 h, atI_u2, e_push, e_pushl, e_iload, e_lload, e_aload, e_istore, e_astore, e_lstore, e_iinc, e_iadd, e_isub, e_imul, e_iand, e_ior, e_ixor, e_ishl, e_ishr, e_iushr, e_idiv, e_irem, e_ladd, e_lsub, e_lmul, e_lcmp, e_mmax, e_mmin, e_i2l, e_l2i, e_i2b, e_i2c, e_dup, e_dup2, e_pop, e_icmp_eq, e_icmp_ne, e_icmp_lt, e_icmp_ge, e_icmp_gt, e_icmp_le, e_if_eq, e_if_ne, e_if_lt, e_if_ge, e_if_gt, e_if_le, e_getI, e_getR, e_putI, e_putZ, e_putR, e_iald, e_bald, e_zald, e_lald, e_aald, e_alen, e_iast, e_bast, e_zast, e_last, e_aast, e_iret, e_zret, e_lret, e_vret, e_obj, e_callV, e_callS, e_callT, e_acpy, e_ldcS, e_dn, e_ag, z_pop, List.getElem?_cons_zero, List.getElem?_cons_succ, List.set_cons_zero, List.set_cons_succ, List.length_cons, List.length_nil, z_nol, Option.map_some, Option.toList_some, Option.toList_none, List.cons_append, List.nil_append, n_lit, n_m1, n_m2, n_m1lt, n_m1le, n_rem, n_div, n_out, n_cl, n_eq, n_le, n_lt, n_add, n_mul, n_sub, n_nle, n_yle, n_nlt, n_ylt, n_neN, z_lay, z_sz, z_str, z_stI, z_stL, z_stR, eq_self, ↓reduceIte, true_and, and_true, and_self, false_and, and_false, or_self, false_or, or_false, true_or, or_true, not_true_eq_false, not_false_eq_true, Nat.reduceLeDiff, Nat.reduceLT, Nat.reduceAdd, Nat.reduceEqDiff, Nat.reduceMul, Nat.reduceSub, Value.category, Nat.zero_le, beq_self_eq_true]
          have hl5 : live2 oC (opO 5 oP w2) s (nI 0) g0 (nI 1) := by
            refine Or.inr ⟨?_, rfl⟩
            rcases h3 with ⟨rfl, rfl, rfl⟩ | ⟨d1, d2⟩
            · right
              cases w2 with
              | none => rfl
              | some v2 =>
                show (if 5 = 5 ∧ v2 = nI 0 then none else some (opv 5 p v2)) = none
                rw [if_pos ⟨rfl, by rw [← b3.1]; exact x0⟩]
            · rcases d1 with rfl | rfl
              · exact Or.inl rfl
              · exact Or.inr rfl
          obtain ⟨w, x, g', f1, f2, f3⟩ := ih (by omega) j2 _ _ j' c hj2 e4 hU oC _ s _ g0 (nI 1) (some (.int (nI 47))) h1 (valE_op (by omega) h2 b1) hl5 h4
          refine ⟨w, x, g', f1, ?_, f3⟩
          rw [← f2]
          simp (disch := omega) only [bX2_expression_16, kX2_expression_164, kX2_expression_148, kX2_expression_142, kX2_expression_132, kX2_expression_119, kX2_expression_16, kX2_expression_0, cl_40 h, tl_1 h, atI_1, hk, hop, atI_u1, b2, hq, e9, e_push, e_pushl, e_iload, e_lload, e_aload, e_istore, e_astore, e_lstore, e_iinc, e_iadd, e_isub, e_imul, e_iand, e_ior, e_ixor, e_ishl, e_ishr, e_iushr, e_idiv, e_irem, e_ladd, e_lsub, e_lmul, e_lcmp, e_mmax, e_mmin, e_i2l, e_l2i, e_i2b, e_i2c, e_dup, e_dup2, e_pop, e_icmp_eq, e_icmp_ne, e_icmp_lt, e_icmp_ge, e_icmp_gt, e_icmp_le, e_if_eq, e_if_ne, e_if_lt, e_if_ge, e_if_gt, e_if_le, e_getI, e_getR, e_putI, e_putZ, e_putR, e_iald, e_bald, e_zald, e_lald, e_aald, e_alen, e_iast, e_bast, e_zast, e_last, e_aast, e_iret, e_zret, e_lret, e_vret, e_obj, e_callV, e_callS, e_callT, e_acpy, e_ldcS, e_dn, e_ag, z_pop, List.getElem?_cons_zero, List.getElem?_cons_succ, List.set_cons_zero, List.set_cons_succ, List.length_cons, List.length_nil, z_nol, Option.map_some, Option.toList_some, Option.toList_none, List.cons_append, List.nil_append, n_lit, n_m1, n_m2, n_m1lt, n_m1le, n_rem, n_div, n_out, n_cl, n_eq, n_le, n_lt, n_add, n_mul, n_sub, n_nle, n_yle, n_nlt, n_ylt, n_neN, z_lay, z_sz, z_str, z_stI, z_stL, z_stR, eq_self, ↓reduceIte, true_and, and_true, and_self, false_and, and_false, or_self, false_or, or_false, true_or, or_true, not_true_eq_false, not_false_eq_true, Nat.reduceLeDiff, Nat.reduceLT, Nat.reduceAdd, Nat.reduceEqDiff, Nat.reduceMul, Nat.reduceSub, Value.category, Nat.zero_le, beq_self_eq_true]
        · have hq : fX2_quotient [.ref (B + 40), .int p, .int x2] (atI I B j2 g2, L, Z) = some (some (.int (p / x2)), (atI I B j2 g2, L, Z)) := by
            show kX2_quotient_0 [some (.ref ((B + 40))), some (.int (p)), some (.int (x2))] [] (atI I B j2 g2, L, Z) = _
            simp (disch := omega) only [kX2_quotient_0, x0, cl_40 h, e_push, e_pushl, e_iload, e_lload, e_aload, e_istore, e_astore, e_lstore, e_iinc, e_iadd, e_isub, e_imul, e_iand, e_ior, e_ixor, e_ishl, e_ishr, e_iushr, e_idiv, e_irem, e_ladd, e_lsub, e_lmul, e_lcmp, e_mmax, e_mmin, e_i2l, e_l2i, e_i2b, e_i2c, e_dup, e_dup2, e_pop, e_icmp_eq, e_icmp_ne, e_icmp_lt, e_icmp_ge, e_icmp_gt, e_icmp_le, e_if_eq, e_if_ne, e_if_lt, e_if_ge, e_if_gt, e_if_le, e_getI, e_getR, e_putI, e_putZ, e_putR, e_iald, e_bald, e_zald, e_lald, e_aald, e_alen, e_iast, e_bast, e_zast, e_last, e_aast, e_iret, e_zret, e_lret, e_vret, e_obj, e_callV, e_callS, e_callT, e_acpy, e_ldcS, e_dn, e_ag, z_pop, List.getElem?_cons_zero, List.getElem?_cons_succ, List.set_cons_zero, List.set_cons_succ, List.length_cons, List.length_nil, z_nol, Option.map_some, Option.toList_some, Option.toList_none, List.cons_append, List.nil_append, n_lit, n_m1, n_m2, n_m1lt, n_m1le, n_rem, n_div, n_out, n_cl, n_eq, n_le, n_lt, n_add, n_mul, n_sub, n_nle, n_yle, n_nlt, n_ylt, n_neN, z_lay, z_sz, z_str, z_stI, z_stL, z_stR, eq_self, ↓reduceIte, true_and, and_true, and_self, false_and, and_false, or_self, false_or, or_false, true_or, or_true, not_true_eq_false, not_false_eq_true, Nat.reduceLeDiff, Nat.reduceLT, Nat.reduceAdd, Nat.reduceEqDiff, Nat.reduceMul, Nat.reduceSub, Value.category, Nat.zero_le, beq_self_eq_true]
          have hl5 : live2 oC (opO 5 oP w2) s (p / x2) g0 g2 := by
            rcases h3 with ⟨rfl, rfl, rfl⟩ | ⟨d1, d2⟩
            · cases w2 with
              | none => exact Or.inr ⟨Or.inr rfl, b3⟩
              | some v2 =>
                refine Or.inl ⟨rfl, ?_, b3.2⟩
                show (if 5 = 5 ∧ v2 = nI 0 then none else some (opv 5 p v2)) = some (p / x2)
                rw [if_neg (fun z => x0 (by rw [b3.1]; exact z.2)), b3.1]
                rfl
            · refine Or.inr ⟨?_, dead d2⟩
              rcases d1 with rfl | rfl
              · exact Or.inl rfl
              · exact Or.inr rfl
          obtain ⟨w, x, g', f1, f2, f3⟩ := ih (by omega) j2 _ _ j' c hj2 e4 hU oC _ s _ g0 g2 (some (.int (nI 47))) h1 (valE_op (by omega) h2 b1) hl5 h4
          refine ⟨w, x, g', f1, ?_, f3⟩
          rw [← f2]
          simp (disch := omega) only [bX2_expression_16, kX2_expression_164, kX2_expression_148, kX2_expression_142, kX2_expression_132, kX2_expression_119, kX2_expression_16, kX2_expression_0, cl_40 h, tl_1 h, atI_1, hk, hop, atI_u1, b2, hq, e9, e_push, e_pushl, e_iload, e_lload, e_aload, e_istore, e_astore, e_lstore, e_iinc, e_iadd, e_isub, e_imul, e_iand, e_ior, e_ixor, e_ishl, e_ishr, e_iushr, e_idiv, e_irem, e_ladd, e_lsub, e_lmul, e_lcmp, e_mmax, e_mmin, e_i2l, e_l2i, e_i2b, e_i2c, e_dup, e_dup2, e_pop, e_icmp_eq, e_icmp_ne, e_icmp_lt, e_icmp_ge, e_icmp_gt, e_icmp_le, e_if_eq, e_if_ne, e_if_lt, e_if_ge, e_if_gt, e_if_le, e_getI, e_getR, e_putI, e_putZ, e_putR, e_iald, e_bald, e_zald, e_lald, e_aald, e_alen, e_iast, e_bast, e_zast, e_last, e_aast, e_iret, e_zret, e_lret, e_vret, e_obj, e_callV, e_callS, e_callT, e_acpy, e_ldcS, e_dn, e_ag, z_pop, List.getElem?_cons_zero, List.getElem?_cons_succ, List.set_cons_zero, List.set_cons_succ, List.length_cons, List.length_nil, z_nol, Option.map_some, Option.toList_some, Option.toList_none, List.cons_append, List.nil_append, n_lit, n_m1, n_m2, n_m1lt, n_m1le, n_rem, n_div, n_out, n_cl, n_eq, n_le, n_lt, n_add, n_mul, n_sub, n_nle, n_yle, n_nlt, n_ylt, n_neN, z_lay, z_sz, z_str, z_stI, z_stL, z_stR, eq_self, ↓reduceIte, true_and, and_true, and_self, false_and, and_false, or_self, false_or, or_false, true_or, or_true, not_true_eq_false, not_false_eq_true, Nat.reduceLeDiff, Nat.reduceLT, Nat.reduceAdd, Nat.reduceEqDiff, Nat.reduceMul, Nat.reduceSub, Value.category, Nat.zero_le, beq_self_eq_true]
def exOK (I : Nat → Nat → Int32) (L : Nat → Nat → Int64) (Z : zZ) (B tx : Nat) (vs : Nat → Int32) (f : zF) (o : Nat) (U : Nat → sR) : Prop := unOK I L Z B tx vs f o U
theorem ex_of_un {I : Nat → Nat → Int32} {L : Nat → Nat → Int64} {Z : zZ} {B tx sz o : Nat} {K W : Nat → Nat} {vs : Nat → Int32} {u : zF} {U : Nat → sR} (h : isCls Z B tx) (hT : tokC I L B tx K W sz) (hu : unOK I L Z B tx vs u o U) (hU : ∀ i j c, U i = (0, j, c) → j ≤ 400) : unOK I L Z B tx vs (z_fn 8 (kX2_expression_0 u)) o (sEx U K) := by
  intro i j c g he hg
  obtain ⟨h1, h2⟩ := sBind_ok he
  have h1' := pr3 h1
  obtain ⟨w2, x2, g2, b1, b2, b3⟩ := hu _ _ _ g h1' hg
  have hl : live2 (some (nI 0)) w2 (nI 0) x2 g g2 := by
    cases w2 with
    | none => exact Or.inr ⟨Or.inr rfl, b3⟩
    | some v => exact Or.inl ⟨rfl, by rw [b3.1], b3.2⟩
  obtain ⟨w, x, g', f1, f2, f3⟩ := ex_tail h hT hu 400 (Nat.le_refl _) _ none _ j c (hU _ _ _ h1') h2 hU _ _ _ _ g g2 none rfl b1 hl hg
  refine ⟨w, x, g', f1, ?_, f3⟩
  rw [← f2]
  show kX2_expression_0 u [some (.ref ((B + 40))), some (.ref ((B + (tx + 1)))), some (.int (nI (o))), none, none, none, none, none] [] (atI I B i g, L, Z) = _
  have e : (if sgn none = 3 then 1 else 0) = 0 := rfl
  simp (disch := omega) only [kX2_expression_164, kX2_expression_148, kX2_expression_142, kX2_expression_132, kX2_expression_119, kX2_expression_16, kX2_expression_0, cl_40 h, b2, e, e_push, e_pushl, e_iload, e_lload, e_aload, e_istore, e_astore, e_lstore, e_iinc, e_iadd, e_isub, e_imul, e_iand, e_ior, e_ixor, e_ishl, e_ishr, e_iushr, e_idiv, e_irem, e_ladd, e_lsub, e_lmul, e_lcmp, e_mmax, e_mmin, e_i2l, e_l2i, e_i2b, e_i2c, e_dup, e_dup2, e_pop, e_icmp_eq, e_icmp_ne, e_icmp_lt, e_icmp_ge, e_icmp_gt, e_icmp_le, e_if_eq, e_if_ne, e_if_lt, e_if_ge, e_if_gt, e_if_le, e_getI, e_getR, e_putI, e_putZ, e_putR, e_iald, e_bald, e_zald, e_lald, e_aald, e_alen, e_iast, e_bast, e_zast, e_last, e_aast, e_iret, e_zret, e_lret, e_vret, e_obj, e_callV, e_callS, e_callT, e_acpy, e_ldcS, e_dn, e_ag, z_pop, List.getElem?_cons_zero, List.getElem?_cons_succ, List.set_cons_zero, List.set_cons_succ, List.length_cons, List.length_nil, z_nol, Option.map_some, Option.toList_some, Option.toList_none, List.cons_append, List.nil_append, n_lit, n_m1, n_m2, n_m1lt, n_m1le, n_rem, n_div, n_out, n_cl, n_eq, n_le, n_lt, n_add, n_mul, n_sub, n_nle, n_yle, n_nlt, n_ylt, n_neN, z_lay, z_sz, z_str, z_stI, z_stL, z_stR, eq_self, ↓reduceIte, true_and, and_true, and_self, false_and, and_false, or_self, false_or, or_false, true_or, or_true, not_true_eq_false, not_false_eq_true, Nat.reduceLeDiff, Nat.reduceLT, Nat.reduceAdd, Nat.reduceEqDiff, Nat.reduceMul, Nat.reduceSub, Value.category, Nat.zero_le, beq_self_eq_true]
theorem un_leaf {I : Nat → Nat → Int32} {L : Nat → Nat → Int64} {Z : zZ} {B tx sz o i j : Nat} {c : List (Nat × Nat)} {K W : Nat → Nat} {vs : Nat → Int32} {f : zF} {g : Int32} (h : isCls Z B tx) (hT : tokC I L B tx K W sz) (hv : ∀ k, k < 9 → I (B + 41) k = vs k) (h40 : K i ≠ 40) (he : sLeaf K W i = (0, j, c)) (hg : g = nI 0 ∨ g = nI 1) :
    ∃ w x g', valE vs c w ∧ z_fn 5 (kX2_unit_0 f) [.ref (B + 40), .ref (B + (tx + 1)), .int (nI o)] (atI I B i g, L, Z) = some (some (.int x), (atI I B j g', L, Z)) ∧ evQ w x g g' := by
  have htx := h.1
  have hlt := hT.lt i
  unfold sLeaf at he
  split at he
  · rename_i q
    obtain ⟨a1, a2, a3⟩ := sAdv_ok he
    subst a2 a3
    have hs : i < sz := by
      rcases Nat.lt_or_ge i sz with z | z
      · exact z
      · rw [hT.2.2.2 i z] at q; omega
    have hk := p_kind (I := atI I B i g) (L := L) (i := i) h (hT.at htx) (by omega)
    have hval := p_value (I := atI I B i g) (L := L) (i := i) h (hT.at htx) (by omega)
    rw [if_pos hs, ((hT.2.2.1 i hs).2.2 q).1] at hval
    rw [q] at hk
    have hvar := p_isVar (k := 21) (by omega) (σ := (atI I B (i + 1) g, L, Z))
    rw [if_neg (by omega)] at hvar
    refine ⟨_, nI (W i), g, valE_lit vs _, ?_, ⟨rfl, rfl⟩⟩
    show kX2_unit_0 f [some (.ref ((B + 40))), some (.ref ((B + (tx + 1)))), some (.int (nI (o))), none, none] [] (atI I B i g, L, Z) = _
    simp (disch := omega) only [kX2_unit_83, kX2_unit_65, kX2_unit_0, cl_40 h, tl_1 h, atI_1, hk, hval, l2i_ofNat, atI_u1, hvar, e_push, e_pushl, e_iload, e_lload, e_aload, e_istore, e_astore, e_lstore, e_iinc, e_iadd, e_isub, e_imul, e_iand, e_ior, e_ixor, e_ishl, e_ishr, e_iushr, e_idiv, e_irem, e_ladd, e_lsub, e_lmul, e_lcmp, e_mmax, e_mmin, e_i2l, e_l2i, e_i2b, e_i2c, e_dup, e_dup2, e_pop, e_icmp_eq, e_icmp_ne, e_icmp_lt, e_icmp_ge, e_icmp_gt, e_icmp_le, e_if_eq, e_if_ne, e_if_lt, e_if_ge, e_if_gt, e_if_le, e_getI, e_getR, e_putI, e_putZ, e_putR, e_iald, e_bald, e_zald, e_lald, e_aald, e_alen, e_iast, e_bast, e_zast, e_last, e_aast, e_iret, e_zret, e_lret, e_vret, e_obj, e_callV, e_callS, e_callT, e_acpy, e_ldcS, e_dn, e_ag, z_pop, List.getElem?_cons_zero, List.getElem?_cons_succ, List.set_cons_zero, List.set_cons_succ, List.length_cons, List.length_nil, z_nol, Option.map_some, Option.toList_some, Option.toList_none, List.cons_append, List.nil_append, n_lit, n_m1, n_m2, n_m1lt, n_m1le, n_rem, n_div, n_out, n_cl, n_eq, n_le, n_lt, n_add, n_mul, n_sub, n_nle, n_yle, n_nlt, n_ylt, n_neN, z_lay, z_sz, z_str, z_stI, z_stL, z_stR, eq_self, ↓reduceIte, true_and, and_true, and_self, false_and, and_false, or_self, false_or, or_false, true_or, or_true, not_true_eq_false, not_false_eq_true, Nat.reduceLeDiff, Nat.reduceLT, Nat.reduceAdd, Nat.reduceEqDiff, Nat.reduceMul, Nat.reduceSub, Value.category, Nat.zero_le, beq_self_eq_true]
  · split at he
    · rename_i q0 q
      obtain ⟨a1, a2, a3⟩ := sAdv_ok he
      subst a2 a3
      have hk := p_kind (I := atI I B i g) (L := L) (i := i) h (hT.at htx) (by omega)
      have hval := p_value (I := atI I B i g) (L := L) (i := i) h (hT.at htx) (by omega)
      have hvar := p_isVar (k := K i) (by omega) (σ := (atI I B (i + 1) g, L, Z))
      rw [if_pos q] at hvar
      have v1 : atI I B (i + 1) g (B + 41) (K i - 11) = vs (K i - 11) := by rw [atI_off (by omega)]; exact hv _ (by omega)
      refine ⟨_, vs (K i - 11), g, valE_var vs _, ?_, ⟨rfl, rfl⟩⟩
      show kX2_unit_0 f [some (.ref ((B + 40))), some (.ref ((B + (tx + 1)))), some (.int (nI (o))), none, none] [] (atI I B i g, L, Z) = _
      simp (disch := omega) only [kX2_unit_83, kX2_unit_65, kX2_unit_0, cl_40 h, tl_1 h, cr_40_0 h, cl_41 h, atI_1, hk, hval, atI_u1, n_neN h40, hvar, v1, e_push, e_pushl, e_iload, e_lload, e_aload, e_istore, e_astore, e_lstore, e_iinc, e_iadd, e_isub, e_imul, e_iand, e_ior, e_ixor, e_ishl, e_ishr, e_iushr, e_idiv, e_irem, e_ladd, e_lsub, e_lmul, e_lcmp, e_mmax, e_mmin, e_i2l, e_l2i, e_i2b, e_i2c, e_dup, e_dup2, e_pop, e_icmp_eq, e_icmp_ne, e_icmp_lt, e_icmp_ge, e_icmp_gt, e_icmp_le, e_if_eq, e_if_ne, e_if_lt, e_if_ge, e_if_gt, e_if_le, e_getI, e_getR, e_putI, e_putZ, e_putR, e_iald, e_bald, e_zald, e_lald, e_aald, e_alen, e_iast, e_bast, e_zast, e_last, e_aast, e_iret, e_zret, e_lret, e_vret, e_obj, e_callV, e_callS, e_callT, e_acpy, e_ldcS, e_dn, e_ag, z_pop, List.getElem?_cons_zero, List.getElem?_cons_succ, List.set_cons_zero, List.set_cons_succ, List.length_cons, List.length_nil, z_nol, Option.map_some, Option.toList_some, Option.toList_none, List.cons_append, List.nil_append, n_lit, n_m1, n_m2, n_m1lt, n_m1le, n_rem, n_div, n_out, n_cl, n_eq, n_le, n_lt, n_add, n_mul, n_sub, n_nle, n_yle, n_nlt, n_ylt, n_neN, z_lay, z_sz, z_str, z_stI, z_stL, z_stR, eq_self, ↓reduceIte, true_and, and_true, and_self, false_and, and_false, or_self, false_or, or_false, true_or, or_true, not_true_eq_false, not_false_eq_true, Nat.reduceLeDiff, Nat.reduceLT, Nat.reduceAdd, Nat.reduceEqDiff, Nat.reduceMul, Nat.reduceSub, Value.category, Nat.zero_le, beq_self_eq_true]
    · cases he
theorem un_all {I : Nat → Nat → Int32} {L : Nat → Nat → Int64} {Z : zZ} {B tx sz : Nat} {K W : Nat → Nat} {vs : Nat → Int32} (h : isCls Z B tx) (hT : tokC I L B tx K W sz) (hv : ∀ k, k < 9 → I (B + 41) k = vs k) : ∀ m, m ≤ 6 → ∀ d, m ≤ d → unOK I L Z B tx vs (z_fn 5 (kX2_unit_0 (fX2_expression d))) (6 - m) (sUn K W m) := by
  intro m
  induction m with
  | zero =>
    intro hm d hd i j c g he hg
    rw [sUn] at he
    split at he
    · cases he
    · rename_i q
      exact un_leaf h hT hv q he hg
  | succ m ih =>
    intro hm d hd i j c g he hg
    rw [sUn] at he
    split at he
    · rename_i q
      have htx := h.1
      obtain ⟨d, rfl⟩ : ∃ d', d = d' + 1 := ⟨d - 1, by omega⟩
      obtain ⟨e1, e2⟩ := sBind_ok he
      obtain ⟨a1, a2, -⟩ := sAdv_ok (pr3 e1)
      obtain ⟨e3, e4⟩ := sBind_ok e2
      obtain ⟨e5, e6⟩ := sBind_ok e4
      obtain ⟨c1, c2, c3⟩ := sMust_ok (pr3 e5)
      have e3' := pr3 e3
      cases e6
      rw [c3]
      rw [a2] at e3' c2 ⊢
      have hex := ex_of_un h hT (ih (by omega) d (by omega)) (fun i j c z => (sUn_noEl m i j c z).2.1)
      obtain ⟨w, x, g', f1, f2, f3⟩ := hex _ _ _ g e3' hg
      refine ⟨w, x, g', f1, ?_, f3⟩
      have hk := p_kind (I := atI I B i g) (L := L) (i := i) h (hT.at htx) (by omega)
      have hval := p_value (I := atI I B i g) (L := L) (i := i) h (hT.at htx) (by omega)
      rw [q] at hk
      have f2' : fX2_expression (d + 1) [.ref (B + 40), .ref (B + (tx + 1)), .int (nI (6 - (m + 1) + 1))] (atI I B (i + 1) g, L, Z) = some (some (.int x), (atI I B (sEx (sUn K W m) K (i + 1)).2.1 g', L, Z)) := by
        rw [show 6 - (m + 1) + 1 = 6 - m by omega]
        exact f2
      show kX2_unit_0 (fX2_expression (d + 1)) [some (.ref ((B + 40))), some (.ref ((B + (tx + 1)))), some (.int (nI (6 - (m + 1)))), none, none] [] (atI I B i g, L, Z) = _
      generalize (sEx (sUn K W m) K (i + 1)).2.1 = j2 at *
      simp (disch := omega) only [kX2_unit_83, kX2_unit_65, kX2_unit_0, cl_40 h, tl_1 h, atI_1, hk, hval, atI_u1, f2', e_push, e_pushl, e_iload, e_lload, e_aload, e_istore, e_astore, e_lstore, e_iinc, e_iadd, e_isub, e_imul, e_iand, e_ior, e_ixor, e_ishl, e_ishr, e_iushr, e_idiv, e_irem, e_ladd, e_lsub, e_lmul, e_lcmp, e_mmax, e_mmin, e_i2l, e_l2i, e_i2b, e_i2c, e_dup, e_dup2, e_pop, e_icmp_eq, e_icmp_ne, e_icmp_lt, e_icmp_ge, e_icmp_gt, e_icmp_le, e_if_eq, e_if_ne, e_if_lt, e_if_ge, e_if_gt, e_if_le, e_getI, e_getR, e_putI, e_putZ, e_putR, e_iald, e_bald, e_zald, e_lald, e_aald, e_alen, e_iast, e_bast, e_zast, e_last, e_aast, e_iret, e_zret, e_lret, e_vret, e_obj, e_callV, e_callS, e_callT, e_acpy, e_ldcS, e_dn, e_ag, z_pop, List.getElem?_cons_zero, List.getElem?_cons_succ, List.set_cons_zero, List.set_cons_succ, List.length_cons, List.length_nil, z_nol, Option.map_some, Option.toList_some, Option.toList_none, List.cons_append, List.nil_append, n_lit, n_m1, n_m2, n_m1lt, n_m1le, n_rem, n_div, n_out, n_cl, n_eq, n_le, n_lt, n_add, n_mul, n_sub, n_nle, n_yle, n_nlt, n_ylt, n_neN, z_lay, z_sz, z_str, z_stI, z_stL, z_stR, eq_self, ↓reduceIte, true_and, and_true, and_self, false_and, and_false, or_self, false_or, or_false, true_or, or_true, not_true_eq_false, not_false_eq_true, Nat.reduceLeDiff, Nat.reduceLT, Nat.reduceAdd, Nat.reduceEqDiff, Nat.reduceMul, Nat.reduceSub, Value.category, Nat.zero_le, beq_self_eq_true]
    · rename_i q
      exact un_leaf h hT hv q he hg
theorem ex_all {I : Nat → Nat → Int32} {L : Nat → Nat → Int64} {Z : zZ} {B tx sz : Nat} {K W : Nat → Nat} {vs : Nat → Int32} (h : isCls Z B tx) (hT : tokC I L B tx K W sz) (hv : ∀ k, k < 9 → I (B + 41) k = vs k) : unOK I L Z B tx vs (fX2_expression 8) 0 (sE K W) :=
  ex_of_un h hT (un_all h hT hv 6 (by omega) 7 (by omega)) (fun i j c z => (sUn_noEl 6 i j c z).2.1)
