/-! which rows fit what was told -/
noncomputable def cntP (p : Nat → Prop) : Nat → Nat
  | 0 => 0
  | n + 1 => cntP p n + b01 (p n)
noncomputable def fcP (p : Nat → Prop) (f : Nat → Nat) (x : Nat) : Nat → Nat
  | 0 => 0
  | n + 1 => fcP p f x n + b01 (p n ∧ f n = x)
theorem b01_le (P : Prop) : b01 P ≤ 1 := by rcases b01_or P with h | h <;> omega
theorem cntP_le (p : Nat → Prop) : ∀ n, cntP p n ≤ n
  | 0 => Nat.le_refl 0
  | n + 1 => by
    have := cntP_le p n
    have := b01_le (p n)
    rw [cntP]
    omega
theorem fcP_le (p : Nat → Prop) (f : Nat → Nat) (x : Nat) : ∀ n, fcP p f x n ≤ n
  | 0 => Nat.le_refl 0
  | n + 1 => by
    have := fcP_le p f x n
    have := b01_le (p n ∧ f n = x)
    rw [fcP]
    omega
theorem cntP_0 {p : Nat → Prop} : ∀ {n : Nat}, cntP p n = 0 ↔ lsP p n = none
  | 0 => ⟨fun _ => rfl, fun _ => rfl⟩
  | n + 1 => by
    rw [cntP, lsP]
    rcases Classical.em (p n) with q | q
    · rw [b01_pos q, ifP_pos q]
      constructor
      · intro z; omega
      · intro z
        cases hq : lsP p n with
        | none => rw [hq] at z; cases z
        | some w => rw [hq] at z; cases z
    · rw [b01_neg q, ifP_neg q, Nat.add_zero, cntP_0 (n := n)]
      cases lsP p n with
      | none => exact ⟨fun _ => rfl, fun _ => rfl⟩
      | some w => exact ⟨fun z => (by cases z), fun z => (by cases z)⟩
def fitC (ch : Nat → Nat → Nat) (c : Nat → Nat) (l k : Nat) (td ts tc tb : Nat → Nat) : Prop := ∀ j, j < k → td j + ts j < l ∧ (tri ch c (td j) (ts j) = tc j ↔ tb j = 1)
theorem fitC_congr {ch : Nat → Nat → Nat} {c c' : Nat → Nat} {l k : Nat} {td ts tc tb : Nat → Nat} (h : ∀ i, i < l → c i = c' i) : fitC ch c l k td ts tc tb ↔ fitC ch c' l k td ts tc tb := by
  constructor
  · intro z j hj
    have := z j hj
    exact ⟨this.1, by rw [← tri_congr h _ _ this.1]; exact this.2⟩
  · intro z j hj
    have := z j hj
    exact ⟨this.1, by rw [tri_congr h _ _ this.1]; exact this.2⟩
def tldB (n : Nat) (td ts tc tb : Nat → Nat) : Prop := ∀ j, j < n → td j < 6 ∧ ts j < 6 ∧ tc j < 4 ∧ tb j < 2
def tldC (I : Nat → Nat → Int32) (a n : Nat) (td ts tc tb : Nat → Nat) : Prop := ∀ j, j < n → I a j = nI (td j) ∧ I (a + 1) j = nI (ts j) ∧ I (a + 2) j = nI (tc j) ∧ I (a + 3) j = nI (tb j)
theorem wTold.fn {I : Nat → Nat → Int32} {B nc : Nat} (h : wTold I B nc) (h4 : nc ≤ 4) : ∃ n td ts tc tb, n ≤ 20 ∧ I (B + 191) 0 = nI n ∧ I (B + 200) 66 = nI n ∧ tldB n td ts tc tb ∧ tldC I (B + 192) n td ts tc tb ∧ tldC I (B + 200 + 43) n td ts tc tb := by
  obtain ⟨n, h1, h2, h3, h5⟩ := h
  have key : ∀ j, j < n → ((I (B + 192) j).toNatClampNeg < 6 ∧ (I (B + 193) j).toNatClampNeg < 6 ∧ (I (B + 194) j).toNatClampNeg < 4 ∧ (I (B + 195) j).toNatClampNeg < 2) ∧ (I (B + 192) j = nI (I (B + 192) j).toNatClampNeg ∧ I (B + 193) j = nI (I (B + 193) j).toNatClampNeg ∧ I (B + 194) j = nI (I (B + 194) j).toNatClampNeg ∧ I (B + 195) j = nI (I (B + 195) j).toNatClampNeg) ∧ (I (B + 200 + 43) j = nI (I (B + 192) j).toNatClampNeg ∧ I (B + 200 + 44) j = nI (I (B + 193) j).toNatClampNeg ∧ I (B + 200 + 45) j = nI (I (B + 194) j).toNatClampNeg ∧ I (B + 200 + 46) j = nI (I (B + 195) j).toNatClampNeg) := by
    intro j hj
    obtain ⟨d, i, c, b, a1, a2, a3, a4, b1, b2, b3, b4, b5, b6, b7, b8⟩ := h5 j hj
    rw [b1, b2, b3, b4, b5, b6, b7, b8, n_cl (by omega), n_cl (by omega), n_cl (by omega), n_cl (by omega)]
    exact ⟨⟨a1, a2, by omega, a4⟩, ⟨rfl, rfl, rfl, rfl⟩, rfl, rfl, rfl, rfl⟩
  exact ⟨n, fun j => (I (B + 192) j).toNatClampNeg, fun j => (I (B + 193) j).toNatClampNeg, fun j => (I (B + 194) j).toNatClampNeg, fun j => (I (B + 195) j).toNatClampNeg, h1, h2, h3, fun j hj => (key j hj).1, fun j hj => (key j hj).2.1, fun j hj => (key j hj).2.2⟩
theorem out_ge {a n : Nat} (h : n ≤ a) (ha : a < 2147483648) : outN (nI a) n := Or.inr (by rw [n_le (by omega) ha]; exact h)
theorem p_isFit {I : Nat → Nat → Int32} {L : Nat → Nat → Int64} {Z : zZ} {B tx n k l : Nat} {ch : Nat → Nat → Nat} {c td ts tc tb : Nat → Nat} (h : isCls Z B tx) (hn : n ≤ 20) (hk : k ≤ n) (hl : l ≤ 6) (hb : tldB n td ts tc tb) (hD : tldC I (B + 192) n td ts tc tb) (hC : trI I (B + 196) (B + 197) l ch c) (htri : ∀ d i, d + i < l → tri ch c d i < 4) : fX9_isFit [.ref (B + 191), .int (nI k)] (I, L, Z) = some (some (.int (nI (b01 (fitC ch c l k td ts tc tb)))), (I, L, Z)) := by
  unfold fitC
  rw [← ifP_01]
  show kX9_isFit_0 [some (Value.ref (B + 191)), some (Value.int (nI (k))), none] [] (I, L, Z) = _
  simp (disch := omega) only [kX9_isFit_0, kX9_isFit_2, e_push, e_pushl, e_iload, e_lload, e_aload, e_istore, e_astore, e_lstore, e_iinc, e_iadd, e_isub, e_imul, e_iand, e_ior, e_ixor, e_ishl, e_ishr, e_iushr, e_idiv, e_irem, e_ladd, e_lsub, e_lmul, e_lcmp, e_mmax, e_mmin, e_i2l, e_l2i, e_i2b, e_i2c, e_dup, e_dup2, e_pop, e_icmp_eq, e_icmp_ne, e_icmp_lt, e_icmp_ge, e_icmp_gt, e_icmp_le, e_if_eq, e_if_ne, e_if_lt, e_if_ge, e_if_gt, e_if_le, e_getI, e_getR, e_putI, e_putZ, e_putR, e_iald, e_bald, e_zald, e_lald, e_aald, e_alen, e_iast, e_bast, e_zast, e_last, e_aast, e_iret, e_zret, e_lret, e_vret, e_obj, e_callV, e_callS, e_callT, e_acpy, e_ldcS, e_dn, e_ag, z_pop, List.getElem?_cons_zero, List.getElem?_cons_succ, List.set_cons_zero, List.set_cons_succ, List.length_cons, List.length_nil, z_nol, Option.map_some, Option.toList_some, Option.toList_none, List.cons_append, List.nil_append, n_lit, n_m1, n_m2, n_m1lt, n_m1le, n_rem, n_div, n_out, n_cl, n_eq, n_le, n_lt, n_add, n_mul, n_sub, n_nle, n_yle, n_nlt, n_ylt, n_neN, z_lay, z_sz, z_str, z_stI, z_stL, z_stR, eq_self, ↓reduceIte, true_and, and_true, and_self, false_and, and_false, or_self, false_or, or_false, true_or, or_true, not_true_eq_false, not_false_eq_true, Nat.reduceLeDiff, Nat.reduceLT, Nat.reduceAdd, Nat.reduceEqDiff, Nat.reduceMul, Nat.reduceSub, Value.category, Nat.zero_le, beq_self_eq_true]
  refine lp_allP (fun j ls => ls = [some (Value.ref (B + 191)), some (Value.int (nI (k))), some (Value.int (nI (j)))]) k (fun j => td j + ts j < l ∧ (tri ch c (td j) (ts j) = tc j ↔ tb j = 1)) rfl ?_ ?_ ?_
  · rintro ls rfl
    simp (disch := omega) only [bX9_isFit_2, kX9_isFit_81, e_push, e_pushl, e_iload, e_lload, e_aload, e_istore, e_astore, e_lstore, e_iinc, e_iadd, e_isub, e_imul, e_iand, e_ior, e_ixor, e_ishl, e_ishr, e_iushr, e_idiv, e_irem, e_ladd, e_lsub, e_lmul, e_lcmp, e_mmax, e_mmin, e_i2l, e_l2i, e_i2b, e_i2c, e_dup, e_dup2, e_pop, e_icmp_eq, e_icmp_ne, e_icmp_lt, e_icmp_ge, e_icmp_gt, e_icmp_le, e_if_eq, e_if_ne, e_if_lt, e_if_ge, e_if_gt, e_if_le, e_getI, e_getR, e_putI, e_putZ, e_putR, e_iald, e_bald, e_zald, e_lald, e_aald, e_alen, e_iast, e_bast, e_zast, e_last, e_aast, e_iret, e_zret, e_lret, e_vret, e_obj, e_callV, e_callS, e_callT, e_acpy, e_ldcS, e_dn, e_ag, z_pop, List.getElem?_cons_zero, List.getElem?_cons_succ, List.set_cons_zero, List.set_cons_succ, List.length_cons, List.length_nil, z_nol, Option.map_some, Option.toList_some, Option.toList_none, List.cons_append, List.nil_append, n_lit, n_m1, n_m2, n_m1lt, n_m1le, n_rem, n_div, n_out, n_cl, n_eq, n_le, n_lt, n_add, n_mul, n_sub, n_nle, n_yle, n_nlt, n_ylt, n_neN, z_lay, z_sz, z_str, z_stI, z_stL, z_stR, eq_self, ↓reduceIte, true_and, and_true, and_self, false_and, and_false, or_self, false_or, or_false, true_or, or_true, not_true_eq_false, not_false_eq_true, Nat.reduceLeDiff, Nat.reduceLT, Nat.reduceAdd, Nat.reduceEqDiff, Nat.reduceMul, Nat.reduceSub, Value.category, Nat.zero_le, beq_self_eq_true]
  · rintro j hj hp ls rfl
    obtain ⟨b1, b2, b3, b4⟩ := hb j (by omega)
    obtain ⟨d1, d2, d3, d4⟩ := hD j (by omega)
    have a1 := p_has_yes (I := I) (L := L) (d := td j) (i := ts j) (cg_196 h) hC.1 (by omega) hp.1
    have a2 := p_cell (I := I) (L := L) (d := td j) (i := ts j) (cg_196 h) (by omega) (by omega)
    rw [hC.2 _ _ hp.1] at a2
    have t1 := htri _ _ hp.1
    refine ⟨_, ?_, rfl⟩
    by_cases q : tri ch c (td j) (ts j) = tc j
    · have q2 := hp.2.mp q
      rw [q] at a2
      rw [q2] at d4
      simp (disch := omega) only [bX9_isFit_2, kX9_isFit_64, cl_191 h, cr_191_3 h, cr_191_4 h, cr_191_5 h, cr_191_6 h, cr_191_7 h, cl_192 h, cl_193 h, cl_194 h, cl_195 h, cl_196 h, d1, d2, d3, d4, a1, a2, e_push, e_pushl, e_iload, e_lload, e_aload, e_istore, e_astore, e_lstore, e_iinc, e_iadd, e_isub, e_imul, e_iand, e_ior, e_ixor, e_ishl, e_ishr, e_iushr, e_idiv, e_irem, e_ladd, e_lsub, e_lmul, e_lcmp, e_mmax, e_mmin, e_i2l, e_l2i, e_i2b, e_i2c, e_dup, e_dup2, e_pop, e_icmp_eq, e_icmp_ne, e_icmp_lt, e_icmp_ge, e_icmp_gt, e_icmp_le, e_if_eq, e_if_ne, e_if_lt, e_if_ge, e_if_gt, e_if_le, e_getI, e_getR, e_putI, e_putZ, e_putR, e_iald, e_bald, e_zald, e_lald, e_aald, e_alen, e_iast, e_bast, e_zast, e_last, e_aast, e_iret, e_zret, e_lret, e_vret, e_obj, e_callV, e_callS, e_callT, e_acpy, e_ldcS, e_dn, e_ag, z_pop, List.getElem?_cons_zero, List.getElem?_cons_succ, List.set_cons_zero, List.set_cons_succ, List.length_cons, List.length_nil, z_nol, Option.map_some, Option.toList_some, Option.toList_none, List.cons_append, List.nil_append, n_lit, n_m1, n_m2, n_m1lt, n_m1le, n_rem, n_div, n_out, n_cl, n_eq, n_le, n_lt, n_add, n_mul, n_sub, n_nle, n_yle, n_nlt, n_ylt, n_neN, z_lay, z_sz, z_str, z_stI, z_stL, z_stR, eq_self, ↓reduceIte, true_and, and_true, and_self, false_and, and_false, or_self, false_or, or_false, true_or, or_true, not_true_eq_false, not_false_eq_true, Nat.reduceLeDiff, Nat.reduceLT, Nat.reduceAdd, Nat.reduceEqDiff, Nat.reduceMul, Nat.reduceSub, Value.category, Nat.zero_le, beq_self_eq_true]
    · have q2 : tb j = 0 := by
        have : ¬ tb j = 1 := fun z => q (hp.2.mpr z)
        omega
      rw [q2] at d4
      simp (disch := omega) only [bX9_isFit_2, kX9_isFit_64, cl_191 h, cr_191_3 h, cr_191_4 h, cr_191_5 h, cr_191_6 h, cr_191_7 h, cl_192 h, cl_193 h, cl_194 h, cl_195 h, cl_196 h, d1, d2, d3, d4, a1, a2, q, e_push, e_pushl, e_iload, e_lload, e_aload, e_istore, e_astore, e_lstore, e_iinc, e_iadd, e_isub, e_imul, e_iand, e_ior, e_ixor, e_ishl, e_ishr, e_iushr, e_idiv, e_irem, e_ladd, e_lsub, e_lmul, e_lcmp, e_mmax, e_mmin, e_i2l, e_l2i, e_i2b, e_i2c, e_dup, e_dup2, e_pop, e_icmp_eq, e_icmp_ne, e_icmp_lt, e_icmp_ge, e_icmp_gt, e_icmp_le, e_if_eq, e_if_ne, e_if_lt, e_if_ge, e_if_gt, e_if_le, e_getI, e_getR, e_putI, e_putZ, e_putR, e_iald, e_bald, e_zald, e_lald, e_aald, e_alen, e_iast, e_bast, e_zast, e_last, e_aast, e_iret, e_zret, e_lret, e_vret, e_obj, e_callV, e_callS, e_callT, e_acpy, e_ldcS, e_dn, e_ag, z_pop, List.getElem?_cons_zero, List.getElem?_cons_succ, List.set_cons_zero, List.set_cons_succ, List.length_cons, List.length_nil, z_nol, Option.map_some, Option.toList_some, Option.toList_none, List.cons_append, List.nil_append, n_lit, n_m1, n_m2, n_m1lt, n_m1le, n_rem, n_div, n_out, n_cl, n_eq, n_le, n_lt, n_add, n_mul, n_sub, n_nle, n_yle, n_nlt, n_ylt, n_neN, z_lay, z_sz, z_str, z_stI, z_stL, z_stR, eq_self, ↓reduceIte, true_and, and_true, and_self, false_and, and_false, or_self, false_or, or_false, true_or, or_true, not_true_eq_false, not_false_eq_true, Nat.reduceLeDiff, Nat.reduceLT, Nat.reduceAdd, Nat.reduceEqDiff, Nat.reduceMul, Nat.reduceSub, Value.category, Nat.zero_le, beq_self_eq_true]
  · rintro j hj hp ls rfl
    obtain ⟨b1, b2, b3, b4⟩ := hb j (by omega)
    obtain ⟨d1, d2, d3, d4⟩ := hD j (by omega)
    by_cases q0 : td j + ts j < l
    · have a1 := p_has_yes (I := I) (L := L) (d := td j) (i := ts j) (cg_196 h) hC.1 (by omega) q0
      have a2 := p_cell (I := I) (L := L) (d := td j) (i := ts j) (cg_196 h) (by omega) (by omega)
      rw [hC.2 _ _ q0] at a2
      have t1 := htri _ _ q0
      by_cases q : tri ch c (td j) (ts j) = tc j
      · have q2 : tb j = 0 := by
          have : ¬ tb j = 1 := fun z => hp ⟨q0, fun _ => z, fun _ => q⟩
          omega
        rw [q] at a2
        rw [q2] at d4
        simp (disch := omega) only [bX9_isFit_2, kX9_isFit_64, kX9_isFit_73, cl_191 h, cr_191_3 h, cr_191_4 h, cr_191_5 h, cr_191_6 h, cr_191_7 h, cl_192 h, cl_193 h, cl_194 h, cl_195 h, cl_196 h, d1, d2, d3, d4, a1, a2, e_push, e_pushl, e_iload, e_lload, e_aload, e_istore, e_astore, e_lstore, e_iinc, e_iadd, e_isub, e_imul, e_iand, e_ior, e_ixor, e_ishl, e_ishr, e_iushr, e_idiv, e_irem, e_ladd, e_lsub, e_lmul, e_lcmp, e_mmax, e_mmin, e_i2l, e_l2i, e_i2b, e_i2c, e_dup, e_dup2, e_pop, e_icmp_eq, e_icmp_ne, e_icmp_lt, e_icmp_ge, e_icmp_gt, e_icmp_le, e_if_eq, e_if_ne, e_if_lt, e_if_ge, e_if_gt, e_if_le, e_getI, e_getR, e_putI, e_putZ, e_putR, e_iald, e_bald, e_zald, e_lald, e_aald, e_alen, e_iast, e_bast, e_zast, e_last, e_aast, e_iret, e_zret, e_lret, e_vret, e_obj, e_callV, e_callS, e_callT, e_acpy, e_ldcS, e_dn, e_ag, z_pop, List.getElem?_cons_zero, List.getElem?_cons_succ, List.set_cons_zero, List.set_cons_succ, List.length_cons, List.length_nil, z_nol, Option.map_some, Option.toList_some, Option.toList_none, List.cons_append, List.nil_append, n_lit, n_m1, n_m2, n_m1lt, n_m1le, n_rem, n_div, n_out, n_cl, n_eq, n_le, n_lt, n_add, n_mul, n_sub, n_nle, n_yle, n_nlt, n_ylt, n_neN, z_lay, z_sz, z_str, z_stI, z_stL, z_stR, eq_self, ↓reduceIte, true_and, and_true, and_self, false_and, and_false, or_self, false_or, or_false, true_or, or_true, not_true_eq_false, not_false_eq_true, Nat.reduceLeDiff, Nat.reduceLT, Nat.reduceAdd, Nat.reduceEqDiff, Nat.reduceMul, Nat.reduceSub, Value.category, Nat.zero_le, beq_self_eq_true]
      · have q2 : tb j = 1 := Classical.byContradiction fun z => hp ⟨q0, fun y => absurd y q, fun y => absurd y z⟩
        rw [q2] at d4
        simp (disch := omega) only [bX9_isFit_2, kX9_isFit_64, kX9_isFit_73, cl_191 h, cr_191_3 h, cr_191_4 h, cr_191_5 h, cr_191_6 h, cr_191_7 h, cl_192 h, cl_193 h, cl_194 h, cl_195 h, cl_196 h, d1, d2, d3, d4, a1, a2, q, e_push, e_pushl, e_iload, e_lload, e_aload, e_istore, e_astore, e_lstore, e_iinc, e_iadd, e_isub, e_imul, e_iand, e_ior, e_ixor, e_ishl, e_ishr, e_iushr, e_idiv, e_irem, e_ladd, e_lsub, e_lmul, e_lcmp, e_mmax, e_mmin, e_i2l, e_l2i, e_i2b, e_i2c, e_dup, e_dup2, e_pop, e_icmp_eq, e_icmp_ne, e_icmp_lt, e_icmp_ge, e_icmp_gt, e_icmp_le, e_if_eq, e_if_ne, e_if_lt, e_if_ge, e_if_gt, e_if_le, e_getI, e_getR, e_putI, e_putZ, e_putR, e_iald, e_bald, e_zald, e_lald, e_aald, e_alen, e_iast, e_bast, e_zast, e_last, e_aast, e_iret, e_zret, e_lret, e_vret, e_obj, e_callV, e_callS, e_callT, e_acpy, e_ldcS, e_dn, e_ag, z_pop, List.getElem?_cons_zero, List.getElem?_cons_succ, List.set_cons_zero, List.set_cons_succ, List.length_cons, List.length_nil, z_nol, Option.map_some, Option.toList_some, Option.toList_none, List.cons_append, List.nil_append, n_lit, n_m1, n_m2, n_m1lt, n_m1le, n_rem, n_div, n_out, n_cl, n_eq, n_le, n_lt, n_add, n_mul, n_sub, n_nle, n_yle, n_nlt, n_ylt, n_neN, z_lay, z_sz, z_str, z_stI, z_stL, z_stR, eq_self, ↓reduceIte, true_and, and_true, and_self, false_and, and_false, or_self, false_or, or_false, true_or, or_true, not_true_eq_false, not_false_eq_true, Nat.reduceLeDiff, Nat.reduceLT, Nat.reduceAdd, Nat.reduceEqDiff, Nat.reduceMul, Nat.reduceSub, Value.category, Nat.zero_le, beq_self_eq_true]
    · have a1 : fX10_has [.ref (B + 196), .int (nI (td j)), .int (nI (ts j))] (I, L, Z) = some (some (.int (nI 0)), (I, L, Z)) := by
        by_cases q1 : td j < l
        · exact p_has_no2 (cg_196 h) hC.1 (by omega) q1 (out_ge (by omega) (by omega))
        · exact p_has_no1 (cg_196 h) hC.1 (out_ge (by omega) (by omega))
      simp (disch := omega) only [bX9_isFit_2, kX9_isFit_29, cl_191 h, cr_191_3 h, cr_191_4 h, cr_191_7 h, cl_192 h, cl_193 h, cl_196 h, d1, d2, a1, e_push, e_pushl, e_iload, e_lload, e_aload, e_istore, e_astore, e_lstore, e_iinc, e_iadd, e_isub, e_imul, e_iand, e_ior, e_ixor, e_ishl, e_ishr, e_iushr, e_idiv, e_irem, e_ladd, e_lsub, e_lmul, e_lcmp, e_mmax, e_mmin, e_i2l, e_l2i, e_i2b, e_i2c, e_dup, e_dup2, e_pop, e_icmp_eq, e_icmp_ne, e_icmp_lt, e_icmp_ge, e_icmp_gt, e_icmp_le, e_if_eq, e_if_ne, e_if_lt, e_if_ge, e_if_gt, e_if_le, e_getI, e_getR, e_putI, e_putZ, e_putR, e_iald, e_bald, e_zald, e_lald, e_aald, e_alen, e_iast, e_bast, e_zast, e_last, e_aast, e_iret, e_zret, e_lret, e_vret, e_obj, e_callV, e_callS, e_callT, e_acpy, e_ldcS, e_dn, e_ag, z_pop, List.getElem?_cons_zero, List.getElem?_cons_succ, List.set_cons_zero, List.set_cons_succ, List.length_cons, List.length_nil, z_nol, Option.map_some, Option.toList_some, Option.toList_none, List.cons_append, List.nil_append, n_lit, n_m1, n_m2, n_m1lt, n_m1le, n_rem, n_div, n_out, n_cl, n_eq, n_le, n_lt, n_add, n_mul, n_sub, n_nle, n_yle, n_nlt, n_ylt, n_neN, z_lay, z_sz, z_str, z_stI, z_stL, z_stR, eq_self, ↓reduceIte, true_and, and_true, and_self, false_and, and_false, or_self, false_or, or_false, true_or, or_true, not_true_eq_false, not_false_eq_true, Nat.reduceLeDiff, Nat.reduceLT, Nat.reduceAdd, Nat.reduceEqDiff, Nat.reduceMul, Nat.reduceSub, Value.category, Nat.zero_le, beq_self_eq_true]
theorem r_doesFit {I : Nat → Nat → Int32} {L : Nat → Nat → Int64} {Z : zZ} {B lv nc n k l v : Nat} {ch : Nat → Nat → Nat} {td ts tc tb : Nat → Nat} (h : isMod Z (B + 200)) (hT : refTab I (B + 200) lv nc ch) (hn : n ≤ 20) (hk : k ≤ n) (h1 : 1 ≤ l) (hl : l ≤ 6) (hv : v < 2147483648) (hb : tldB n td ts tc tb) (hD : tldC I (B + 200 + 43) n td ts tc tb) :
    ∃ J, fX12_doesFit [.ref (B + 200), .int (nI v), .int (nI k), .int (nI l)] (I, L, Z) = some (some (.int (nI (b01 (fitC ch (dig nc l v) l k td ts tc tb)))), (J, L, Z)) ∧ laidI J (B + 200) l ch (dig nc l v) ∧ rLay I J B := by
  have h2 := hT.2.2.2.1
  have h4 := hT.2.2.2.2.1
  obtain ⟨J, a1, a2, a3⟩ := r_laysNumber (I := I) (L := L) (v := v) h hT (by omega) h1 hv
  have htri : ∀ d i, d + i < l → tri ch (dig nc l v) d i < 4 := tri_lt (fun a b ha hb => (hT.2.2.2.2.2 a b ha hb).1) (fun i _ => Nat.lt_of_lt_of_le (dig_lt (by omega)) h4)
  have hDJ : tldC J (B + 200 + 43) n td ts tc tb := fun j hj => by
    have := hD j hj
    rw [a3.1 _ (by omega) (by omega), a3.1 _ (by omega) (by omega), a3.1 _ (by omega) (by omega), a3.1 _ (by omega) (by omega)]
    exact this
  refine ⟨J, ?_, a2, a3⟩
  unfold fitC
  rw [← ifP_01]
  show kX12_doesFit_0 [some (Value.ref (B + 200)), some (Value.int (nI (v))), some (Value.int (nI (k))), some (Value.int (nI (l))), none] [] (I, L, Z) = _
  simp (disch := omega) only [kX12_doesFit_0, kX12_doesFit_9, h.1, a1, e_push, e_pushl, e_iload, e_lload, e_aload, e_istore, e_astore, e_lstore, e_iinc, e_iadd, e_isub, e_imul, e_iand, e_ior, e_ixor, e_ishl, e_ishr, e_iushr, e_idiv, e_irem, e_ladd, e_lsub, e_lmul, e_lcmp, e_mmax, e_mmin, e_i2l, e_l2i, e_i2b, e_i2c, e_dup, e_dup2, e_pop, e_icmp_eq, e_icmp_ne, e_icmp_lt, e_icmp_ge, e_icmp_gt, e_icmp_le, e_if_eq, e_if_ne, e_if_lt, e_if_ge, e_if_gt, e_if_le, e_getI, e_getR, e_putI, e_putZ, e_putR, e_iald, e_bald, e_zald, e_lald, e_aald, e_alen, e_iast, e_bast, e_zast, e_last, e_aast, e_iret, e_zret, e_lret, e_vret, e_obj, e_callV, e_callS, e_callT, e_acpy, e_ldcS, e_dn, e_ag, z_pop, List.getElem?_cons_zero, List.getElem?_cons_succ, List.set_cons_zero, List.set_cons_succ, List.length_cons, List.length_nil, z_nol, Option.map_some, Option.toList_some, Option.toList_none, List.cons_append, List.nil_append, n_lit, n_m1, n_m2, n_m1lt, n_m1le, n_rem, n_div, n_out, n_cl, n_eq, n_le, n_lt, n_add, n_mul, n_sub, n_nle, n_yle, n_nlt, n_ylt, n_neN, z_lay, z_sz, z_str, z_stI, z_stL, z_stR, eq_self, ↓reduceIte, true_and, and_true, and_self, false_and, and_false, or_self, false_or, or_false, true_or, or_true, not_true_eq_false, not_false_eq_true, Nat.reduceLeDiff, Nat.reduceLT, Nat.reduceAdd, Nat.reduceEqDiff, Nat.reduceMul, Nat.reduceSub, Value.category, Nat.zero_le, beq_self_eq_true]
  refine lp_allP (fun j ls => ls = [some (Value.ref (B + 200)), some (Value.int (nI (v))), some (Value.int (nI (k))), some (Value.int (nI (l))), some (Value.int (nI (j)))]) k (fun j => td j + ts j < l ∧ (tri ch (dig nc l v) (td j) (ts j) = tc j ↔ tb j = 1)) rfl ?_ ?_ ?_
  · rintro ls rfl
    simp (disch := omega) only [bX12_doesFit_9, kX12_doesFit_89, e_push, e_pushl, e_iload, e_lload, e_aload, e_istore, e_astore, e_lstore, e_iinc, e_iadd, e_isub, e_imul, e_iand, e_ior, e_ixor, e_ishl, e_ishr, e_iushr, e_idiv, e_irem, e_ladd, e_lsub, e_lmul, e_lcmp, e_mmax, e_mmin, e_i2l, e_l2i, e_i2b, e_i2c, e_dup, e_dup2, e_pop, e_icmp_eq, e_icmp_ne, e_icmp_lt, e_icmp_ge, e_icmp_gt, e_icmp_le, e_if_eq, e_if_ne, e_if_lt, e_if_ge, e_if_gt, e_if_le, e_getI, e_getR, e_putI, e_putZ, e_putR, e_iald, e_bald, e_zald, e_lald, e_aald, e_alen, e_iast, e_bast, e_zast, e_last, e_aast, e_iret, e_zret, e_lret, e_vret, e_obj, e_callV, e_callS, e_callT, e_acpy, e_ldcS, e_dn, e_ag, z_pop, List.getElem?_cons_zero, List.getElem?_cons_succ, List.set_cons_zero, List.set_cons_succ, List.length_cons, List.length_nil, z_nol, Option.map_some, Option.toList_some, Option.toList_none, List.cons_append, List.nil_append, n_lit, n_m1, n_m2, n_m1lt, n_m1le, n_rem, n_div, n_out, n_cl, n_eq, n_le, n_lt, n_add, n_mul, n_sub, n_nle, n_yle, n_nlt, n_ylt, n_neN, z_lay, z_sz, z_str, z_stI, z_stL, z_stR, eq_self, ↓reduceIte, true_and, and_true, and_self, false_and, and_false, or_self, false_or, or_false, true_or, or_true, not_true_eq_false, not_false_eq_true, Nat.reduceLeDiff, Nat.reduceLT, Nat.reduceAdd, Nat.reduceEqDiff, Nat.reduceMul, Nat.reduceSub, Value.category, Nat.zero_le, beq_self_eq_true]
  · rintro j hj hp ls rfl
    obtain ⟨b1, b2, b3, b4⟩ := hb j (by omega)
    obtain ⟨d1, d2, d3, d4⟩ := hDJ j (by omega)
    have a4 := r_inside_yes (I := J) (L := L) (d := td j) (i := ts j) h a2.1 (by omega) hp.1
    have a5 := r_laidAt (I := J) (L := L) (d := td j) (i := ts j) h (by omega) (by omega)
    rw [a2.2 _ _ hp.1] at a5
    have t1 := htri _ _ hp.1
    refine ⟨_, ?_, rfl⟩
    by_cases q : tri ch (dig nc l v) (td j) (ts j) = tc j
    · have q2 := hp.2.mp q
      rw [q] at a5
      rw [q2] at d4
      simp (disch := omega) only [bX12_doesFit_9, kX12_doesFit_71, h.1, mr_toldDepth h, ml_toldDepth h, mr_toldSeat h, ml_toldSeat h, mr_toldColour h, ml_toldColour h, mr_toldSo h, ml_toldSo h, d1, d2, d3, d4, a4, a5, e_push, e_pushl, e_iload, e_lload, e_aload, e_istore, e_astore, e_lstore, e_iinc, e_iadd, e_isub, e_imul, e_iand, e_ior, e_ixor, e_ishl, e_ishr, e_iushr, e_idiv, e_irem, e_ladd, e_lsub, e_lmul, e_lcmp, e_mmax, e_mmin, e_i2l, e_l2i, e_i2b, e_i2c, e_dup, e_dup2, e_pop, e_icmp_eq, e_icmp_ne, e_icmp_lt, e_icmp_ge, e_icmp_gt, e_icmp_le, e_if_eq, e_if_ne, e_if_lt, e_if_ge, e_if_gt, e_if_le, e_getI, e_getR, e_putI, e_putZ, e_putR, e_iald, e_bald, e_zald, e_lald, e_aald, e_alen, e_iast, e_bast, e_zast, e_last, e_aast, e_iret, e_zret, e_lret, e_vret, e_obj, e_callV, e_callS, e_callT, e_acpy, e_ldcS, e_dn, e_ag, z_pop, List.getElem?_cons_zero, List.getElem?_cons_succ, List.set_cons_zero, List.set_cons_succ, List.length_cons, List.length_nil, z_nol, Option.map_some, Option.toList_some, Option.toList_none, List.cons_append, List.nil_append, n_lit, n_m1, n_m2, n_m1lt, n_m1le, n_rem, n_div, n_out, n_cl, n_eq, n_le, n_lt, n_add, n_mul, n_sub, n_nle, n_yle, n_nlt, n_ylt, n_neN, z_lay, z_sz, z_str, z_stI, z_stL, z_stR, eq_self, ↓reduceIte, true_and, and_true, and_self, false_and, and_false, or_self, false_or, or_false, true_or, or_true, not_true_eq_false, not_false_eq_true, Nat.reduceLeDiff, Nat.reduceLT, Nat.reduceAdd, Nat.reduceEqDiff, Nat.reduceMul, Nat.reduceSub, Value.category, Nat.zero_le, beq_self_eq_true]
    · have q2 : tb j = 0 := by
        have : ¬ tb j = 1 := fun z => q (hp.2.mpr z)
        omega
      rw [q2] at d4
      simp (disch := omega) only [bX12_doesFit_9, kX12_doesFit_71, h.1, mr_toldDepth h, ml_toldDepth h, mr_toldSeat h, ml_toldSeat h, mr_toldColour h, ml_toldColour h, mr_toldSo h, ml_toldSo h, d1, d2, d3, d4, a4, a5, q, e_push, e_pushl, e_iload, e_lload, e_aload, e_istore, e_astore, e_lstore, e_iinc, e_iadd, e_isub, e_imul, e_iand, e_ior, e_ixor, e_ishl, e_ishr, e_iushr, e_idiv, e_irem, e_ladd, e_lsub, e_lmul, e_lcmp, e_mmax, e_mmin, e_i2l, e_l2i, e_i2b, e_i2c, e_dup, e_dup2, e_pop, e_icmp_eq, e_icmp_ne, e_icmp_lt, e_icmp_ge, e_icmp_gt, e_icmp_le, e_if_eq, e_if_ne, e_if_lt, e_if_ge, e_if_gt, e_if_le, e_getI, e_getR, e_putI, e_putZ, e_putR, e_iald, e_bald, e_zald, e_lald, e_aald, e_alen, e_iast, e_bast, e_zast, e_last, e_aast, e_iret, e_zret, e_lret, e_vret, e_obj, e_callV, e_callS, e_callT, e_acpy, e_ldcS, e_dn, e_ag, z_pop, List.getElem?_cons_zero, List.getElem?_cons_succ, List.set_cons_zero, List.set_cons_succ, List.length_cons, List.length_nil, z_nol, Option.map_some, Option.toList_some, Option.toList_none, List.cons_append, List.nil_append, n_lit, n_m1, n_m2, n_m1lt, n_m1le, n_rem, n_div, n_out, n_cl, n_eq, n_le, n_lt, n_add, n_mul, n_sub, n_nle, n_yle, n_nlt, n_ylt, n_neN, z_lay, z_sz, z_str, z_stI, z_stL, z_stR, eq_self, ↓reduceIte, true_and, and_true, and_self, false_and, and_false, or_self, false_or, or_false, true_or, or_true, not_true_eq_false, not_false_eq_true, Nat.reduceLeDiff, Nat.reduceLT, Nat.reduceAdd, Nat.reduceEqDiff, Nat.reduceMul, Nat.reduceSub, Value.category, Nat.zero_le, beq_self_eq_true]
  · rintro j hj hp ls rfl
    obtain ⟨b1, b2, b3, b4⟩ := hb j (by omega)
    obtain ⟨d1, d2, d3, d4⟩ := hDJ j (by omega)
    by_cases q0 : td j + ts j < l
    · have a4 := r_inside_yes (I := J) (L := L) (d := td j) (i := ts j) h a2.1 (by omega) q0
      have a5 := r_laidAt (I := J) (L := L) (d := td j) (i := ts j) h (by omega) (by omega)
      rw [a2.2 _ _ q0] at a5
      have t1 := htri _ _ q0
      by_cases q : tri ch (dig nc l v) (td j) (ts j) = tc j
      · have q2 : tb j = 0 := by
          have : ¬ tb j = 1 := fun z => hp ⟨q0, fun _ => z, fun _ => q⟩
          omega
        rw [q] at a5
        rw [q2] at d4
        simp (disch := omega) only [bX12_doesFit_9, kX12_doesFit_71, kX12_doesFit_81, h.1, mr_toldDepth h, ml_toldDepth h, mr_toldSeat h, ml_toldSeat h, mr_toldColour h, ml_toldColour h, mr_toldSo h, ml_toldSo h, d1, d2, d3, d4, a4, a5, e_push, e_pushl, e_iload, e_lload, e_aload, e_istore, e_astore, e_lstore, e_iinc, e_iadd, e_isub, e_imul, e_iand, e_ior, e_ixor, e_ishl, e_ishr, e_iushr, e_idiv, e_irem, e_ladd, e_lsub, e_lmul, e_lcmp, e_mmax, e_mmin, e_i2l, e_l2i, e_i2b, e_i2c, e_dup, e_dup2, e_pop, e_icmp_eq, e_icmp_ne, e_icmp_lt, e_icmp_ge, e_icmp_gt, e_icmp_le, e_if_eq, e_if_ne, e_if_lt, e_if_ge, e_if_gt, e_if_le, e_getI, e_getR, e_putI, e_putZ, e_putR, e_iald, e_bald, e_zald, e_lald, e_aald, e_alen, e_iast, e_bast, e_zast, e_last, e_aast, e_iret, e_zret, e_lret, e_vret, e_obj, e_callV, e_callS, e_callT, e_acpy, e_ldcS, e_dn, e_ag, z_pop, List.getElem?_cons_zero, List.getElem?_cons_succ, List.set_cons_zero, List.set_cons_succ, List.length_cons, List.length_nil, z_nol, Option.map_some, Option.toList_some, Option.toList_none, List.cons_append, List.nil_append, n_lit, n_m1, n_m2, n_m1lt, n_m1le, n_rem, n_div, n_out, n_cl, n_eq, n_le, n_lt, n_add, n_mul, n_sub, n_nle, n_yle, n_nlt, n_ylt, n_neN, z_lay, z_sz, z_str, z_stI, z_stL, z_stR, eq_self, ↓reduceIte, true_and, and_true, and_self, false_and, and_false, or_self, false_or, or_false, true_or, or_true, not_true_eq_false, not_false_eq_true, Nat.reduceLeDiff, Nat.reduceLT, Nat.reduceAdd, Nat.reduceEqDiff, Nat.reduceMul, Nat.reduceSub, Value.category, Nat.zero_le, beq_self_eq_true]
      · have q2 : tb j = 1 := Classical.byContradiction fun z => hp ⟨q0, fun y => absurd y q, fun y => absurd y z⟩
        rw [q2] at d4
        simp (disch := omega) only [bX12_doesFit_9, kX12_doesFit_71, kX12_doesFit_81, h.1, mr_toldDepth h, ml_toldDepth h, mr_toldSeat h, ml_toldSeat h, mr_toldColour h, ml_toldColour h, mr_toldSo h, ml_toldSo h, d1, d2, d3, d4, a4, a5, q, e_push, e_pushl, e_iload, e_lload, e_aload, e_istore, e_astore, e_lstore, e_iinc, e_iadd, e_isub, e_imul, e_iand, e_ior, e_ixor, e_ishl, e_ishr, e_iushr, e_idiv, e_irem, e_ladd, e_lsub, e_lmul, e_lcmp, e_mmax, e_mmin, e_i2l, e_l2i, e_i2b, e_i2c, e_dup, e_dup2, e_pop, e_icmp_eq, e_icmp_ne, e_icmp_lt, e_icmp_ge, e_icmp_gt, e_icmp_le, e_if_eq, e_if_ne, e_if_lt, e_if_ge, e_if_gt, e_if_le, e_getI, e_getR, e_putI, e_putZ, e_putR, e_iald, e_bald, e_zald, e_lald, e_aald, e_alen, e_iast, e_bast, e_zast, e_last, e_aast, e_iret, e_zret, e_lret, e_vret, e_obj, e_callV, e_callS, e_callT, e_acpy, e_ldcS, e_dn, e_ag, z_pop, List.getElem?_cons_zero, List.getElem?_cons_succ, List.set_cons_zero, List.set_cons_succ, List.length_cons, List.length_nil, z_nol, Option.map_some, Option.toList_some, Option.toList_none, List.cons_append, List.nil_append, n_lit, n_m1, n_m2, n_m1lt, n_m1le, n_rem, n_div, n_out, n_cl, n_eq, n_le, n_lt, n_add, n_mul, n_sub, n_nle, n_yle, n_nlt, n_ylt, n_neN, z_lay, z_sz, z_str, z_stI, z_stL, z_stR, eq_self, ↓reduceIte, true_and, and_true, and_self, false_and, and_false, or_self, false_or, or_false, true_or, or_true, not_true_eq_false, not_false_eq_true, Nat.reduceLeDiff, Nat.reduceLT, Nat.reduceAdd, Nat.reduceEqDiff, Nat.reduceMul, Nat.reduceSub, Value.category, Nat.zero_le, beq_self_eq_true]
    · have a4 : fX12_isInside [.ref (B + 200), .int (nI (td j)), .int (nI (ts j))] (J, L, Z) = some (some (.int (nI 0)), (J, L, Z)) := by
        by_cases q1 : td j < l
        · exact r_inside_no2 h a2.1 (by omega) q1 (out_ge (by omega) (by omega))
        · exact r_inside_no1 h a2.1 (by omega) (by omega) (out_ge (by omega) (by omega))
      simp (disch := omega) only [bX12_doesFit_9, kX12_doesFit_36, h.1, mr_toldDepth h, ml_toldDepth h, mr_toldSeat h, ml_toldSeat h, d1, d2, a4, e_push, e_pushl, e_iload, e_lload, e_aload, e_istore, e_astore, e_lstore, e_iinc, e_iadd, e_isub, e_imul, e_iand, e_ior, e_ixor, e_ishl, e_ishr, e_iushr, e_idiv, e_irem, e_ladd, e_lsub, e_lmul, e_lcmp, e_mmax, e_mmin, e_i2l, e_l2i, e_i2b, e_i2c, e_dup, e_dup2, e_pop, e_icmp_eq, e_icmp_ne, e_icmp_lt, e_icmp_ge, e_icmp_gt, e_icmp_le, e_if_eq, e_if_ne, e_if_lt, e_if_ge, e_if_gt, e_if_le, e_getI, e_getR, e_putI, e_putZ, e_putR, e_iald, e_bald, e_zald, e_lald, e_aald, e_alen, e_iast, e_bast, e_zast, e_last, e_aast, e_iret, e_zret, e_lret, e_vret, e_obj, e_callV, e_callS, e_callT, e_acpy, e_ldcS, e_dn, e_ag, z_pop, List.getElem?_cons_zero, List.getElem?_cons_succ, List.set_cons_zero, List.set_cons_succ, List.length_cons, List.length_nil, z_nol, Option.map_some, Option.toList_some, Option.toList_none, List.cons_append, List.nil_append, n_lit, n_m1, n_m2, n_m1lt, n_m1le, n_rem, n_div, n_out, n_cl, n_eq, n_le, n_lt, n_add, n_mul, n_sub, n_nle, n_yle, n_nlt, n_ylt, n_neN, z_lay, z_sz, z_str, z_stI, z_stL, z_stR, eq_self, ↓reduceIte, true_and, and_true, and_self, false_and, and_false, or_self, false_or, or_false, true_or, or_true, not_true_eq_false, not_false_eq_true, Nat.reduceLeDiff, Nat.reduceLT, Nat.reduceAdd, Nat.reduceEqDiff, Nat.reduceMul, Nat.reduceSub, Value.category, Nat.zero_le, beq_self_eq_true]
/-- the reference's rows -/
theorem r_rows_lp {I : Nat → Nat → Int32} {L : Nat → Nat → Int64} {Z : zZ} {B lv nc n k l w : Nat} {ch : Nat → Nat → Nat} {td ts tc tb : Nat → Nat} (h : isMod Z (B + 200)) (hT : refTab I (B + 200) lv nc ch) (hn : n ≤ 20) (hk : k ≤ n) (h1 : 1 ≤ l) (hl : l ≤ 6) (hb : tldB n td ts tc tb) (hD : tldC I (B + 200 + 43) n td ts tc tb) (hw : w < 2) :
    ∃ J, q_lp bX12_rows_36 [some (Value.ref (B + 200)), some (Value.int (nI (k))), some (Value.int (nI (l))), some (Value.int (nI (w))), some (Value.int (nI (0))), some (Value.int (nM2)), some (Value.int (pmI (nc ^ l)))] [] (I, L, Z) = some (some (.int (if w = 0 then nI (cntP (fun v => fitC ch (dig nc l v) l k td ts tc tb) (nc ^ l)) else oI (lsP (fun v => fitC ch (dig nc l v) l k td ts tc tb) (nc ^ l)))), (J, L, Z)) ∧ rLay I J B := by
  have h4 := hT.2.2.2.2.1
  have hp := pw_le (n := l) h4 (by omega)
  generalize hP : (fun v => fitC ch (dig nc l v) l k td ts tc tb) = P
  have hPv : ∀ v, fitC ch (dig nc l v) l k td ts tc tb = P v := fun v => by rw [← hP]
  have mono : ∀ {a b : Nat}, a ≤ b → cntP P a ≤ cntP P b := by
    intro a b hab
    induction b with
    | zero => rw [show a = 0 by omega]; exact Nat.le_refl _
    | succ b ih =>
      rcases Nat.lt_or_ge a (b + 1) with q | q
      · have := ih (by omega)
        rw [cntP]
        omega
      · rw [show a = b + 1 by omega]; exact Nat.le_refl _
  refine lp_ex (fun i ls σ => ∃ (J : Nat → Nat → Int32) (f : Option Nat), i ≤ nc ^ l ∧ ls = [some (Value.ref (B + 200)), some (Value.int (nI (k))), some (Value.int (nI (l))), some (Value.int (nI (w))), some (Value.int (nI (cntP P (nc ^ l) - cntP P (nc ^ l - i)))), some (Value.int (oI f)), some (Value.int (pmI (nc ^ l - i)))] ∧ σ = (J, L, Z) ∧ (match lsP P (nc ^ l - i) with | some u => some u | none => f) = lsP P (nc ^ l) ∧ rLay I J B) (nc ^ l) ?_ ?_ ?_
  · refine ⟨I, none, Nat.zero_le _, by rw [Nat.sub_zero, Nat.sub_self]; rfl, rfl, ?_, rLay.refl _ _⟩
    rw [Nat.sub_zero]
    cases lsP P (nc ^ l) <;> rfl
  · rintro ls σ ⟨J, f, -, rfl, rfl, q1, q2⟩
    rw [Nat.sub_self] at q1 ⊢
    have q1 : f = lsP P (nc ^ l) := q1
    refine ⟨J, ?_, q2⟩
    rw [pm_0, show cntP P 0 = 0 from rfl, Nat.sub_zero, q1]
    rcases (by omega : w = 0 ∨ w = 1) with rfl | rfl
    · simp (disch := omega) only [bX12_rows_36, kX12_rows_68, kX12_rows_79, m1_neg, e_push, e_pushl, e_iload, e_lload, e_aload, e_istore, e_astore, e_lstore, e_iinc, e_iadd, e_isub, e_imul, e_iand, e_ior, e_ixor, e_ishl, e_ishr, e_iushr, e_idiv, e_irem, e_ladd, e_lsub, e_lmul, e_lcmp, e_mmax, e_mmin, e_i2l, e_l2i, e_i2b, e_i2c, e_dup, e_dup2, e_pop, e_icmp_eq, e_icmp_ne, e_icmp_lt, e_icmp_ge, e_icmp_gt, e_icmp_le, e_if_eq, e_if_ne, e_if_lt, e_if_ge, e_if_gt, e_if_le, e_getI, e_getR, e_putI, e_putZ, e_putR, e_iald, e_bald, e_zald, e_lald, e_aald, e_alen, e_iast, e_bast, e_zast, e_last, e_aast, e_iret, e_zret, e_lret, e_vret, e_obj, e_callV, e_callS, e_callT, e_acpy, e_ldcS, e_dn, e_ag, z_pop, List.getElem?_cons_zero, List.getElem?_cons_succ, List.set_cons_zero, List.set_cons_succ, List.length_cons, List.length_nil, z_nol, Option.map_some, Option.toList_some, Option.toList_none, List.cons_append, List.nil_append, n_lit, n_m1, n_m2, n_m1lt, n_m1le, n_rem, n_div, n_out, n_cl, n_eq, n_le, n_lt, n_add, n_mul, n_sub, n_nle, n_yle, n_nlt, n_ylt, n_neN, z_lay, z_sz, z_str, z_stI, z_stL, z_stR, eq_self, ↓reduceIte, true_and, and_true, and_self, false_and, and_false, or_self, false_or, or_false, true_or, or_true, not_true_eq_false, not_false_eq_true, Nat.reduceLeDiff, Nat.reduceLT, Nat.reduceAdd, Nat.reduceEqDiff, Nat.reduceMul, Nat.reduceSub, Value.category, Nat.zero_le, beq_self_eq_true]
    · simp (disch := omega) only [bX12_rows_36, kX12_rows_68, kX12_rows_79, m1_neg, e_push, e_pushl, e_iload, e_lload, e_aload, e_istore, e_astore, e_lstore, e_iinc, e_iadd, e_isub, e_imul, e_iand, e_ior, e_ixor, e_ishl, e_ishr, e_iushr, e_idiv, e_irem, e_ladd, e_lsub, e_lmul, e_lcmp, e_mmax, e_mmin, e_i2l, e_l2i, e_i2b, e_i2c, e_dup, e_dup2, e_pop, e_icmp_eq, e_icmp_ne, e_icmp_lt, e_icmp_ge, e_icmp_gt, e_icmp_le, e_if_eq, e_if_ne, e_if_lt, e_if_ge, e_if_gt, e_if_le, e_getI, e_getR, e_putI, e_putZ, e_putR, e_iald, e_bald, e_zald, e_lald, e_aald, e_alen, e_iast, e_bast, e_zast, e_last, e_aast, e_iret, e_zret, e_lret, e_vret, e_obj, e_callV, e_callS, e_callT, e_acpy, e_ldcS, e_dn, e_ag, z_pop, List.getElem?_cons_zero, List.getElem?_cons_succ, List.set_cons_zero, List.set_cons_succ, List.length_cons, List.length_nil, z_nol, Option.map_some, Option.toList_some, Option.toList_none, List.cons_append, List.nil_append, n_lit, n_m1, n_m2, n_m1lt, n_m1le, n_rem, n_div, n_out, n_cl, n_eq, n_le, n_lt, n_add, n_mul, n_sub, n_nle, n_yle, n_nlt, n_ylt, n_neN, z_lay, z_sz, z_str, z_stI, z_stL, z_stR, eq_self, ↓reduceIte, true_and, and_true, and_self, false_and, and_false, or_self, false_or, or_false, true_or, or_true, not_true_eq_false, not_false_eq_true, Nat.reduceLeDiff, Nat.reduceLT, Nat.reduceAdd, Nat.reduceEqDiff, Nat.reduceMul, Nat.reduceSub, Value.category, Nat.zero_le, beq_self_eq_true]
  · rintro i hi ls σ ⟨J, f, -, rfl, rfl, q1, q2⟩
    obtain ⟨u, hu⟩ : ∃ u, nc ^ l - i = u + 1 := ⟨nc ^ l - i - 1, by omega⟩
    have hu2 : nc ^ l - (i + 1) = u := by omega
    rw [hu] at q1 ⊢
    rw [hu2, pm_s]
    obtain ⟨J2, a1, a2, a3⟩ := r_doesFit (I := J) (L := L) (v := u) h (q2.tab hT) hn hk h1 hl (by omega) hb (fun j hj => by
      rw [q2.1 _ (by omega) (by omega), q2.1 _ (by omega) (by omega), q2.1 _ (by omega) (by omega), q2.1 _ (by omega) (by omega)]
      exact hD j hj)
    rw [hPv] at a1
    have m1 : cntP P (u + 1) ≤ cntP P (nc ^ l) := mono (by omega)
    have m2 := cntP_le P (nc ^ l)
    rcases Classical.em (P u) with q | q
    · have e1 : cntP P (u + 1) = cntP P u + 1 := by rw [cntP, b01_pos q]
      have e2 : cntP P (nc ^ l) - cntP P (u + 1) + 1 = cntP P (nc ^ l) - cntP P u := by omega
      rw [b01_pos q] at a1
      refine ⟨[some (Value.ref (B + 200)), some (Value.int (nI (k))), some (Value.int (nI (l))), some (Value.int (nI (w))), some (Value.int (nI (cntP P (nc ^ l) - cntP P u))), some (Value.int (oI (some u))), some (Value.int (pmI u))], (J2, L, Z), ?_, J2, some u, by omega, rfl, rfl, ?_, q2.trans a3⟩
      · have e3 : oI (some u) = nI u := rfl
        simp (disch := omega) only [bX12_rows_36, kX12_rows_62, h.1, a1, e2, e3, pm_dec, e_push, e_pushl, e_iload, e_lload, e_aload, e_istore, e_astore, e_lstore, e_iinc, e_iadd, e_isub, e_imul, e_iand, e_ior, e_ixor, e_ishl, e_ishr, e_iushr, e_idiv, e_irem, e_ladd, e_lsub, e_lmul, e_lcmp, e_mmax, e_mmin, e_i2l, e_l2i, e_i2b, e_i2c, e_dup, e_dup2, e_pop, e_icmp_eq, e_icmp_ne, e_icmp_lt, e_icmp_ge, e_icmp_gt, e_icmp_le, e_if_eq, e_if_ne, e_if_lt, e_if_ge, e_if_gt, e_if_le, e_getI, e_getR, e_putI, e_putZ, e_putR, e_iald, e_bald, e_zald, e_lald, e_aald, e_alen, e_iast, e_bast, e_zast, e_last, e_aast, e_iret, e_zret, e_lret, e_vret, e_obj, e_callV, e_callS, e_callT, e_acpy, e_ldcS, e_dn, e_ag, z_pop, List.getElem?_cons_zero, List.getElem?_cons_succ, List.set_cons_zero, List.set_cons_succ, List.length_cons, List.length_nil, z_nol, Option.map_some, Option.toList_some, Option.toList_none, List.cons_append, List.nil_append, n_lit, n_m1, n_m2, n_m1lt, n_m1le, n_rem, n_div, n_out, n_cl, n_eq, n_le, n_lt, n_add, n_mul, n_sub, n_nle, n_yle, n_nlt, n_ylt, n_neN, z_lay, z_sz, z_str, z_stI, z_stL, z_stR, eq_self, ↓reduceIte, true_and, and_true, and_self, false_and, and_false, or_self, false_or, or_false, true_or, or_true, not_true_eq_false, not_false_eq_true, Nat.reduceLeDiff, Nat.reduceLT, Nat.reduceAdd, Nat.reduceEqDiff, Nat.reduceMul, Nat.reduceSub, Value.category, Nat.zero_le, beq_self_eq_true]
      · rw [← q1, lsP]
        cases lsP P u with
        | some z => rfl
        | none => rw [ifP_pos q]
    · have e1 : cntP P (u + 1) = cntP P u := by rw [cntP, b01_neg q]; rfl
      rw [b01_neg q] at a1
      refine ⟨[some (Value.ref (B + 200)), some (Value.int (nI (k))), some (Value.int (nI (l))), some (Value.int (nI (w))), some (Value.int (nI (cntP P (nc ^ l) - cntP P u))), some (Value.int (oI f)), some (Value.int (pmI u))], (J2, L, Z), ?_, J2, f, by omega, rfl, rfl, ?_, q2.trans a3⟩
      · rw [e1]
        simp (disch := omega) only [bX12_rows_36, kX12_rows_62, h.1, a1, pm_dec, e_push, e_pushl, e_iload, e_lload, e_aload, e_istore, e_astore, e_lstore, e_iinc, e_iadd, e_isub, e_imul, e_iand, e_ior, e_ixor, e_ishl, e_ishr, e_iushr, e_idiv, e_irem, e_ladd, e_lsub, e_lmul, e_lcmp, e_mmax, e_mmin, e_i2l, e_l2i, e_i2b, e_i2c, e_dup, e_dup2, e_pop, e_icmp_eq, e_icmp_ne, e_icmp_lt, e_icmp_ge, e_icmp_gt, e_icmp_le, e_if_eq, e_if_ne, e_if_lt, e_if_ge, e_if_gt, e_if_le, e_getI, e_getR, e_putI, e_putZ, e_putR, e_iald, e_bald, e_zald, e_lald, e_aald, e_alen, e_iast, e_bast, e_zast, e_last, e_aast, e_iret, e_zret, e_lret, e_vret, e_obj, e_callV, e_callS, e_callT, e_acpy, e_ldcS, e_dn, e_ag, z_pop, List.getElem?_cons_zero, List.getElem?_cons_succ, List.set_cons_zero, List.set_cons_succ, List.length_cons, List.length_nil, z_nol, Option.map_some, Option.toList_some, Option.toList_none, List.cons_append, List.nil_append, n_lit, n_m1, n_m2, n_m1lt, n_m1le, n_rem, n_div, n_out, n_cl, n_eq, n_le, n_lt, n_add, n_mul, n_sub, n_nle, n_yle, n_nlt, n_ylt, n_neN, z_lay, z_sz, z_str, z_stI, z_stL, z_stR, eq_self, ↓reduceIte, true_and, and_true, and_self, false_and, and_false, or_self, false_or, or_false, true_or, or_true, not_true_eq_false, not_false_eq_true, Nat.reduceLeDiff, Nat.reduceLT, Nat.reduceAdd, Nat.reduceEqDiff, Nat.reduceMul, Nat.reduceSub, Value.category, Nat.zero_le, beq_self_eq_true]
      · rw [← q1, lsP]
        cases lsP P u with
        | some z => rfl
        | none => rw [ifP_neg q]
