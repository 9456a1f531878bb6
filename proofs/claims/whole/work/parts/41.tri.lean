/-! triangles -/
theorem lp_inv {α : Type} {body : zK ((zL × zS) ⊕ α)} {Post : α → Prop} (P : Nat → zL → zS → Prop) (n : Nat) (hend : ∀ ls σ, P n ls σ → ∃ a, body ls [] σ = some (.inr a) ∧ Post a) (hstep : ∀ i, i < n → ∀ ls σ, P i ls σ → ∃ ls' σ', body ls [] σ = some (.inl (ls', σ')) ∧ P (i + 1) ls' σ') {ls : zL} {σ : zS} (h0 : P 0 ls σ) : ∃ a, q_lp body ls [] σ = some a ∧ Post a := by
  have h : ∀ j k, k + j = n → ∀ ls σ, P k ls σ → ∃ a, q_lp body ls [] σ = some a ∧ Post a := by
    intro j
    induction j with
    | zero =>
      intro k hk ls σ hP
      have e : k = n := by omega
      subst e
      obtain ⟨a, ha, hp⟩ := hend ls σ hP
      exact ⟨a, by rw [q_lp_eq, ha], hp⟩
    | succ j ih =>
      intro k hk ls σ hP
      obtain ⟨ls', σ', hb, hP'⟩ := hstep k (by omega) ls σ hP
      obtain ⟨a, ha, hp⟩ := ih (k + 1) (by omega) ls' σ' hP'
      exact ⟨a, by rw [q_lp_eq, hb]; exact ha, hp⟩
  exact h n 0 (by omega) ls σ h0
theorem lp_use {α : Type} {body : zK ((zL × zS) ⊕ α)} (Post : α → Prop) (P : Nat → zL → zS → Prop) (n : Nat) (ls : zL) (σ : zS) {G : Prop} (h0 : P 0 ls σ) (hend : ∀ ls σ, P n ls σ → ∃ a, body ls [] σ = some (.inr a) ∧ Post a) (hstep : ∀ i, i < n → ∀ ls σ, P i ls σ → ∃ ls' σ', body ls [] σ = some (.inl (ls', σ')) ∧ P (i + 1) ls' σ') (k : ∀ a, q_lp body ls [] σ = some a → Post a → G) : G := by
  obtain ⟨a, ha, hp⟩ := lp_inv (Post := Post) P n hend hstep h0
  exact k a ha hp
theorem lp_ex {α ι : Type} {body : zK ((zL × zS) ⊕ α)} {ls : zL} {σ : zS} {mk : ι → α} {Q : ι → Prop} (P : Nat → zL → zS → Prop) (n : Nat) (h0 : P 0 ls σ) (hend : ∀ ls σ, P n ls σ → ∃ j, body ls [] σ = some (.inr (mk j)) ∧ Q j) (hstep : ∀ i, i < n → ∀ ls σ, P i ls σ → ∃ ls' σ', body ls [] σ = some (.inl (ls', σ')) ∧ P (i + 1) ls' σ') : ∃ j, q_lp body ls [] σ = some (mk j) ∧ Q j := by
  obtain ⟨a, ha, j, rfl, hq⟩ := lp_inv (Post := fun a => ∃ j, a = mk j ∧ Q j) P n (fun ls σ h => by
    obtain ⟨j, h1, h2⟩ := hend ls σ h
    exact ⟨_, h1, j, rfl, h2⟩) hstep h0
  exact ⟨j, ha, hq⟩
theorem lp_ex2 {α ι κ : Type} {body : zK ((zL × zS) ⊕ α)} {ls : zL} {σ : zS} {mk : ι → κ → α} {Q : ι → κ → Prop} (P : Nat → zL → zS → Prop) (n : Nat) (h0 : P 0 ls σ) (hend : ∀ ls σ, P n ls σ → ∃ j k, body ls [] σ = some (.inr (mk j k)) ∧ Q j k) (hstep : ∀ i, i < n → ∀ ls σ, P i ls σ → ∃ ls' σ', body ls [] σ = some (.inl (ls', σ')) ∧ P (i + 1) ls' σ') : ∃ j k, q_lp body ls [] σ = some (mk j k) ∧ Q j k := by
  obtain ⟨a, ha, j, k, rfl, hq⟩ := lp_inv (Post := fun a => ∃ j k, a = mk j k ∧ Q j k) P n (fun ls σ h => by
    obtain ⟨j, k, h1, h2⟩ := hend ls σ h
    exact ⟨_, h1, j, k, rfl, h2⟩) hstep h0
  exact ⟨j, k, ha, hq⟩
def tri (ch : Nat → Nat → Nat) (c : Nat → Nat) : Nat → Nat → Nat
  | 0, i => c i
  | d + 1, i => ch (tri ch c d i) (tri ch c d (i + 1))
theorem tri_lt {ch : Nat → Nat → Nat} {c : Nat → Nat} {m s : Nat} (hch : ∀ a b, a < m → b < m → ch a b < m) (hc : ∀ i, i < s → c i < m) : ∀ d i, d + i < s → tri ch c d i < m := by
  intro d
  induction d with
  | zero => intro i h; exact hc i (by omega)
  | succ d ih => intro i h; exact hch _ _ (ih i (by omega)) (ih (i + 1) (by omega))
theorem tri_congr {ch : Nat → Nat → Nat} {c c' : Nat → Nat} {s : Nat} (h : ∀ i, i < s → c i = c' i) : ∀ d i, d + i < s → tri ch c d i = tri ch c' d i := by
  intro d
  induction d with
  | zero => intro i hi; exact h i (by omega)
  | succ d ih => intro i hi; simp only [tri]; rw [ih i (by omega), ih (i + 1) (by omega)]
def isTab (Z : zZ) (b cb : Nat) : Prop := Z.2.1 b = some (.inr 5) ∧ Z.1 b 3 = some cb ∧ Z.2.1 cb = some (.inl (0, 16))
def isTri (Z : zZ) (t ct tt : Nat) : Prop := Z.2.1 t = some (.inr 10) ∧ Z.1 t 1 = some ct ∧ Z.1 t 2 = some tt ∧ Z.2.1 ct = some (.inl (0, 64)) ∧ Z.2.1 tt = some (.inl (0, 36)) ∧ t ≠ ct ∧ t ≠ tt ∧ ct ≠ tt
/-- the table's children -/
def tabI (I : Nat → Nat → Int32) (cb : Nat) (ch : Nat → Nat → Nat) : Prop := ∀ a b, a < 4 → b < 4 → I cb (a * 4 + b) = nI (ch a b) ∧ ch a b < 4
theorem p_childOf {I : Nat → Nat → Int32} {L : Nat → Nat → Int64} {Z : zZ} {b cb x y : Nat} {ch : Nat → Nat → Nat} (h : isTab Z b cb) (hT : tabI I cb ch) (hx : x < 4) (hy : y < 4) : fX5_childOf [.ref b, .int (nI x), .int (nI y)] (I, L, Z) = some (some (.int (nI (ch x y))), (I, L, Z)) := by
  obtain ⟨h1, h2, h3⟩ := h
  show kX5_childOf_0 [some (.ref b), some (.int (nI x)), some (.int (nI y))] [] (I, L, Z) = _
  simp (disch := omega) only [kX5_childOf_0, h1, h2, h3, n_and3, (hT x y hx hy).1, q_push, q_pushl, q_iload, q_lload, q_aload, q_istore, q_astore, q_lstore, q_iinc, q_iadd, q_isub, q_imul, q_iand, q_ior, q_ixor, q_ishl, q_ishr, q_iushr, q_idiv, q_irem, q_ladd, q_lsub, q_lmul, q_lcmp, q_mmax, q_mmin, q_i2l, q_l2i, q_i2b, q_i2c, q_dup, q_dup2, q_pop, q_icmp_eq, q_icmp_ne, q_icmp_lt, q_icmp_ge, q_icmp_gt, q_icmp_le, q_if_eq, q_if_ne, q_if_lt, q_if_ge, q_if_gt, q_if_le, q_getI, q_getR, q_putI, q_putZ, q_putR, q_iald, q_bald, q_zald, q_lald, q_aald, q_alen, q_iast, q_bast, q_zast, q_last, q_aast, q_iret, q_zret, q_lret, q_vret, q_obj, q_callV, q_callS, q_callT, q_acpy, q_ldcS, q_dn, q_ag, z_pop, List.getElem?_cons_zero, List.getElem?_cons_succ, List.set_cons_zero, List.set_cons_succ, List.length_cons, List.length_nil, z_nol, Option.map_some, Option.toList_some, Option.toList_none, List.cons_append, List.nil_append, n_lit, n_m1, n_m2, n_m1lt, n_m1le, n_rem, n_div, n_out, n_cl, n_eq, n_le, n_lt, n_add, n_mul, n_sub, n_nle, n_yle, n_nlt, n_ylt, n_neN, z_lay, z_sz, z_str, z_stI, z_stL, z_stR, eq_self, reduceIte, true_and, and_true, and_self, false_and, and_false, or_self, false_or, or_false, true_or, or_true, not_true_eq_false, not_false_eq_true, Nat.reduceLeDiff, Nat.reduceLT, Nat.reduceAdd, Nat.reduceEqDiff, Nat.reduceMul, Nat.reduceSub, Value.category, Nat.zero_le, beq_self_eq_true]
theorem p_cell {I : Nat → Nat → Int32} {L : Nat → Nat → Int64} {Z : zZ} {t ct tt d i : Nat} (h : isTri Z t ct tt) (hd : d < 8) (hi : i < 8) : fX10_cell [.ref t, .int (nI d), .int (nI i)] (I, L, Z) = some (some (.int (I ct (d * 8 + i))), (I, L, Z)) := by
  obtain ⟨h1, h2, h3, h4, h5, h6⟩ := h
  show kX10_cell_0 [some (.ref t), some (.int (nI d)), some (.int (nI i))] [] (I, L, Z) = _
  simp (disch := omega) only [kX10_cell_0, h1, h2, h4, n_and7, q_push, q_pushl, q_iload, q_lload, q_aload, q_istore, q_astore, q_lstore, q_iinc, q_iadd, q_isub, q_imul, q_iand, q_ior, q_ixor, q_ishl, q_ishr, q_iushr, q_idiv, q_irem, q_ladd, q_lsub, q_lmul, q_lcmp, q_mmax, q_mmin, q_i2l, q_l2i, q_i2b, q_i2c, q_dup, q_dup2, q_pop, q_icmp_eq, q_icmp_ne, q_icmp_lt, q_icmp_ge, q_icmp_gt, q_icmp_le, q_if_eq, q_if_ne, q_if_lt, q_if_ge, q_if_gt, q_if_le, q_getI, q_getR, q_putI, q_putZ, q_putR, q_iald, q_bald, q_zald, q_lald, q_aald, q_alen, q_iast, q_bast, q_zast, q_last, q_aast, q_iret, q_zret, q_lret, q_vret, q_obj, q_callV, q_callS, q_callT, q_acpy, q_ldcS, q_dn, q_ag, z_pop, List.getElem?_cons_zero, List.getElem?_cons_succ, List.set_cons_zero, List.set_cons_succ, List.length_cons, List.length_nil, z_nol, Option.map_some, Option.toList_some, Option.toList_none, List.cons_append, List.nil_append, n_lit, n_m1, n_m2, n_m1lt, n_m1le, n_rem, n_div, n_out, n_cl, n_eq, n_le, n_lt, n_add, n_mul, n_sub, n_nle, n_yle, n_nlt, n_ylt, n_neN, z_lay, z_sz, z_str, z_stI, z_stL, z_stR, eq_self, reduceIte, true_and, and_true, and_self, false_and, and_false, or_self, false_or, or_false, true_or, or_true, not_true_eq_false, not_false_eq_true, Nat.reduceLeDiff, Nat.reduceLT, Nat.reduceAdd, Nat.reduceEqDiff, Nat.reduceMul, Nat.reduceSub, Value.category, Nat.zero_le, beq_self_eq_true]
theorem p_put {I : Nat → Nat → Int32} {L : Nat → Nat → Int64} {Z : zZ} {b cb t ct tt s : Nat} {ch : Nat → Nat → Nat} {c : Nat → Nat} (h : isTri Z t ct tt) (hb : isTab Z b cb) (hne : cb ≠ t ∧ cb ≠ ct) (hT : tabI I cb ch) (hs : s < 8) (hc : ∀ i, i ≤ s → c i < 4) (hcells : ∀ d i, d + i < s → I ct (d * 8 + i) = nI (tri ch c d i)) :
    ∃ I', fX10_put [.ref t, .ref b, .int (nI s), .int (nI (c s))] (I, L, Z) = some (none, (I', L, Z)) ∧ (∀ d i, d + i < s + 1 → I' ct (d * 8 + i) = nI (tri ch c d i)) ∧ I' t 0 = nI (s + 1) ∧ ∀ q, q ≠ t → q ≠ ct → I' q = I q := by
  obtain ⟨h1, h2, h3, h4, h5, h6, h7, h8⟩ := h
  obtain ⟨g1, g2, g3⟩ := hb
  have hcs := hc s (Nat.le_refl s)
  have htri : ∀ d i, d + i < s + 1 → tri ch c d i < 4 := tri_lt (fun a b ha hb => (hT a b ha hb).2) (fun i hi => hc i (by omega))
  have e0 : fX10_put [.ref t, .ref b, .int (nI s), .int (nI (c s))] (I, L, Z) = kX10_put_0 [some (.ref t), some (.ref b), some (.int (nI s)), some (.int (nI (c s))), none, none, none] [] (I, L, Z) := rfl
  rw [e0]
  simp (disch := omega) only [kX10_put_0, kX10_put_10, kX10_put_31, h1, h2, h4, n_and3, q_push, q_pushl, q_iload, q_lload, q_aload, q_istore, q_astore, q_lstore, q_iinc, q_iadd, q_isub, q_imul, q_iand, q_ior, q_ixor, q_ishl, q_ishr, q_iushr, q_idiv, q_irem, q_ladd, q_lsub, q_lmul, q_lcmp, q_mmax, q_mmin, q_i2l, q_l2i, q_i2b, q_i2c, q_dup, q_dup2, q_pop, q_icmp_eq, q_icmp_ne, q_icmp_lt, q_icmp_ge, q_icmp_gt, q_icmp_le, q_if_eq, q_if_ne, q_if_lt, q_if_ge, q_if_gt, q_if_le, q_getI, q_getR, q_putI, q_putZ, q_putR, q_iald, q_bald, q_zald, q_lald, q_aald, q_alen, q_iast, q_bast, q_zast, q_last, q_aast, q_iret, q_zret, q_lret, q_vret, q_obj, q_callV, q_callS, q_callT, q_acpy, q_ldcS, q_dn, q_ag, z_pop, List.getElem?_cons_zero, List.getElem?_cons_succ, List.set_cons_zero, List.set_cons_succ, List.length_cons, List.length_nil, z_nol, Option.map_some, Option.toList_some, Option.toList_none, List.cons_append, List.nil_append, n_lit, n_m1, n_m2, n_m1lt, n_m1le, n_rem, n_div, n_out, n_cl, n_eq, n_le, n_lt, n_add, n_mul, n_sub, n_nle, n_yle, n_nlt, n_ylt, n_neN, z_lay, z_sz, z_str, z_stI, z_stL, z_stR, eq_self, reduceIte, true_and, and_true, and_self, false_and, and_false, or_self, false_or, or_false, true_or, or_true, not_true_eq_false, not_false_eq_true, Nat.reduceLeDiff, Nat.reduceLT, Nat.reduceAdd, Nat.reduceEqDiff, Nat.reduceMul, Nat.reduceSub, Value.category, Nat.zero_le, beq_self_eq_true]
  refine lp_use (body := bX10_put_31) (fun a => ∃ I', a = (none, (I', L, Z)) ∧ (∀ d i, d + i < s + 1 → I' ct (d * 8 + i) = nI (tri ch c d i)) ∧ I' t 0 = nI (s + 1) ∧ ∀ q, q ≠ t → q ≠ ct → I' q = I q)
    (fun i ls σ => ∃ J : Nat → Nat → Int32, ls = [some (.ref t), some (.ref b), some (.int (nI s)), some (.int (nI (c s))), some (.int (nI (tri ch c i (s - i)))), some (.int (nI (s + 7 * i))), some (.int (nI (i + 1)))] ∧ σ = (J, L, Z) ∧ (∀ d j, d + j < s → J ct (d * 8 + j) = nI (tri ch c d j)) ∧ (∀ d, d ≤ i → J ct (d * 8 + (s - d)) = nI (tri ch c d (s - d))) ∧ ∀ q, q ≠ ct → J q = I q) s [some (.ref t), some (.ref b), some (.int (nI s)), some (.int (nI (c s))), some (.int (nI (c s))), some (.int (nI s)), some (.int (nI 1))] (z_up I ct s (nI (c s)), L, Z) ?_ ?_ ?_ ?_
  · refine ⟨_, rfl, rfl, ?_, ?_, ?_⟩
    · intro d j hdj
      rw [← hcells d j hdj]
      simp only [z_up]
      rw [if_neg (by omega)]
    · intro d hd
      have e5 : d = 0 := by omega
      subst e5
      simp [z_up, tri]
    · intro q hq
      funext j
      simp [z_up, hq]
  · rintro ls σ ⟨J, rfl, rfl, q1, q2, q3⟩
    refine ⟨(none, (z_up J t 0 (nI (s + 1)), L, Z)), ?_, _, rfl, ?_, ?_, ?_⟩
    · simp (disch := omega) only [bX10_put_31, kX10_put_76, h1, q_push, q_pushl, q_iload, q_lload, q_aload, q_istore, q_astore, q_lstore, q_iinc, q_iadd, q_isub, q_imul, q_iand, q_ior, q_ixor, q_ishl, q_ishr, q_iushr, q_idiv, q_irem, q_ladd, q_lsub, q_lmul, q_lcmp, q_mmax, q_mmin, q_i2l, q_l2i, q_i2b, q_i2c, q_dup, q_dup2, q_pop, q_icmp_eq, q_icmp_ne, q_icmp_lt, q_icmp_ge, q_icmp_gt, q_icmp_le, q_if_eq, q_if_ne, q_if_lt, q_if_ge, q_if_gt, q_if_le, q_getI, q_getR, q_putI, q_putZ, q_putR, q_iald, q_bald, q_zald, q_lald, q_aald, q_alen, q_iast, q_bast, q_zast, q_last, q_aast, q_iret, q_zret, q_lret, q_vret, q_obj, q_callV, q_callS, q_callT, q_acpy, q_ldcS, q_dn, q_ag, z_pop, List.getElem?_cons_zero, List.getElem?_cons_succ, List.set_cons_zero, List.set_cons_succ, List.length_cons, List.length_nil, z_nol, Option.map_some, Option.toList_some, Option.toList_none, List.cons_append, List.nil_append, n_lit, n_m1, n_m2, n_m1lt, n_m1le, n_rem, n_div, n_out, n_cl, n_eq, n_le, n_lt, n_add, n_mul, n_sub, n_nle, n_yle, n_nlt, n_ylt, n_neN, z_lay, z_sz, z_str, z_stI, z_stL, z_stR, eq_self, reduceIte, true_and, and_true, and_self, false_and, and_false, or_self, false_or, or_false, true_or, or_true, not_true_eq_false, not_false_eq_true, Nat.reduceLeDiff, Nat.reduceLT, Nat.reduceAdd, Nat.reduceEqDiff, Nat.reduceMul, Nat.reduceSub, Value.category, Nat.zero_le, beq_self_eq_true]
    · intro d i hdi
      have e1 : z_up J t 0 (nI (s + 1)) ct (d * 8 + i) = J ct (d * 8 + i) := by simp [z_up, Ne.symm h6]
      rw [e1]
      rcases Nat.lt_or_ge (d + i) s with hl | hl
      · exact q1 d i hl
      · have e2 : i = s - d := by omega
        subst e2
        exact q2 d (by omega)
    · simp [z_up]
    · intro q hq1 hq2
      rw [← q3 q hq2]
      funext j
      simp [z_up, hq1]
  · rintro i hi ls σ ⟨J, rfl, rfl, q1, q2, q3⟩
    have e1 : s + 7 * i - 1 = i * 8 + (s - i - 1) := by omega
    have v1 := q1 i (s - i - 1) (by omega)
    have t1 := htri i (s - i - 1) (by omega)
    have t2 := htri i (s - i) (by omega)
    have v2 := (hT _ _ t1 t2).1
    have v3 : J cb = I cb := q3 cb hne.2
    have e2 : s - i = s - i - 1 + 1 := by omega
    have e3 : s + 7 * i + 7 = s + 7 * (i + 1) := by omega
    have e4 : ch (tri ch c i (s - i - 1)) (tri ch c i (s - i)) = tri ch c (i + 1) (s - (i + 1)) := by
      rw [tri, show s - (i + 1) = s - i - 1 by omega, ← e2]
    refine ⟨_, (z_up J ct (s + 7 * (i + 1)) (nI (tri ch c (i + 1) (s - (i + 1)))), L, Z), ?_, _, rfl, rfl, ?_, ?_, ?_⟩
    · simp (disch := omega) only [bX10_put_31, h1, h2, h4, g1, g2, g3, e1, v1, v3, v2, e3, e4, q_push, q_pushl, q_iload, q_lload, q_aload, q_istore, q_astore, q_lstore, q_iinc, q_iadd, q_isub, q_imul, q_iand, q_ior, q_ixor, q_ishl, q_ishr, q_iushr, q_idiv, q_irem, q_ladd, q_lsub, q_lmul, q_lcmp, q_mmax, q_mmin, q_i2l, q_l2i, q_i2b, q_i2c, q_dup, q_dup2, q_pop, q_icmp_eq, q_icmp_ne, q_icmp_lt, q_icmp_ge, q_icmp_gt, q_icmp_le, q_if_eq, q_if_ne, q_if_lt, q_if_ge, q_if_gt, q_if_le, q_getI, q_getR, q_putI, q_putZ, q_putR, q_iald, q_bald, q_zald, q_lald, q_aald, q_alen, q_iast, q_bast, q_zast, q_last, q_aast, q_iret, q_zret, q_lret, q_vret, q_obj, q_callV, q_callS, q_callT, q_acpy, q_ldcS, q_dn, q_ag, z_pop, List.getElem?_cons_zero, List.getElem?_cons_succ, List.set_cons_zero, List.set_cons_succ, List.length_cons, List.length_nil, z_nol, Option.map_some, Option.toList_some, Option.toList_none, List.cons_append, List.nil_append, n_lit, n_m1, n_m2, n_m1lt, n_m1le, n_rem, n_div, n_out, n_cl, n_eq, n_le, n_lt, n_add, n_mul, n_sub, n_nle, n_yle, n_nlt, n_ylt, n_neN, z_lay, z_sz, z_str, z_stI, z_stL, z_stR, eq_self, reduceIte, true_and, and_true, and_self, false_and, and_false, or_self, false_or, or_false, true_or, or_true, not_true_eq_false, not_false_eq_true, Nat.reduceLeDiff, Nat.reduceLT, Nat.reduceAdd, Nat.reduceEqDiff, Nat.reduceMul, Nat.reduceSub, Value.category, Nat.zero_le, beq_self_eq_true]
    · intro d j hdj
      rw [← q1 d j hdj]
      simp only [z_up]
      rw [if_neg (by omega)]
    · intro d hd
      rcases Nat.lt_or_ge i d with hl | hl
      · have e5 : d = i + 1 := by omega
        subst e5
        exact if_pos ⟨rfl, by omega⟩
      · rw [← q2 d hl]
        simp only [z_up]
        rw [if_neg (by omega)]
    · intro q hq
      rw [← q3 q hq]
      funext j
      simp [z_up, hq]
  · rintro a ha ⟨I', rfl, hp⟩
    exact ⟨I', ha, hp⟩
