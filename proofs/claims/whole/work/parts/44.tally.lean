/-! counting in triangles -/
def smN (f : Nat → Nat) : Nat → Nat
  | 0 => 0
  | n + 1 => smN f n + f n
theorem smN_congr {f g : Nat → Nat} : ∀ {n : Nat}, (∀ i, i < n → f i = g i) → smN f n = smN g n
  | 0, _ => rfl
  | n + 1, h => by rw [smN, smN, smN_congr (fun i hi => h i (by omega)), h n (by omega)]
theorem smN_add (f g : Nat → Nat) : ∀ n, smN (fun i => f i + g i) n = smN f n + smN g n
  | 0 => rfl
  | n + 1 => by simp only [smN]; rw [smN_add f g n]; omega
theorem smN_le {f : Nat → Nat} {m : Nat} : ∀ {n : Nat}, (∀ i, i < n → f i ≤ m) → smN f n ≤ n * m
  | 0, _ => by simp [smN]
  | n + 1, h => by
    have h1 := smN_le (n := n) (fun i hi => h i (by omega))
    have h2 := h n (by omega)
    rw [smN, Nat.succ_mul]
    omega
def hitT (ch : Nat → Nat → Nat) (c : Nat → Nat) (x d i : Nat) : Nat := if tri ch c d i = x then 1 else 0
theorem hitT_le (ch : Nat → Nat → Nat) (c : Nat → Nat) (x d i : Nat) : hitT ch c x d i ≤ 1 := by unfold hitT; split <;> omega
def manyT (ch : Nat → Nat → Nat) (c : Nat → Nat) (n x : Nat) : Nat := smN (fun d => smN (fun i => hitT ch c x d i) (n - d)) n
def tal (ch : Nat → Nat → Nat) (c : Nat → Nat) (n x : Nat) : Nat := smN (fun s => smN (fun d => hitT ch c x d (s - d)) (s + 1)) n
theorem manyT_eq (ch : Nat → Nat → Nat) (c : Nat → Nat) (x : Nat) : ∀ n, manyT ch c n x = tal ch c n x
  | 0 => rfl
  | n + 1 => by
    have h := manyT_eq ch c x n
    have e1 : manyT ch c (n + 1) x = smN (fun d => smN (fun i => hitT ch c x d i) (n - d) + hitT ch c x d (n - d)) (n + 1) := by
      unfold manyT
      refine smN_congr (fun d hd => ?_)
      rw [show n + 1 - d = (n - d) + 1 by omega, smN]
    have e2 : smN (fun d => smN (fun i => hitT ch c x d i) (n - d)) (n + 1) = manyT ch c n x := by
      rw [smN, Nat.sub_self]
      rfl
    have e3 : tal ch c (n + 1) x = tal ch c n x + smN (fun d => hitT ch c x d (n - d)) (n + 1) := rfl
    rw [e1, smN_add, e2, h, e3]
theorem tal_le (ch : Nat → Nat → Nat) (c : Nat → Nat) {n : Nat} (x : Nat) (hn : n ≤ 8) : tal ch c n x ≤ 64 := by
  have h : tal ch c n x ≤ n * 8 := smN_le (fun s hs => Nat.le_trans (smN_le (m := 1) (fun d _ => hitT_le ch c x d (s - d))) (by omega))
  omega
theorem tal_congr {ch : Nat → Nat → Nat} {c c' : Nat → Nat} {n : Nat} (h : ∀ i, i < n → c i = c' i) (x : Nat) : tal ch c n x = tal ch c' n x := by
  unfold tal
  refine smN_congr (fun s hs => smN_congr (fun d hd => ?_))
  unfold hitT
  rw [tri_congr h d (s - d) (by omega)]
/-- the class's tallies: of the first s seats -/
def taI (I : Nat → Nat → Int32) (tt n : Nat) (ch : Nat → Nat → Nat) (c : Nat → Nat) : Prop := ∀ s x, s ≤ n → x < 4 → I tt (s * 4 + x) = nI (tal ch c s x)
def trI (I : Nat → Nat → Int32) (t ct n : Nat) (ch : Nat → Nat → Nat) (c : Nat → Nat) : Prop := I t 0 = nI n ∧ ∀ d i, d + i < n → I ct (d * 8 + i) = nI (tri ch c d i)
theorem p_tallyEdge {I : Nat → Nat → Int32} {L : Nat → Nat → Int64} {Z : zZ} {t ct tt s : Nat} {ch : Nat → Nat → Nat} {c : Nat → Nat} (h : isTri Z t ct tt) (hs : s < 8) (htri : ∀ d i, d + i < s + 1 → tri ch c d i < 4) (hC : ∀ d i, d + i < s + 1 → I ct (d * 8 + i) = nI (tri ch c d i)) (hA : taI I tt s ch c) :
    ∃ I', fX10_tallyEdge [.ref t, .int (nI s)] (I, L, Z) = some (none, (I', L, Z)) ∧ taI I' tt (s + 1) ch c ∧ ∀ q, q ≠ tt → I' q = I q := by
  obtain ⟨h1, h2, h3, h4, h5, h6, h7, h8⟩ := id h
  have e0 : fX10_tallyEdge [.ref t, .int (nI s)] (I, L, Z) = kX10_tallyEdge_0 [some (.ref t), some (.int (nI s)), none, none] [] (I, L, Z) := rfl
  rw [e0]
  simp (disch := omega) only [kX10_tallyEdge_0, kX10_tallyEdge_10, kX10_tallyEdge_17, q_push, q_pushl, q_iload, q_lload, q_aload, q_istore, q_astore, q_lstore, q_iinc, q_iadd, q_isub, q_imul, q_iand, q_ior, q_ixor, q_ishl, q_ishr, q_iushr, q_idiv, q_irem, q_ladd, q_lsub, q_lmul, q_lcmp, q_mmax, q_mmin, q_i2l, q_l2i, q_i2b, q_i2c, q_dup, q_dup2, q_pop, q_icmp_eq, q_icmp_ne, q_icmp_lt, q_icmp_ge, q_icmp_gt, q_icmp_le, q_if_eq, q_if_ne, q_if_lt, q_if_ge, q_if_gt, q_if_le, q_getI, q_getR, q_putI, q_putZ, q_putR, q_iald, q_bald, q_zald, q_lald, q_aald, q_alen, q_iast, q_bast, q_zast, q_last, q_aast, q_iret, q_zret, q_lret, q_vret, q_obj, q_callV, q_callS, q_callT, q_acpy, q_ldcS, q_dn, q_ag, z_pop, List.getElem?_cons_zero, List.getElem?_cons_succ, List.set_cons_zero, List.set_cons_succ, List.length_cons, List.length_nil, z_nol, Option.map_some, Option.toList_some, Option.toList_none, List.cons_append, List.nil_append, n_lit, n_m1, n_m2, n_m1lt, n_m1le, n_rem, n_div, n_out, n_cl, n_eq, n_le, n_lt, n_add, n_mul, n_sub, n_nle, n_yle, n_nlt, n_ylt, n_neN, z_lay, z_sz, z_str, z_stI, z_stL, z_stR, eq_self, reduceIte, true_and, and_true, and_self, false_and, and_false, or_self, false_or, or_false, true_or, or_true, not_true_eq_false, not_false_eq_true, Nat.reduceLeDiff, Nat.reduceLT, Nat.reduceAdd, Nat.reduceEqDiff, Nat.reduceMul, Nat.reduceSub, Value.category, Nat.zero_le, beq_self_eq_true]
  refine lp_ex
    (fun k ls σ => ∃ J : Nat → Nat → Int32, ls = [some (.ref t), some (.int (nI s)), some (.int (nI (s * 4))), some (.int (nI (s * 4 + k)))] ∧ σ = (J, L, Z) ∧ taI J tt s ch c ∧ (∀ x, x < k → J tt ((s + 1) * 4 + x) = nI (tal ch c s x)) ∧ ∀ q, q ≠ tt → J q = I q) 4 ⟨I, rfl, rfl, hA, fun x hx => by omega, fun _ _ => rfl⟩ ?_ ?_
  · rintro ls σ ⟨J, rfl, rfl, q1, q2, q3⟩
    have e1 : bX10_tallyEdge_17 [some (.ref t), some (.int (nI s)), some (.int (nI (s * 4))), some (.int (nI (s * 4 + 4)))] [] (J, L, Z) = (q_lp bX10_tallyEdge_46 [some (.ref t), some (.int (nI s)), some (.int (nI (s * 4))), some (.int (nI 0))] [] (J, L, Z)).map .inr := by
      simp (disch := omega) only [bX10_tallyEdge_17, kX10_tallyEdge_44, kX10_tallyEdge_46, q_push, q_pushl, q_iload, q_lload, q_aload, q_istore, q_astore, q_lstore, q_iinc, q_iadd, q_isub, q_imul, q_iand, q_ior, q_ixor, q_ishl, q_ishr, q_iushr, q_idiv, q_irem, q_ladd, q_lsub, q_lmul, q_lcmp, q_mmax, q_mmin, q_i2l, q_l2i, q_i2b, q_i2c, q_dup, q_dup2, q_pop, q_icmp_eq, q_icmp_ne, q_icmp_lt, q_icmp_ge, q_icmp_gt, q_icmp_le, q_if_eq, q_if_ne, q_if_lt, q_if_ge, q_if_gt, q_if_le, q_getI, q_getR, q_putI, q_putZ, q_putR, q_iald, q_bald, q_zald, q_lald, q_aald, q_alen, q_iast, q_bast, q_zast, q_last, q_aast, q_iret, q_zret, q_lret, q_vret, q_obj, q_callV, q_callS, q_callT, q_acpy, q_ldcS, q_dn, q_ag, z_pop, List.getElem?_cons_zero, List.getElem?_cons_succ, List.set_cons_zero, List.set_cons_succ, List.length_cons, List.length_nil, z_nol, Option.map_some, Option.toList_some, Option.toList_none, List.cons_append, List.nil_append, n_lit, n_m1, n_m2, n_m1lt, n_m1le, n_rem, n_div, n_out, n_cl, n_eq, n_le, n_lt, n_add, n_mul, n_sub, n_nle, n_yle, n_nlt, n_ylt, n_neN, z_lay, z_sz, z_str, z_stI, z_stL, z_stR, eq_self, reduceIte, true_and, and_true, and_self, false_and, and_false, or_self, false_or, or_false, true_or, or_true, not_true_eq_false, not_false_eq_true, Nat.reduceLeDiff, Nat.reduceLT, Nat.reduceAdd, Nat.reduceEqDiff, Nat.reduceMul, Nat.reduceSub, Value.category, Nat.zero_le, beq_self_eq_true]
    have key : ∃ I' : Nat → Nat → Int32, q_lp bX10_tallyEdge_46 [some (.ref t), some (.int (nI s)), some (.int (nI (s * 4))), some (.int (nI 0))] [] (J, L, Z) = some (none, (I', L, Z)) ∧ taI I' tt (s + 1) ch c ∧ ∀ q, q ≠ tt → I' q = I q := by
      refine lp_ex
        (fun k ls σ => ∃ K : Nat → Nat → Int32, ls = [some (.ref t), some (.int (nI s)), some (.int (nI (s * 4))), some (.int (nI k))] ∧ σ = (K, L, Z) ∧ taI K tt s ch c ∧ (∀ x, x < 4 → K tt ((s + 1) * 4 + x) = nI (tal ch c s x + smN (fun d => hitT ch c x d (s - d)) k)) ∧ ∀ q, q ≠ tt → K q = I q) (s + 1) ⟨J, rfl, rfl, q1, fun x hx => by rw [q2 x hx]; rfl, q3⟩ ?_ ?_
      · rintro ls σ ⟨K, rfl, rfl, p1, p2, p3⟩
        refine ⟨K, ?_, fun s' x hs' hx => ?_, p3⟩
        · simp (disch := omega) only [bX10_tallyEdge_46, kX10_tallyEdge_78, q_push, q_pushl, q_iload, q_lload, q_aload, q_istore, q_astore, q_lstore, q_iinc, q_iadd, q_isub, q_imul, q_iand, q_ior, q_ixor, q_ishl, q_ishr, q_iushr, q_idiv, q_irem, q_ladd, q_lsub, q_lmul, q_lcmp, q_mmax, q_mmin, q_i2l, q_l2i, q_i2b, q_i2c, q_dup, q_dup2, q_pop, q_icmp_eq, q_icmp_ne, q_icmp_lt, q_icmp_ge, q_icmp_gt, q_icmp_le, q_if_eq, q_if_ne, q_if_lt, q_if_ge, q_if_gt, q_if_le, q_getI, q_getR, q_putI, q_putZ, q_putR, q_iald, q_bald, q_zald, q_lald, q_aald, q_alen, q_iast, q_bast, q_zast, q_last, q_aast, q_iret, q_zret, q_lret, q_vret, q_obj, q_callV, q_callS, q_callT, q_acpy, q_ldcS, q_dn, q_ag, z_pop, List.getElem?_cons_zero, List.getElem?_cons_succ, List.set_cons_zero, List.set_cons_succ, List.length_cons, List.length_nil, z_nol, Option.map_some, Option.toList_some, Option.toList_none, List.cons_append, List.nil_append, n_lit, n_m1, n_m2, n_m1lt, n_m1le, n_rem, n_div, n_out, n_cl, n_eq, n_le, n_lt, n_add, n_mul, n_sub, n_nle, n_yle, n_nlt, n_ylt, n_neN, z_lay, z_sz, z_str, z_stI, z_stL, z_stR, eq_self, reduceIte, true_and, and_true, and_self, false_and, and_false, or_self, false_or, or_false, true_or, or_true, not_true_eq_false, not_false_eq_true, Nat.reduceLeDiff, Nat.reduceLT, Nat.reduceAdd, Nat.reduceEqDiff, Nat.reduceMul, Nat.reduceSub, Value.category, Nat.zero_le, beq_self_eq_true]
        · rcases Nat.lt_or_ge s s' with hl | hl
          · have e : s' = s + 1 := by omega
            subst e
            rw [p2 x hx]
            rfl
          · exact p1 s' x hl hx
      · rintro k hk ls σ ⟨K, rfl, rfl, p1, p2, p3⟩
        have hv := htri k (s - k) (by omega)
        have a1 := p_cell (I := K) (L := L) (d := k) (i := s - k) h (by omega) (by omega)
        rw [p3 ct h8, hC k (s - k) (by omega)] at a1
        have a2 := p2 _ hv
        have b1 := tal_le ch c (n := s) (tri ch c k (s - k)) (by omega)
        have b2 : smN (fun d => hitT ch c (tri ch c k (s - k)) d (s - d)) k ≤ k * 1 := smN_le (fun d _ => hitT_le ch c _ d (s - d))
        refine ⟨_, (z_up K tt ((s + 1) * 4 + tri ch c k (s - k)) (nI (tal ch c s (tri ch c k (s - k)) + smN (fun d => hitT ch c (tri ch c k (s - k)) d (s - d)) k + 1)), L, Z), ?_, _, rfl, rfl, ?_, ?_, ?_⟩
        · have e3 : s * 4 + 4 + tri ch c k (s - k) = (s + 1) * 4 + tri ch c k (s - k) := by omega
          simp (disch := omega) only [bX10_tallyEdge_46, h1, h3, h5, a1, e3, a2, q_push, q_pushl, q_iload, q_lload, q_aload, q_istore, q_astore, q_lstore, q_iinc, q_iadd, q_isub, q_imul, q_iand, q_ior, q_ixor, q_ishl, q_ishr, q_iushr, q_idiv, q_irem, q_ladd, q_lsub, q_lmul, q_lcmp, q_mmax, q_mmin, q_i2l, q_l2i, q_i2b, q_i2c, q_dup, q_dup2, q_pop, q_icmp_eq, q_icmp_ne, q_icmp_lt, q_icmp_ge, q_icmp_gt, q_icmp_le, q_if_eq, q_if_ne, q_if_lt, q_if_ge, q_if_gt, q_if_le, q_getI, q_getR, q_putI, q_putZ, q_putR, q_iald, q_bald, q_zald, q_lald, q_aald, q_alen, q_iast, q_bast, q_zast, q_last, q_aast, q_iret, q_zret, q_lret, q_vret, q_obj, q_callV, q_callS, q_callT, q_acpy, q_ldcS, q_dn, q_ag, z_pop, List.getElem?_cons_zero, List.getElem?_cons_succ, List.set_cons_zero, List.set_cons_succ, List.length_cons, List.length_nil, z_nol, Option.map_some, Option.toList_some, Option.toList_none, List.cons_append, List.nil_append, n_lit, n_m1, n_m2, n_m1lt, n_m1le, n_rem, n_div, n_out, n_cl, n_eq, n_le, n_lt, n_add, n_mul, n_sub, n_nle, n_yle, n_nlt, n_ylt, n_neN, z_lay, z_sz, z_str, z_stI, z_stL, z_stR, eq_self, reduceIte, true_and, and_true, and_self, false_and, and_false, or_self, false_or, or_false, true_or, or_true, not_true_eq_false, not_false_eq_true, Nat.reduceLeDiff, Nat.reduceLT, Nat.reduceAdd, Nat.reduceEqDiff, Nat.reduceMul, Nat.reduceSub, Value.category, Nat.zero_le, beq_self_eq_true]
        · intro s' x hs' hx
          rw [← p1 s' x hs' hx]
          exact if_neg (by omega)
        · intro x hx
          by_cases e : x = tri ch c k (s - k)
          · subst e
            rw [show z_up K tt ((s + 1) * 4 + tri ch c k (s - k)) _ tt ((s + 1) * 4 + tri ch c k (s - k)) = _ from if_pos ⟨rfl, rfl⟩]
            rw [smN, show hitT ch c (tri ch c k (s - k)) k (s - k) = 1 from if_pos rfl]
            rfl
          · rw [show z_up K tt ((s + 1) * 4 + tri ch c k (s - k)) _ tt ((s + 1) * 4 + x) = _ from if_neg (by omega), p2 x hx, smN, show hitT ch c x k (s - k) = 0 from if_neg (fun z => e z.symm)]
            rfl
        · intro q hq
          rw [← p3 q hq]
          funext j
          simp [z_up, hq]
    obtain ⟨I', ka, kb⟩ := key
    exact ⟨I', by rw [e1, ka]; rfl, kb⟩
  · rintro k hk ls σ ⟨J, rfl, rfl, q1, q2, q3⟩
    have v := q1 s k (Nat.le_refl _) hk
    refine ⟨_, (z_up J tt ((s + 1) * 4 + k) (nI (tal ch c s k)), L, Z), ?_, _, rfl, rfl, ?_, ?_, ?_⟩
    · have e3 : s * 4 + k + 4 = (s + 1) * 4 + k := by omega
      simp (disch := omega) only [bX10_tallyEdge_17, h1, h3, h5, v, e3, Nat.add_assoc, q_push, q_pushl, q_iload, q_lload, q_aload, q_istore, q_astore, q_lstore, q_iinc, q_iadd, q_isub, q_imul, q_iand, q_ior, q_ixor, q_ishl, q_ishr, q_iushr, q_idiv, q_irem, q_ladd, q_lsub, q_lmul, q_lcmp, q_mmax, q_mmin, q_i2l, q_l2i, q_i2b, q_i2c, q_dup, q_dup2, q_pop, q_icmp_eq, q_icmp_ne, q_icmp_lt, q_icmp_ge, q_icmp_gt, q_icmp_le, q_if_eq, q_if_ne, q_if_lt, q_if_ge, q_if_gt, q_if_le, q_getI, q_getR, q_putI, q_putZ, q_putR, q_iald, q_bald, q_zald, q_lald, q_aald, q_alen, q_iast, q_bast, q_zast, q_last, q_aast, q_iret, q_zret, q_lret, q_vret, q_obj, q_callV, q_callS, q_callT, q_acpy, q_ldcS, q_dn, q_ag, z_pop, List.getElem?_cons_zero, List.getElem?_cons_succ, List.set_cons_zero, List.set_cons_succ, List.length_cons, List.length_nil, z_nol, Option.map_some, Option.toList_some, Option.toList_none, List.cons_append, List.nil_append, n_lit, n_m1, n_m2, n_m1lt, n_m1le, n_rem, n_div, n_out, n_cl, n_eq, n_le, n_lt, n_add, n_mul, n_sub, n_nle, n_yle, n_nlt, n_ylt, n_neN, z_lay, z_sz, z_str, z_stI, z_stL, z_stR, eq_self, reduceIte, true_and, and_true, and_self, false_and, and_false, or_self, false_or, or_false, true_or, or_true, not_true_eq_false, not_false_eq_true, Nat.reduceLeDiff, Nat.reduceLT, Nat.reduceAdd, Nat.reduceEqDiff, Nat.reduceMul, Nat.reduceSub, Value.category, Nat.zero_le, beq_self_eq_true]
    · intro s' x hs' hx
      rw [← q1 s' x hs' hx]
      exact if_neg (by omega)
    · intro x hx
      rcases Nat.lt_or_ge x k with hl | hl
      · rw [← q2 x hl]
        exact if_neg (by omega)
      · have e : x = k := by omega
        subst e
        exact if_pos ⟨rfl, rfl⟩
    · intro q hq
      rw [← q3 q hq]
      funext j
      simp [z_up, hq]
