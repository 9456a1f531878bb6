--deps: 54.lazy 54.mem 55.mem2 56.rmem 57.spec 58.inv 59.keep 60.fin 61.ops2 62.ops3 63.tape 64.told 65.ev 66.law 67.expr 68.good
/-! the reference's terms -/
theorem seg_tail {I : Nat → Nat → Int32} {M p : Nat} {q : Nat × Nat} {c : List (Nat × Nat)} (h : segR I M p (q :: c)) : I (M + 24) p = nI q.1 ∧ I (M + 25) p = nI q.2 ∧ segR I M (p + 1) c := by
  obtain ⟨h1, h2⟩ := h
  have h0 := h2 0 q rfl
  rw [Nat.add_zero] at h0
  refine ⟨h0.1, h0.2, ?_, fun k x hx => ?_⟩
  · simp only [List.length_cons] at h1; omega
  · have := h2 (k + 1) x hx
    rw [show p + (k + 1) = p + 1 + k by omega] at this
    exact this
/-- the pile, the last laid first -/
def pileI (I : Nat → Nat → Int32) (M : Nat) : List Int32 → Prop
  | [] => True
  | x :: st => I (M + 28) st.length = x ∧ pileI I M st
theorem pileI.keep {I J : Nat → Nat → Int32} {M : Nat} : ∀ {st : List Int32}, pileI I M st → (∀ k, k < st.length → J (M + 28) k = I (M + 28) k) → pileI J M st
  | [], _, _ => trivial
  | x :: st, h, he => ⟨by rw [he _ (by simp)]; exact h.1, h.2.keep (fun k hk => he k (by simp only [List.length_cons]; omega))⟩
theorem r_term_lp {I : Nat → Nat → Int32} {L : Nat → Nat → Int64} {Z : zZ} {M : Nat} {vs : Nat → Int32} {a1 : Value} (h : isMod Z M) (hv : ∀ k, k < 9 → I (M + 27) k = vs k) : ∀ (c : List (Nat × Nat)) (st : List Int32) (p : Nat) (J : Nat → Nat → Int32) (a5 a6 a7 : Option Value), segR I M p c → (∀ q ∈ c, cdOK q) → dpt c st.length = some 1 → st.length + c.length ≤ 400 → pileI J M st → (∀ q, q ≠ M + 28 → J q = I q) →
    ∃ x J', q_lp bX12_termOf_5 [some (.ref (M)), some a1, some (.int (nI (p + c.length))), some (.int (nI (st.length))), some (.int (nI (p))), a5, a6, a7] [] (J, L, Z) = some (some (.int x), (J', L, Z)) ∧ (∀ q, q ≠ M → q ≠ M + 28 → J' q = I q) ∧ (∀ j, j ≠ 45 → J' M j = I M j) ∧ evQ ((ev vs c st).bind List.head?) x (I M 45) (J' M 45) := by
  intro c
  induction c with
  | nil =>
    intro st p J a5 a6 a7 hs hc hd hl hp hJ
    cases st with
    | nil => cases hd
    | cons x st =>
      cases st with
      | cons y st => simp [dpt] at hd
      | nil =>
        have v0 : J (M + 28) 0 = x := hp.1
        have hp8 := hs.1
        simp only [List.length_nil, Nat.add_zero] at hp8
        refine ⟨x, J, ?_, fun q q1 q2 => hJ q q2, fun j hj => by rw [hJ M (by omega)], ⟨rfl, by rw [hJ M (by omega)]⟩⟩
        rw [q_lp_eq]
        simp (disch := omega) only [bX12_termOf_5, kX12_termOf_165, kX12_termOf_159, kX12_termOf_158, kX12_termOf_104, kX12_termOf_97, kX12_termOf_58, kX12_termOf_5, kX12_termOf_0, h.1, mr_pile h, ml_pile h, v0, Nat.add_zero, e_push, e_pushl, e_iload, e_lload, e_aload, e_istore, e_astore, e_lstore, e_iinc, e_iadd, e_isub, e_imul, e_iand, e_ior, e_ixor, e_ishl, e_ishr, e_iushr, e_idiv, e_irem, e_ladd, e_lsub, e_lmul, e_lcmp, e_mmax, e_mmin, e_i2l, e_l2i, e_i2b, e_i2c, e_dup, e_dup2, e_pop, e_icmp_eq, e_icmp_ne, e_icmp_lt, e_icmp_ge, e_icmp_gt, e_icmp_le, e_if_eq, e_if_ne, e_if_lt, e_if_ge, e_if_gt, e_if_le, e_getI, e_getR, e_putI, e_putZ, e_putR, e_iald, e_bald, e_zald, e_lald, e_aald, e_alen, e_iast, e_bast, e_zast, e_last, e_aast, e_iret, e_zret, e_lret, e_vret, e_obj, e_callV, e_callS, e_callT, e_acpy, e_ldcS, e_dn, e_ag, z_pop, List.getElem?_cons_zero, List.getElem?_cons_succ, List.set_cons_zero, List.set_cons_succ, List.length_cons, List.length_nil, z_nol, Option.map_some, Option.toList_some, Option.toList_none, List.cons_append, List.nil_append, n_lit, n_m1, n_m2, n_m1lt, n_m1le, n_rem, n_div, n_out, n_cl, n_eq, n_le, n_lt, n_add, n_mul, n_sub, n_nle, n_yle, n_nlt, n_ylt, n_neN, z_lay, z_sz, z_str, z_stI, z_stL, z_stR, eq_self, ↓reduceIte, true_and, and_true, and_self, false_and, and_false, or_self, false_or, or_false, true_or, or_true, not_true_eq_false, not_false_eq_true, Nat.reduceLeDiff, Nat.reduceLT, Nat.reduceAdd, Nat.reduceEqDiff, Nat.reduceMul, Nat.reduceSub, Value.category, Nat.zero_le, beq_self_eq_true]
  | cons q c ih =>
    intro st p J a5 a6 a7 hs hc hd hl hp hJ
    obtain ⟨s1, s2, s3⟩ := seg_tail hs
    have hp8 := hs.1
    simp only [List.length_cons] at hp8 hl
    obtain ⟨k1, k2, k3⟩ := hc q List.mem_cons_self
    have hc' := fun x hx => hc x (List.mem_cons_of_mem _ hx)
    have u1 : J (M + 24) p = nI q.1 := by rw [hJ _ (by omega), s1]
    have u2 : J (M + 25) p = nI q.2 := by rw [hJ _ (by omega), s2]
    rw [dpt] at hd
    have e9 : p + (c.length + 1) = p + 1 + c.length := by omega
    by_cases q0 : q.1 = 0
    · rw [q0] at u1
      rw [if_pos (by omega)] at hd
      obtain ⟨x, J', r1, r2, r3, r4⟩ := ih (nI q.2 :: st) (p + 1) (z_up J (M + 28) st.length (nI q.2)) (some (.int (nI 0))) a6 a7 s3 hc' hd (by simp only [List.length_cons]; omega) ⟨zup_at, hp.keep (fun k hk => zup_ne (by omega))⟩ (fun z hz => by rw [zup_off hz, hJ z hz])
      refine ⟨x, J', ?_, r2, r3, ?_⟩
      · rw [← r1, q_lp_eq]
        simp only [List.length_cons]
        simp (disch := omega) only [bX12_termOf_5, kX12_termOf_165, kX12_termOf_159, kX12_termOf_158, kX12_termOf_104, kX12_termOf_97, kX12_termOf_58, kX12_termOf_5, kX12_termOf_0, h.1, mr_pile h, ml_pile h, mr_code h, ml_code h, mr_codeInt h, ml_codeInt h, u1, u2, e9, e_push, e_pushl, e_iload, e_lload, e_aload, e_istore, e_astore, e_lstore, e_iinc, e_iadd, e_isub, e_imul, e_iand, e_ior, e_ixor, e_ishl, e_ishr, e_iushr, e_idiv, e_irem, e_ladd, e_lsub, e_lmul, e_lcmp, e_mmax, e_mmin, e_i2l, e_l2i, e_i2b, e_i2c, e_dup, e_dup2, e_pop, e_icmp_eq, e_icmp_ne, e_icmp_lt, e_icmp_ge, e_icmp_gt, e_icmp_le, e_if_eq, e_if_ne, e_if_lt, e_if_ge, e_if_gt, e_if_le, e_getI, e_getR, e_putI, e_putZ, e_putR, e_iald, e_bald, e_zald, e_lald, e_aald, e_alen, e_iast, e_bast, e_zast, e_last, e_aast, e_iret, e_zret, e_lret, e_vret, e_obj, e_callV, e_callS, e_callT, e_acpy, e_ldcS, e_dn, e_ag, z_pop, List.getElem?_cons_zero, List.getElem?_cons_succ, List.set_cons_zero, List.set_cons_succ, List.length_cons, List.length_nil, z_nol, Option.map_some, Option.toList_some, Option.toList_none, List.cons_append, List.nil_append, n_lit, n_m1, n_m2, n_m1lt, n_m1le, n_rem, n_div, n_out, n_cl, n_eq, n_le, n_lt, n_add, n_mul, n_sub, n_nle, n_yle, n_nlt, n_ylt, n_neN, z_lay, z_sz, z_str, z_stI, z_stL, z_stR, eq_self, ↓reduceIte, true_and, and_true, and_self, false_and, and_false, or_self, false_or, or_false, true_or, or_true, not_true_eq_false, not_false_eq_true, Nat.reduceLeDiff, Nat.reduceLT, Nat.reduceAdd, Nat.reduceEqDiff, Nat.reduceMul, Nat.reduceSub, Value.category, Nat.zero_le, beq_self_eq_true]
      · rw [ev_cons, if_pos q0]
        exact r4
    · by_cases q1 : q.1 = 1
      · rw [q1] at u1
        rw [if_pos (by omega)] at hd
        have u3 : J (M + 27) q.2 = vs q.2 := by rw [hJ _ (by omega), hv _ (k2 q1)]
        have k4 := k2 q1
        obtain ⟨x, J', r1, r2, r3, r4⟩ := ih (vs q.2 :: st) (p + 1) (z_up J (M + 28) st.length (vs q.2)) (some (.int (nI 1))) a6 a7 s3 hc' hd (by simp only [List.length_cons]; omega) ⟨zup_at, hp.keep (fun k hk => zup_ne (by omega))⟩ (fun z hz => by rw [zup_off hz, hJ z hz])
        refine ⟨x, J', ?_, r2, r3, ?_⟩
        · rw [← r1, q_lp_eq]
          simp only [List.length_cons]
          simp (disch := omega) only [bX12_termOf_5, kX12_termOf_165, kX12_termOf_159, kX12_termOf_158, kX12_termOf_104, kX12_termOf_97, kX12_termOf_58, kX12_termOf_5, kX12_termOf_0, h.1, mr_pile h, ml_pile h, mr_code h, ml_code h, mr_codeInt h, ml_codeInt h, mr_variables h, ml_variables h, u1, u2, u3, e9, e_push, e_pushl, e_iload, e_lload, e_aload, e_istore, e_astore, e_lstore, e_iinc, e_iadd, e_isub, e_imul, e_iand, e_ior, e_ixor, e_ishl, e_ishr, e_iushr, e_idiv, e_irem, e_ladd, e_lsub, e_lmul, e_lcmp, e_mmax, e_mmin, e_i2l, e_l2i, e_i2b, e_i2c, e_dup, e_dup2, e_pop, e_icmp_eq, e_icmp_ne, e_icmp_lt, e_icmp_ge, e_icmp_gt, e_icmp_le, e_if_eq, e_if_ne, e_if_lt, e_if_ge, e_if_gt, e_if_le, e_getI, e_getR, e_putI, e_putZ, e_putR, e_iald, e_bald, e_zald, e_lald, e_aald, e_alen, e_iast, e_bast, e_zast, e_last, e_aast, e_iret, e_zret, e_lret, e_vret, e_obj, e_callV, e_callS, e_callT, e_acpy, e_ldcS, e_dn, e_ag, z_pop, List.getElem?_cons_zero, List.getElem?_cons_succ, List.set_cons_zero, List.set_cons_succ, List.length_cons, List.length_nil, z_nol, Option.map_some, Option.toList_some, Option.toList_none, List.cons_append, List.nil_append, n_lit, n_m1, n_m2, n_m1lt, n_m1le, n_rem, n_div, n_out, n_cl, n_eq, n_le, n_lt, n_add, n_mul, n_sub, n_nle, n_yle, n_nlt, n_ylt, n_neN, z_lay, z_sz, z_str, z_stI, z_stL, z_stR, eq_self, ↓reduceIte, true_and, and_true, and_self, false_and, and_false, or_self, false_or, or_false, true_or, or_true, not_true_eq_false, not_false_eq_true, Nat.reduceLeDiff, Nat.reduceLT, Nat.reduceAdd, Nat.reduceEqDiff, Nat.reduceMul, Nat.reduceSub, Value.category, Nat.zero_le, beq_self_eq_true]
        · rw [ev_cons, if_neg q0, if_pos q1]
          exact r4
      · rw [if_neg (by omega)] at hd
        split at hd
        · rename_i hst
          cases st with
          | nil => simp at hst
          | cons b st =>
            cases st with
            | nil => simp at hst
            | cons a st =>
              obtain ⟨p1, p2, p3⟩ := hp
              simp only [List.length_cons] at hl p1 hd
              have m1 : nI (st.length + 1 + 1) + -nI 1 = nI (st.length + 1) := by rw [← Int32.sub_eq_add_neg, n_sub (by omega)]; congr 1
              have em : nI (st.length + 1 + 1) + nM1 = nI (st.length + 1) := m1
              by_cases q5 : q.1 = 5 ∧ b = nI 0
              · refine ⟨nI 0, z_up J M 45 (nI 1), ?_, fun z z1 z2 => by rw [zup_off z1, hJ z z2], fun j hj => by rw [zup_ne hj, hJ M (by omega)], ?_⟩
                · rw [q_lp_eq]
                  rw [q5.1] at u1
                  rw [q5.2] at p1
                  simp only [List.length_cons]
                  simp (disch := omega) only [bX12_termOf_5, kX12_termOf_165, kX12_termOf_159, kX12_termOf_158, kX12_termOf_104, kX12_termOf_97, kX12_termOf_58, kX12_termOf_5, kX12_termOf_0, h.1, mr_pile h, ml_pile h, mr_code h, ml_code h, u1, p1, p2, em, Nat.add_sub_cancel, e_push, e_pushl, e_iload, e_lload, e_aload, e_istore, e_astore, e_lstore, e_iinc, e_iadd, e_isub, e_imul, e_iand, e_ior, e_ixor, e_ishl, e_ishr, e_iushr, e_idiv, e_irem, e_ladd, e_lsub, e_lmul, e_lcmp, e_mmax, e_mmin, e_i2l, e_l2i, e_i2b, e_i2c, e_dup, e_dup2, e_pop, e_icmp_eq, e_icmp_ne, e_icmp_lt, e_icmp_ge, e_icmp_gt, e_icmp_le, e_if_eq, e_if_ne, e_if_lt, e_if_ge, e_if_gt, e_if_le, e_getI, e_getR, e_putI, e_putZ, e_putR, e_iald, e_bald, e_zald, e_lald, e_aald, e_alen, e_iast, e_bast, e_zast, e_last, e_aast, e_iret, e_zret, e_lret, e_vret, e_obj, e_callV, e_callS, e_callT, e_acpy, e_ldcS, e_dn, e_ag, z_pop, List.getElem?_cons_zero, List.getElem?_cons_succ, List.set_cons_zero, List.set_cons_succ, List.length_cons, List.length_nil, z_nol, Option.map_some, Option.toList_some, Option.toList_none, List.cons_append, List.nil_append, n_lit, n_m1, n_m2, n_m1lt, n_m1le, n_rem, n_div, n_out, n_cl, n_eq, n_le, n_lt, n_add, n_mul, n_sub, n_nle, n_yle, n_nlt, n_ylt, n_neN, z_lay, z_sz, z_str, z_stI, z_stL, z_stR, eq_self, ↓reduceIte, true_and, and_true, and_self, false_and, and_false, or_self, false_or, or_false, true_or, or_true, not_true_eq_false, not_false_eq_true, Nat.reduceLeDiff, Nat.reduceLT, Nat.reduceAdd, Nat.reduceEqDiff, Nat.reduceMul, Nat.reduceSub, Value.category, Nat.zero_le, beq_self_eq_true]
                · rw [ev_cons, if_neg q0, if_neg q1]
                  show evQ ((if q.1 = 5 ∧ b = nI 0 then none else ev vs c (opv q.1 a b :: st)).bind List.head?) _ _ _
                  rw [if_pos q5]
                  exact zup_at
              · obtain ⟨x, J', r1, r2, r3, r4⟩ := ih (opv q.1 a b :: st) (p + 1) (z_up J (M + 28) st.length (opv q.1 a b)) (some (.int (nI q.1))) (some (.int a)) (some (.int b)) s3 hc' (by simpa using hd) (by simp only [List.length_cons]; omega) ⟨zup_at, p3.keep (fun k hk => zup_ne (by omega))⟩ (fun z hz => by rw [zup_off hz, hJ z hz])
                refine ⟨x, J', ?_, r2, r3, ?_⟩
                · rw [← r1, q_lp_eq]
                  simp only [List.length_cons]
                  have hk : q.1 = 2 ∨ q.1 = 3 ∨ q.1 = 4 ∨ q.1 = 5 := by omega
                  rcases hk with hk | hk | hk | hk
                  · rw [hk] at u1 ⊢
                    simp (disch := omega) only [bX12_termOf_5, kX12_termOf_165, kX12_termOf_159, kX12_termOf_158, kX12_termOf_104, kX12_termOf_97, kX12_termOf_58, kX12_termOf_5, kX12_termOf_0, h.1, mr_pile h, ml_pile h, mr_code h, ml_code h, u1, p1, p2, em, Nat.add_sub_cancel, opv, e9, e_push, e_pushl, e_iload, e_lload, e_aload, e_istore, e_astore, e_lstore, e_iinc, e_iadd, e_isub, e_imul, e_iand, e_ior, e_ixor, e_ishl, e_ishr, e_iushr, e_idiv, e_irem, e_ladd, e_lsub, e_lmul, e_lcmp, e_mmax, e_mmin, e_i2l, e_l2i, e_i2b, e_i2c, e_dup, e_dup2, e_pop, e_icmp_eq, e_icmp_ne, e_icmp_lt, e_icmp_ge, e_icmp_gt, e_icmp_le, e_if_eq, e_if_ne, e_if_lt, e_if_ge, e_if_gt, e_if_le, e_getI, e_getR, e_putI, e_putZ, e_putR, e_iald, e_bald, e_zald, e_lald, e_aald, e_alen, e_iast, e_bast, e_zast, e_last, e_aast, e_iret, e_zret, e_lret, e_vret, e_obj, e_callV, e_callS, e_callT, e_acpy, e_ldcS, e_dn, e_ag, z_pop, List.getElem?_cons_zero, List.getElem?_cons_succ, List.set_cons_zero, List.set_cons_succ, List.length_cons, List.length_nil, z_nol, Option.map_some, Option.toList_some, Option.toList_none, List.cons_append, List.nil_append, n_lit, n_m1, n_m2, n_m1lt, n_m1le, n_rem, n_div, n_out, n_cl, n_eq, n_le, n_lt, n_add, n_mul, n_sub, n_nle, n_yle, n_nlt, n_ylt, n_neN, z_lay, z_sz, z_str, z_stI, z_stL, z_stR, eq_self, ↓reduceIte, true_and, and_true, and_self, false_and, and_false, or_self, false_or, or_false, true_or, or_true, not_true_eq_false, not_false_eq_true, Nat.reduceLeDiff, Nat.reduceLT, Nat.reduceAdd, Nat.reduceEqDiff, Nat.reduceMul, Nat.reduceSub, Value.category, Nat.zero_le, beq_self_eq_true]
                  · rw [hk] at u1 ⊢
                    simp (disch := omega) only [bX12_termOf_5, kX12_termOf_165, kX12_termOf_159, kX12_termOf_158, kX12_termOf_104, kX12_termOf_97, kX12_termOf_58, kX12_termOf_5, kX12_termOf_0, h.1, mr_pile h, ml_pile h, mr_code h, ml_code h, u1, p1, p2, em, Nat.add_sub_cancel, opv, e9, e_push, e_pushl, e_iload, e_lload, e_aload, e_istore, e_astore, e_lstore, e_iinc, e_iadd, e_isub, e_imul, e_iand, e_ior, e_ixor, e_ishl, e_ishr, e_iushr, e_idiv, e_irem, e_ladd, e_lsub, e_lmul, e_lcmp, e_mmax, e_mmin, e_i2l, e_l2i, e_i2b, e_i2c, e_dup, e_dup2, e_pop, e_icmp_eq, e_icmp_ne, e_icmp_lt, e_icmp_ge, e_icmp_gt, e_icmp_le, e_if_eq, e_if_ne, e_if_lt, e_if_ge, e_if_gt, e_if_le, e_getI, e_getR, e_putI, e_putZ, e_putR, e_iald, e_bald, e_zald, e_lald, e_aald, e_alen, e_iast, e_bast, e_zast, e_last, e_aast, e_iret, e_zret, e_lret, e_vret, e_obj, e_callV, e_callS, e_callT, e_acpy, e_ldcS, e_dn, e_ag, z_pop, List.getElem?_cons_zero, List.getElem?_cons_succ, List.set_cons_zero, List.set_cons_succ, List.length_cons, List.length_nil, z_nol, Option.map_some, Option.toList_some, Option.toList_none, List.cons_append, List.nil_append, n_lit, n_m1, n_m2, n_m1lt, n_m1le, n_rem, n_div, n_out, n_cl, n_eq, n_le, n_lt, n_add, n_mul, n_sub, n_nle, n_yle, n_nlt, n_ylt, n_neN, z_lay, z_sz, z_str, z_stI, z_stL, z_stR, eq_self, ↓reduceIte, true_and, and_true, and_self, false_and, and_false, or_self, false_or, or_false, true_or, or_true, not_true_eq_false, not_false_eq_true, Nat.reduceLeDiff, Nat.reduceLT, Nat.reduceAdd, Nat.reduceEqDiff, Nat.reduceMul, Nat.reduceSub, Value.category, Nat.zero_le, beq_self_eq_true]
                  · rw [hk] at u1 ⊢
                    simp (disch := omega) only [bX12_termOf_5, kX12_termOf_165, kX12_termOf_159, kX12_termOf_158, kX12_termOf_104, kX12_termOf_97, kX12_termOf_58, kX12_termOf_5, kX12_termOf_0, h.1, mr_pile h, ml_pile h, mr_code h, ml_code h, u1, p1, p2, em, Nat.add_sub_cancel, opv, e9, e_push, e_pushl, e_iload, e_lload, e_aload, e_istore, e_astore, e_lstore, e_iinc, e_iadd, e_isub, e_imul, e_iand, e_ior, e_ixor, e_ishl, e_ishr, e_iushr, e_idiv, e_irem, e_ladd, e_lsub, e_lmul, e_lcmp, e_mmax, e_mmin, e_i2l, e_l2i, e_i2b, e_i2c, e_dup, e_dup2, e_pop, e_icmp_eq, e_icmp_ne, e_icmp_lt, e_icmp_ge, e_icmp_gt, e_icmp_le, e_if_eq, e_if_ne, e_if_lt, e_if_ge, e_if_gt, e_if_le, e_getI, e_getR, e_putI, e_putZ, e_putR, e_iald, e_bald, e_zald, e_lald, e_aald, e_alen, e_iast, e_bast, e_zast, e_last, e_aast, e_iret, e_zret, e_lret, e_vret, e_obj, e_callV, e_callS, e_callT, e_acpy, e_ldcS, e_dn, e_ag, z_pop, List.getElem?_cons_zero, List.getElem?_cons_succ, List.set_cons_zero, List.set_cons_succ, List.length_cons, List.length_nil, z_nol, Option.map_some, Option.toList_some, Option.toList_none, List.cons_append, List.nil_append, n_lit, n_m1, n_m2, n_m1lt, n_m1le, n_rem, n_div, n_out, n_cl, n_eq, n_le, n_lt, n_add, n_mul, n_sub, n_nle, n_yle, n_nlt, n_ylt, n_neN, z_lay, z_sz, z_str, z_stI, z_stL, z_stR, eq_self, ↓reduceIte, true_and, and_true, and_self, false_and, and_false, or_self, false_or, or_false, true_or, or_true, not_true_eq_false, not_false_eq_true, Nat.reduceLeDiff, Nat.reduceLT, Nat.reduceAdd, Nat.reduceEqDiff, Nat.reduceMul, Nat.reduceSub, Value.category, Nat.zero_le, beq_self_eq_true]
                  · have hb : ¬ b = nI 0 := fun z => q5 ⟨hk, z⟩
                    rw [hk] at u1 ⊢
                    simp (disch := omega) only [bX12_termOf_5, kX12_termOf_165, kX12_termOf_159, kX12_termOf_158, kX12_termOf_104, kX12_termOf_97, kX12_termOf_58, kX12_termOf_5, kX12_termOf_0, h.1, mr_pile h, ml_pile h, mr_code h, ml_code h, u1, p1, p2, em, Nat.add_sub_cancel, opv, e9, hb, e_push, e_pushl, e_iload, e_lload, e_aload, e_istore, e_astore, e_lstore, e_iinc, e_iadd, e_isub, e_imul, e_iand, e_ior, e_ixor, e_ishl, e_ishr, e_iushr, e_idiv, e_irem, e_ladd, e_lsub, e_lmul, e_lcmp, e_mmax, e_mmin, e_i2l, e_l2i, e_i2b, e_i2c, e_dup, e_dup2, e_pop, e_icmp_eq, e_icmp_ne, e_icmp_lt, e_icmp_ge, e_icmp_gt, e_icmp_le, e_if_eq, e_if_ne, e_if_lt, e_if_ge, e_if_gt, e_if_le, e_getI, e_getR, e_putI, e_putZ, e_putR, e_iald, e_bald, e_zald, e_lald, e_aald, e_alen, e_iast, e_bast, e_zast, e_last, e_aast, e_iret, e_zret, e_lret, e_vret, e_obj, e_callV, e_callS, e_callT, e_acpy, e_ldcS, e_dn, e_ag, z_pop, List.getElem?_cons_zero, List.getElem?_cons_succ, List.set_cons_zero, List.set_cons_succ, List.length_cons, List.length_nil, z_nol, Option.map_some, Option.toList_some, Option.toList_none, List.cons_append, List.nil_append, n_lit, n_m1, n_m2, n_m1lt, n_m1le, n_rem, n_div, n_out, n_cl, n_eq, n_le, n_lt, n_add, n_mul, n_sub, n_nle, n_yle, n_nlt, n_ylt, n_neN, z_lay, z_sz, z_str, z_stI, z_stL, z_stR, eq_self, ↓reduceIte, true_and, and_true, and_self, false_and, and_false, or_self, false_or, or_false, true_or, or_true, not_true_eq_false, not_false_eq_true, Nat.reduceLeDiff, Nat.reduceLT, Nat.reduceAdd, Nat.reduceEqDiff, Nat.reduceMul, Nat.reduceSub, Value.category, Nat.zero_le, beq_self_eq_true]
                · rw [ev_cons, if_neg q0, if_neg q1]
                  show evQ ((if q.1 = 5 ∧ b = nI 0 then none else ev vs c (opv q.1 a b :: st)).bind List.head?) _ _ _
                  rw [if_neg q5]
                  exact r4
        · cases hd
theorem r_termOf {I : Nat → Nat → Int32} {L : Nat → Nat → Int64} {Z : zZ} {M p m : Nat} {vs : Nat → Int32} {c : List (Nat × Nat)} (h : isMod Z M) (hv : ∀ k, k < 9 → I (M + 27) k = vs k) (hs : segR I M p c) (hg : goodC c m) (hm : m ≤ 400) :
    ∃ x J', fX12_termOf [.ref M, .int (nI p), .int (nI (p + c.length))] (I, L, Z) = some (some (.int x), (J', L, Z)) ∧ (∀ q, q ≠ M → q ≠ M + 28 → J' q = I q) ∧ (∀ j, j ≠ 45 → J' M j = I M j) ∧ evQ ((ev vs c []).bind List.head?) x (I M 45) (J' M 45) := by
  obtain ⟨x, J', r1, r2⟩ := r_term_lp (L := L) (a1 := .int (nI p)) h hv c [] p I none none none hs hg.2.2 (hg.2.1 0) (by have := hg.1; simp only [List.length_nil]; omega) trivial (fun _ _ => rfl)
  refine ⟨x, J', ?_, r2⟩
  rw [← r1]
  show kX12_termOf_0 [some (.ref (M)), some (.int (nI (p))), some (.int (nI (p + c.length))), none, none, none, none, none] [] (I, L, Z) = _
  simp (disch := omega) only [kX12_termOf_0, kX12_termOf_5, e_push, e_pushl, e_iload, e_lload, e_aload, e_istore, e_astore, e_lstore, e_iinc, e_iadd, e_isub, e_imul, e_iand, e_ior, e_ixor, e_ishl, e_ishr, e_iushr, e_idiv, e_irem, e_ladd, e_lsub, e_lmul, e_lcmp, e_mmax, e_mmin, e_i2l, e_l2i, e_i2b, e_i2c, e_dup, e_dup2, e_pop, e_icmp_eq, e_icmp_ne, e_icmp_lt, e_icmp_ge, e_icmp_gt, e_icmp_le, e_if_eq, e_if_ne, e_if_lt, e_if_ge, e_if_gt, e_if_le, e_getI, e_getR, e_putI, e_putZ, e_putR, e_iald, e_bald, e_zald, e_lald, e_aald, e_alen, e_iast, e_bast, e_zast, e_last, e_aast, e_iret, e_zret, e_lret, e_vret, e_obj, e_callV, e_callS, e_callT, e_acpy, e_ldcS, e_dn, e_ag, z_pop, List.getElem?_cons_zero, List.getElem?_cons_succ, List.set_cons_zero, List.set_cons_succ, List.length_cons, List.length_nil, z_nol, Option.map_some, Option.toList_some, Option.toList_none, List.cons_append, List.nil_append, n_lit, n_m1, n_m2, n_m1lt, n_m1le, n_rem, n_div, n_out, n_cl, n_eq, n_le, n_lt, n_add, n_mul, n_sub, n_nle, n_yle, n_nlt, n_ylt, n_neN, z_lay, z_sz, z_str, z_stI, z_stL, z_stR, eq_self, ↓reduceIte, true_and, and_true, and_self, false_and, and_false, or_self, false_or, or_false, true_or, or_true, not_true_eq_false, not_false_eq_true, Nat.reduceLeDiff, Nat.reduceLT, Nat.reduceAdd, Nat.reduceEqDiff, Nat.reduceMul, Nat.reduceSub, Value.category, Nat.zero_le, beq_self_eq_true]
