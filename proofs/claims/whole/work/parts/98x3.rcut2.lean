/-! read: the reference cuts, token by token -/
theorem r_cut_lp {I : Nat → Nat → Int32} {L : Nat → Nat → Int64} {Z : zZ} {M n : Nat} {T : Nat → Nat} (h : isMod Z M) (hK : wKey L (M - 200)) (hM : 200 ≤ M) (hT : tpR I M T n) : ∀ d p k (J : Nat → Nat → Int32) (L' : Nat → Nat → Int64) (y2 y3 y4 y5 y6 y7 : Option Value), n - p = d → p ≤ n → k ≤ 401 → lxS T n k = lxTo isBl T n p → cutF I J M → (∀ a, a ≠ M + 6 → L' a = L a) → J M 10 = nI k → (∀ j, j < k → tkR J L' M T n j) → ∃ J2 L2, q_lp bX12_cut_7 [some (Value.ref (M)), some (Value.int (nI (p))), y2, y3, y4, y5, y6, y7] [] (J, L', Z) = some (none, (J2, L2, Z)) ∧ cutF I J2 M ∧ (∀ a, a ≠ M + 6 → L2 a = L a) ∧ ∀ j, j < lxN T n → tkR J2 L2 M T n j := by
  intro d
  induction d using Nat.strongRecOn with
  | ind d ih =>
    intro p k J L' y2 y3 y4 y5 y6 y7 hd hp hk hS hF hL h10 hj
    have hn := hT.1
    have hTJ := hF.tp hT
    have nsp := lxN_spec T n
    by_cases g4 : k = 401
    · refine ⟨J, L', ?_, hF, hL, fun j h1 => hj j (by omega)⟩
      rw [q_lp_eq, show bX12_cut_7 [some (Value.ref (M)), some (Value.int (nI (p))), y2, y3, y4, y5, y6, y7] [] (J, L', Z) = some (.inr (none, (J, L', Z))) by simp (disch := omega) only [bX12_cut_7, kX12_cut_294, h.1, h10, g4, e_push, e_pushl, e_iload, e_lload, e_aload, e_istore, e_astore, e_lstore, e_iinc, e_iadd, e_isub, e_imul, e_iand, e_ior, e_ixor, e_ishl, e_ishr, e_iushr, e_idiv, e_irem, e_ladd, e_lsub, e_lmul, e_lcmp, e_mmax, e_mmin, e_i2l, e_l2i, e_i2b, e_i2c, e_dup, e_dup2, e_pop, e_icmp_eq, e_icmp_ne, e_icmp_lt, e_icmp_ge, e_icmp_gt, e_icmp_le, e_if_eq, e_if_ne, e_if_lt, e_if_ge, e_if_gt, e_if_le, e_getI, e_getR, e_putI, e_putZ, e_putR, e_iald, e_bald, e_zald, e_lald, e_aald, e_alen, e_iast, e_bast, e_zast, e_last, e_aast, e_iret, e_zret, e_lret, e_vret, e_obj, e_callV, e_callS, e_callT, e_acpy, e_ldcS, e_dn, e_ag, z_pop, List.getElem?_cons_zero, List.getElem?_cons_succ, List.set_cons_zero, List.set_cons_succ, List.length_cons, List.length_nil, z_nol, Option.map_some, Option.toList_some, Option.toList_none, List.cons_append, List.nil_append, n_lit, n_m1, n_m2, n_m1lt, n_m1le, n_rem, n_div, n_out, n_cl, n_eq, n_le, n_lt, n_add, n_mul, n_sub, n_nle, n_yle, n_nlt, n_ylt, n_neN, z_lay, z_sz, z_str, z_stI, z_stL, z_stR, eq_self, ↓reduceIte, true_and, and_true, and_self, false_and, and_false, or_self, false_or, or_false, true_or, or_true, not_true_eq_false, not_false_eq_true, Nat.reduceLeDiff, Nat.reduceLT, Nat.reduceAdd, Nat.reduceEqDiff, Nat.reduceMul, Nat.reduceSub, Value.category, Nat.zero_le, beq_self_eq_true]]
    · have b := r_byteAt (L := L') h hTJ p (by omega)
      have t4 := hTJ.2.1
      have hK' : wKey L' (M - 200) := fun q v hq => by rw [hL _ (by omega)]; exact hK q v hq
      by_cases gp : p < n
      · have bp : byR T n p = T p := if_pos gp
        have b256 := (hTJ.2.2 p gp).2
        rw [bp] at b
        have bl := r_isLetter (I := J) (L := L') (Z := Z) b256
        have bd := r_isDigit (I := J) (L := L') (Z := Z) b256
        by_cases g1 : isBl (T p)
        · rw [lxTo_one gp g1] at hS
          obtain ⟨J2, L2, r1, r2⟩ := ih (n - (p + 1)) (by omega) (p + 1) k J L' (some (.int (nI (T p)))) y3 y4 y5 y6 y7 rfl (by omega) hk hS hF hL h10 hj
          refine ⟨J2, L2, ?_, r2⟩
          rw [← r1, q_lp_eq, show bX12_cut_7 [some (Value.ref (M)), some (Value.int (nI (p))), y2, y3, y4, y5, y6, y7] [] (J, L', Z) = some (.inl ([some (Value.ref (M)), some (Value.int (nI (p + 1))), some (Value.int (nI (T p))), y3, y4, y5, y6, y7], (J, L', Z))) by
            generalize T p = c at b b256 g1
            rcases g1 with rfl | rfl | rfl | rfl
            · simp (disch := omega) only [bX12_cut_7, kX12_cut_67, kX12_cut_291, h.1, h10, b, t4, e_push, e_pushl, e_iload, e_lload, e_aload, e_istore, e_astore, e_lstore, e_iinc, e_iadd, e_isub, e_imul, e_iand, e_ior, e_ixor, e_ishl, e_ishr, e_iushr, e_idiv, e_irem, e_ladd, e_lsub, e_lmul, e_lcmp, e_mmax, e_mmin, e_i2l, e_l2i, e_i2b, e_i2c, e_dup, e_dup2, e_pop, e_icmp_eq, e_icmp_ne, e_icmp_lt, e_icmp_ge, e_icmp_gt, e_icmp_le, e_if_eq, e_if_ne, e_if_lt, e_if_ge, e_if_gt, e_if_le, e_getI, e_getR, e_putI, e_putZ, e_putR, e_iald, e_bald, e_zald, e_lald, e_aald, e_alen, e_iast, e_bast, e_zast, e_last, e_aast, e_iret, e_zret, e_lret, e_vret, e_obj, e_callV, e_callS, e_callT, e_acpy, e_ldcS, e_dn, e_ag, z_pop, List.getElem?_cons_zero, List.getElem?_cons_succ, List.set_cons_zero, List.set_cons_succ, List.length_cons, List.length_nil, z_nol, Option.map_some, Option.toList_some, Option.toList_none, List.cons_append, List.nil_append, n_lit, n_m1, n_m2, n_m1lt, n_m1le, n_rem, n_div, n_out, n_cl, n_eq, n_le, n_lt, n_add, n_mul, n_sub, n_nle, n_yle, n_nlt, n_ylt, n_neN, z_lay, z_sz, z_str, z_stI, z_stL, z_stR, eq_self, ↓reduceIte, true_and, and_true, and_self, false_and, and_false, or_self, false_or, or_false, true_or, or_true, not_true_eq_false, not_false_eq_true, Nat.reduceLeDiff, Nat.reduceLT, Nat.reduceAdd, Nat.reduceEqDiff, Nat.reduceMul, Nat.reduceSub, Value.category, Nat.zero_le, beq_self_eq_true]
            · simp (disch := omega) only [bX12_cut_7, kX12_cut_67, kX12_cut_291, h.1, h10, b, t4, e_push, e_pushl, e_iload, e_lload, e_aload, e_istore, e_astore, e_lstore, e_iinc, e_iadd, e_isub, e_imul, e_iand, e_ior, e_ixor, e_ishl, e_ishr, e_iushr, e_idiv, e_irem, e_ladd, e_lsub, e_lmul, e_lcmp, e_mmax, e_mmin, e_i2l, e_l2i, e_i2b, e_i2c, e_dup, e_dup2, e_pop, e_icmp_eq, e_icmp_ne, e_icmp_lt, e_icmp_ge, e_icmp_gt, e_icmp_le, e_if_eq, e_if_ne, e_if_lt, e_if_ge, e_if_gt, e_if_le, e_getI, e_getR, e_putI, e_putZ, e_putR, e_iald, e_bald, e_zald, e_lald, e_aald, e_alen, e_iast, e_bast, e_zast, e_last, e_aast, e_iret, e_zret, e_lret, e_vret, e_obj, e_callV, e_callS, e_callT, e_acpy, e_ldcS, e_dn, e_ag, z_pop, List.getElem?_cons_zero, List.getElem?_cons_succ, List.set_cons_zero, List.set_cons_succ, List.length_cons, List.length_nil, z_nol, Option.map_some, Option.toList_some, Option.toList_none, List.cons_append, List.nil_append, n_lit, n_m1, n_m2, n_m1lt, n_m1le, n_rem, n_div, n_out, n_cl, n_eq, n_le, n_lt, n_add, n_mul, n_sub, n_nle, n_yle, n_nlt, n_ylt, n_neN, z_lay, z_sz, z_str, z_stI, z_stL, z_stR, eq_self, ↓reduceIte, true_and, and_true, and_self, false_and, and_false, or_self, false_or, or_false, true_or, or_true, not_true_eq_false, not_false_eq_true, Nat.reduceLeDiff, Nat.reduceLT, Nat.reduceAdd, Nat.reduceEqDiff, Nat.reduceMul, Nat.reduceSub, Value.category, Nat.zero_le, beq_self_eq_true]
            · simp (disch := omega) only [bX12_cut_7, kX12_cut_67, kX12_cut_291, h.1, h10, b, t4, e_push, e_pushl, e_iload, e_lload, e_aload, e_istore, e_astore, e_lstore, e_iinc, e_iadd, e_isub, e_imul, e_iand, e_ior, e_ixor, e_ishl, e_ishr, e_iushr, e_idiv, e_irem, e_ladd, e_lsub, e_lmul, e_lcmp, e_mmax, e_mmin, e_i2l, e_l2i, e_i2b, e_i2c, e_dup, e_dup2, e_pop, e_icmp_eq, e_icmp_ne, e_icmp_lt, e_icmp_ge, e_icmp_gt, e_icmp_le, e_if_eq, e_if_ne, e_if_lt, e_if_ge, e_if_gt, e_if_le, e_getI, e_getR, e_putI, e_putZ, e_putR, e_iald, e_bald, e_zald, e_lald, e_aald, e_alen, e_iast, e_bast, e_zast, e_last, e_aast, e_iret, e_zret, e_lret, e_vret, e_obj, e_callV, e_callS, e_callT, e_acpy, e_ldcS, e_dn, e_ag, z_pop, List.getElem?_cons_zero, List.getElem?_cons_succ, List.set_cons_zero, List.set_cons_succ, List.length_cons, List.length_nil, z_nol, Option.map_some, Option.toList_some, Option.toList_none, List.cons_append, List.nil_append, n_lit, n_m1, n_m2, n_m1lt, n_m1le, n_rem, n_div, n_out, n_cl, n_eq, n_le, n_lt, n_add, n_mul, n_sub, n_nle, n_yle, n_nlt, n_ylt, n_neN, z_lay, z_sz, z_str, z_stI, z_stL, z_stR, eq_self, ↓reduceIte, true_and, and_true, and_self, false_and, and_false, or_self, false_or, or_false, true_or, or_true, not_true_eq_false, not_false_eq_true, Nat.reduceLeDiff, Nat.reduceLT, Nat.reduceAdd, Nat.reduceEqDiff, Nat.reduceMul, Nat.reduceSub, Value.category, Nat.zero_le, beq_self_eq_true]
            · simp (disch := omega) only [bX12_cut_7, kX12_cut_67, kX12_cut_291, h.1, h10, b, t4, e_push, e_pushl, e_iload, e_lload, e_aload, e_istore, e_astore, e_lstore, e_iinc, e_iadd, e_isub, e_imul, e_iand, e_ior, e_ixor, e_ishl, e_ishr, e_iushr, e_idiv, e_irem, e_ladd, e_lsub, e_lmul, e_lcmp, e_mmax, e_mmin, e_i2l, e_l2i, e_i2b, e_i2c, e_dup, e_dup2, e_pop, e_icmp_eq, e_icmp_ne, e_icmp_lt, e_icmp_ge, e_icmp_gt, e_icmp_le, e_if_eq, e_if_ne, e_if_lt, e_if_ge, e_if_gt, e_if_le, e_getI, e_getR, e_putI, e_putZ, e_putR, e_iald, e_bald, e_zald, e_lald, e_aald, e_alen, e_iast, e_bast, e_zast, e_last, e_aast, e_iret, e_zret, e_lret, e_vret, e_obj, e_callV, e_callS, e_callT, e_acpy, e_ldcS, e_dn, e_ag, z_pop, List.getElem?_cons_zero, List.getElem?_cons_succ, List.set_cons_zero, List.set_cons_succ, List.length_cons, List.length_nil, z_nol, Option.map_some, Option.toList_some, Option.toList_none, List.cons_append, List.nil_append, n_lit, n_m1, n_m2, n_m1lt, n_m1le, n_rem, n_div, n_out, n_cl, n_eq, n_le, n_lt, n_add, n_mul, n_sub, n_nle, n_yle, n_nlt, n_ylt, n_neN, z_lay, z_sz, z_str, z_stI, z_stL, z_stR, eq_self, ↓reduceIte, true_and, and_true, and_self, false_and, and_false, or_self, false_or, or_false, true_or, or_true, not_true_eq_false, not_false_eq_true, Nat.reduceLeDiff, Nat.reduceLT, Nat.reduceAdd, Nat.reduceEqDiff, Nat.reduceMul, Nat.reduceSub, Value.category, Nat.zero_le, beq_self_eq_true]]
        · rw [lxTo_at gp g1] at hS
          have n9 : T p ≠ 9 := fun z => g1 (Or.inl z)
          have n10 : T p ≠ 10 := fun z => g1 (Or.inr (Or.inl z))
          have n13 : T p ≠ 13 := fun z => g1 (Or.inr (Or.inr (Or.inl z)))
          have n32 : T p ≠ 32 := fun z => g1 (Or.inr (Or.inr (Or.inr z)))
          obtain ⟨e1, e2, e3⟩ := lxE_le T hp
          have e3 := e3 gp
          have hS1 : lxS T n (k + 1) = lxTo isBl T n (lxE T n p) := by rw [← hS]; rfl
          by_cases gl : isLe (T p)
          · rw [if_pos gl] at bl
            have ct := r_cutL (y6 := y6) (y7 := y7) (c := nI (T p)) h hK' hM hTJ gp gl k h10 (by omega)
            have em : ∀ z : lxK T n (lxS T n k) = 20, (Int64.ofNat (num 27 (fun i => T (p + i) - 96) (min (lxE T n p - p) 8))) = Int64.ofNat (num 27 (fun i => T (lxS T n k + i) - 96) (kL T n k)) := fun z => by
              unfold kL
              rw [hS] at z ⊢
              have := (lxK_20 (Nat.le_of_eq z)).2.2
              rw [Nat.min_eq_left this]
            have ev : lxK T n (lxS T n k) = 21 → 0 = kW T n k := fun z => by
              rw [hS] at z
              exact absurd gl (lxK_21 z).2.1
            have tm := tkR_more (v := 0) hj ev em
            rw [hS] at tm
            obtain ⟨J2, L2, r1, r2⟩ := ih (n - lxE T n p) (by omega) (lxE T n p) (k + 1) _ (z_up L' (M + 6) k (Int64.ofNat (num 27 (fun i => T (p + i) - 96) (min (lxE T n p - p) 8)))) (some (.int (nI (T p)))) (some (.int (nI (lxE T n p - p)))) (some (.long (Int64.ofNat (num 27 (fun i => T (p + i) - 96) (min (lxE T n p - p) 8))))) none (some (.int (nI (rk (lxK T n p))))) (if 8 < lxE T n p - p then y7 else some (.int (nI 20))) rfl e2 (by omega) hS1 hF.tok (fun a ha => by rw [lup_off ha]; exact hL a ha) zup_at tm
            refine ⟨J2, L2, ?_, r2⟩
            rw [← r1, q_lp_eq]
            have st : bX12_cut_7 [some (Value.ref (M)), some (Value.int (nI (p))), y2, y3, y4, y5, y6, y7] [] (J, L', Z) = kX12_cut_85 [some (Value.ref (M)), some (Value.int (nI (p))), some (Value.int (nI (T p))), some (Value.int (nI (0))), some (Value.long (Int64.ofNat 0)), none, y6, y7] [] (J, L', Z) := by
              have z0 : (0 : Int64) = Int64.ofNat 0 := rfl
              simp (disch := omega) only [bX12_cut_7, z0, h.1, h10, b, t4, bl, n9, n10, n13, n32, e_push, e_pushl, e_iload, e_lload, e_aload, e_istore, e_astore, e_lstore, e_iinc, e_iadd, e_isub, e_imul, e_iand, e_ior, e_ixor, e_ishl, e_ishr, e_iushr, e_idiv, e_irem, e_ladd, e_lsub, e_lmul, e_lcmp, e_mmax, e_mmin, e_i2l, e_l2i, e_i2b, e_i2c, e_dup, e_dup2, e_pop, e_icmp_eq, e_icmp_ne, e_icmp_lt, e_icmp_ge, e_icmp_gt, e_icmp_le, e_if_eq, e_if_ne, e_if_lt, e_if_ge, e_if_gt, e_if_le, e_getI, e_getR, e_putI, e_putZ, e_putR, e_iald, e_bald, e_zald, e_lald, e_aald, e_alen, e_iast, e_bast, e_zast, e_last, e_aast, e_iret, e_zret, e_lret, e_vret, e_obj, e_callV, e_callS, e_callT, e_acpy, e_ldcS, e_dn, e_ag, z_pop, List.getElem?_cons_zero, List.getElem?_cons_succ, List.set_cons_zero, List.set_cons_succ, List.length_cons, List.length_nil, z_nol, Option.map_some, Option.toList_some, Option.toList_none, List.cons_append, List.nil_append, n_lit, n_m1, n_m2, n_m1lt, n_m1le, n_rem, n_div, n_out, n_cl, n_eq, n_le, n_lt, n_add, n_mul, n_sub, n_nle, n_yle, n_nlt, n_ylt, n_neN, z_lay, z_sz, z_str, z_stI, z_stL, z_stR, eq_self, ↓reduceIte, true_and, and_true, and_self, false_and, and_false, or_self, false_or, or_false, true_or, or_true, not_true_eq_false, not_false_eq_true, Nat.reduceLeDiff, Nat.reduceLT, Nat.reduceAdd, Nat.reduceEqDiff, Nat.reduceMul, Nat.reduceSub, Value.category, Nat.zero_le, beq_self_eq_true]
            rw [st, ct]
          · rw [if_neg gl] at bl
            by_cases gd : isDi (T p)
            · rw [if_pos gd] at bd
              have ct := r_cutD (L := L') (y5 := y5) (y6 := y6) (y7 := y7) (c := nI (T p)) h hTJ gp gl gd k h10 (by omega)
              have em : ∀ z : lxK T n (lxS T n k) = 20, (0 : Int64) = Int64.ofNat (num 27 (fun i => T (lxS T n k + i) - 96) (kL T n k)) := fun z => by
                rw [hS] at z
                exact absurd (lxK_20 (Nat.le_of_eq z)).2.1 gl
              have ev : lxK T n (lxS T n k) = 21 → num 10 (fun i => T (p + i) - 48) (min (lxE T n p - p) 4) = kW T n k := fun z => by
                unfold kW kL
                rw [hS] at z ⊢
                have := (lxK_21 z).2.2.2
                rw [Nat.min_eq_left this]
              have tm := tkR_more hj ev em
              rw [hS] at tm
              obtain ⟨J2, L2, r1, r2⟩ := ih (n - lxE T n p) (by omega) (lxE T n p) (k + 1) _ (z_up L' (M + 6) k 0) (some (.int (nI (T p)))) (some (.int (nI (lxE T n p - p)))) (some (.int (nI (num 10 (fun i => T (p + i) - 48) (min (lxE T n p - p) 4))))) y5 y6 y7 rfl e2 (by omega) hS1 hF.tok (fun a ha => by rw [lup_off ha]; exact hL a ha) zup_at tm
              refine ⟨J2, L2, ?_, r2⟩
              rw [← r1, q_lp_eq]
              have st : bX12_cut_7 [some (Value.ref (M)), some (Value.int (nI (p))), y2, y3, y4, y5, y6, y7] [] (J, L', Z) = kX12_cut_208 [some (Value.ref (M)), some (Value.int (nI (p))), some (Value.int (nI (T p))), some (Value.int (nI (0))), some (Value.int (nI (0))), y5, y6, y7] [] (J, L', Z) := by
                simp (disch := omega) only [bX12_cut_7, h.1, h10, b, t4, bl, bd, n9, n10, n13, n32, e_push, e_pushl, e_iload, e_lload, e_aload, e_istore, e_astore, e_lstore, e_iinc, e_iadd, e_isub, e_imul, e_iand, e_ior, e_ixor, e_ishl, e_ishr, e_iushr, e_idiv, e_irem, e_ladd, e_lsub, e_lmul, e_lcmp, e_mmax, e_mmin, e_i2l, e_l2i, e_i2b, e_i2c, e_dup, e_dup2, e_pop, e_icmp_eq, e_icmp_ne, e_icmp_lt, e_icmp_ge, e_icmp_gt, e_icmp_le, e_if_eq, e_if_ne, e_if_lt, e_if_ge, e_if_gt, e_if_le, e_getI, e_getR, e_putI, e_putZ, e_putR, e_iald, e_bald, e_zald, e_lald, e_aald, e_alen, e_iast, e_bast, e_zast, e_last, e_aast, e_iret, e_zret, e_lret, e_vret, e_obj, e_callV, e_callS, e_callT, e_acpy, e_ldcS, e_dn, e_ag, z_pop, List.getElem?_cons_zero, List.getElem?_cons_succ, List.set_cons_zero, List.set_cons_succ, List.length_cons, List.length_nil, z_nol, Option.map_some, Option.toList_some, Option.toList_none, List.cons_append, List.nil_append, n_lit, n_m1, n_m2, n_m1lt, n_m1le, n_rem, n_div, n_out, n_cl, n_eq, n_le, n_lt, n_add, n_mul, n_sub, n_nle, n_yle, n_nlt, n_ylt, n_neN, z_lay, z_sz, z_str, z_stI, z_stL, z_stR, eq_self, ↓reduceIte, true_and, and_true, and_self, false_and, and_false, or_self, false_or, or_false, true_or, or_true, not_true_eq_false, not_false_eq_true, Nat.reduceLeDiff, Nat.reduceLT, Nat.reduceAdd, Nat.reduceEqDiff, Nat.reduceMul, Nat.reduceSub, Value.category, Nat.zero_le, beq_self_eq_true]
              rw [st, ct]
            · rw [if_neg gd] at bd
              have b1 := r_byteAt (L := L') h hTJ (p + 1) (by omega)
              have sg := r_sign (L := L') (p := p) (d := byR T n (p + 1)) h h10 (show k < 403 by omega) b256
              have es : sgR (T p) = rk (lxK T n p) := by
                unfold sgR
                rw [lxK_sgn gp gl gd]
                by_cases z : isSg (T p)
                · rw [if_pos z, if_pos z]
                · rw [if_neg z, if_neg z]
                  rfl
              rw [es] at sg
              have ee := lxE_sgn gp gl gd
              have em : ∀ z : lxK T n (lxS T n k) = 20, (0 : Int64) = Int64.ofNat (num 27 (fun i => T (lxS T n k + i) - 96) (kL T n k)) := fun z => by
                rw [hS] at z
                exact absurd (lxK_20 (Nat.le_of_eq z)).2.1 gl
              have ev : lxK T n (lxS T n k) = 21 → 0 = kW T n k := fun z => by
                rw [hS] at z
                exact absurd (lxK_21 z).2.2.1 gd
              have tm := tkR_more (v := 0) hj ev em
              rw [hS] at tm
              rw [ee] at hS1
              obtain ⟨J2, L2, r1, r2⟩ := ih (n - (p + 1)) (by omega) (p + 1) (k + 1) _ (z_up L' (M + 6) k 0) (some (.int (nI (T p)))) y3 y4 y5 y6 y7 rfl (by omega) (by omega) hS1 hF.tok (fun a ha => by rw [lup_off ha]; exact hL a ha) zup_at tm
              refine ⟨J2, L2, ?_, r2⟩
              rw [← r1, q_lp_eq, show bX12_cut_7 [some (Value.ref (M)), some (Value.int (nI (p))), y2, y3, y4, y5, y6, y7] [] (J, L', Z) = some (.inl ([some (Value.ref (M)), some (Value.int (nI (p + 1))), some (Value.int (nI (T p))), y3, y4, y5, y6, y7], (z_up (z_up (z_up (z_up J (M + 3) k (nI (rk (lxK T n p)))) (M + 4) k (nI p)) (M + 5) k (nI 0)) M 10 (nI (k + 1)), z_up L' (M + 6) k 0, Z))) by
                simp (disch := omega) only [bX12_cut_7, kX12_cut_291, h.1, h10, b, b1, sg, t4, bl, bd, n9, n10, n13, n32, e_push, e_pushl, e_iload, e_lload, e_aload, e_istore, e_astore, e_lstore, e_iinc, e_iadd, e_isub, e_imul, e_iand, e_ior, e_ixor, e_ishl, e_ishr, e_iushr, e_idiv, e_irem, e_ladd, e_lsub, e_lmul, e_lcmp, e_mmax, e_mmin, e_i2l, e_l2i, e_i2b, e_i2c, e_dup, e_dup2, e_pop, e_icmp_eq, e_icmp_ne, e_icmp_lt, e_icmp_ge, e_icmp_gt, e_icmp_le, e_if_eq, e_if_ne, e_if_lt, e_if_ge, e_if_gt, e_if_le, e_getI, e_getR, e_putI, e_putZ, e_putR, e_iald, e_bald, e_zald, e_lald, e_aald, e_alen, e_iast, e_bast, e_zast, e_last, e_aast, e_iret, e_zret, e_lret, e_vret, e_obj, e_callV, e_callS, e_callT, e_acpy, e_ldcS, e_dn, e_ag, z_pop, List.getElem?_cons_zero, List.getElem?_cons_succ, List.set_cons_zero, List.set_cons_succ, List.length_cons, List.length_nil, z_nol, Option.map_some, Option.toList_some, Option.toList_none, List.cons_append, List.nil_append, n_lit, n_m1, n_m2, n_m1lt, n_m1le, n_rem, n_div, n_out, n_cl, n_eq, n_le, n_lt, n_add, n_mul, n_sub, n_nle, n_yle, n_nlt, n_ylt, n_neN, z_lay, z_sz, z_str, z_stI, z_stL, z_stR, eq_self, ↓reduceIte, true_and, and_true, and_self, false_and, and_false, or_self, false_or, or_false, true_or, or_true, not_true_eq_false, not_false_eq_true, Nat.reduceLeDiff, Nat.reduceLT, Nat.reduceAdd, Nat.reduceEqDiff, Nat.reduceMul, Nat.reduceSub, Value.category, Nat.zero_le, beq_self_eq_true]]
      · have en : p = n := by omega
        subst en
        have bp : byR T p p = 0 := if_neg gp
        rw [bp] at b
        have hS2 : lxS T p k = p := by
          rw [hS]
          have := lxTo_spec isBl T (Nat.le_refl p)
          omega
        have eK : lxK T p (lxS T p k) = 22 := by rw [hS2]; exact lxK_end gp
        have tk := r_token (L := L') (kd := nI 0) (pl := nI p) (vl := nI 0) (nm := 0) h h10 (show k < 403 by omega)
        have em : ∀ z : lxK T p (lxS T p k) = 20, (0 : Int64) = Int64.ofNat (num 27 (fun i => T (lxS T p k + i) - 96) (kL T p k)) := fun z => by rw [eK] at z; omega
        have ev : lxK T p (lxS T p k) = 21 → 0 = kW T p k := fun z => by rw [eK] at z; omega
        have tm := tkR_more (v := 0) hj ev em
        rw [eK, hS2] at tm
        refine ⟨_, _, ?_, hF.tok (k := k) (kd := nI 0) (pl := nI p) (vl := nI 0), fun a ha => by rw [lup_off (k := k) (v := 0) ha]; exact hL a ha, fun j h1 => tm j ?_⟩
        · rw [q_lp_eq, show bX12_cut_7 [some (Value.ref (M)), some (Value.int (nI (p))), y2, y3, y4, y5, y6, y7] [] (J, L', Z) = some (.inr (none, (z_up (z_up (z_up (z_up J (M + 3) k (nI 0)) (M + 4) k (nI p)) (M + 5) k (nI 0)) M 10 (nI (k + 1)), z_up L' (M + 6) k 0, Z))) by simp (disch := omega) only [bX12_cut_7, kX12_cut_31, h.1, h10, b, t4, tk, e_push, e_pushl, e_iload, e_lload, e_aload, e_istore, e_astore, e_lstore, e_iinc, e_iadd, e_isub, e_imul, e_iand, e_ior, e_ixor, e_ishl, e_ishr, e_iushr, e_idiv, e_irem, e_ladd, e_lsub, e_lmul, e_lcmp, e_mmax, e_mmin, e_i2l, e_l2i, e_i2b, e_i2c, e_dup, e_dup2, e_pop, e_icmp_eq, e_icmp_ne, e_icmp_lt, e_icmp_ge, e_icmp_gt, e_icmp_le, e_if_eq, e_if_ne, e_if_lt, e_if_ge, e_if_gt, e_if_le, e_getI, e_getR, e_putI, e_putZ, e_putR, e_iald, e_bald, e_zald, e_lald, e_aald, e_alen, e_iast, e_bast, e_zast, e_last, e_aast, e_iret, e_zret, e_lret, e_vret, e_obj, e_callV, e_callS, e_callT, e_acpy, e_ldcS, e_dn, e_ag, z_pop, List.getElem?_cons_zero, List.getElem?_cons_succ, List.set_cons_zero, List.set_cons_succ, List.length_cons, List.length_nil, z_nol, Option.map_some, Option.toList_some, Option.toList_none, List.cons_append, List.nil_append, n_lit, n_m1, n_m2, n_m1lt, n_m1le, n_rem, n_div, n_out, n_cl, n_eq, n_le, n_lt, n_add, n_mul, n_sub, n_nle, n_yle, n_nlt, n_ylt, n_neN, z_lay, z_sz, z_str, z_stI, z_stL, z_stR, eq_self, ↓reduceIte, true_and, and_true, and_self, false_and, and_false, or_self, false_or, or_false, true_or, or_true, not_true_eq_false, not_false_eq_true, Nat.reduceLeDiff, Nat.reduceLT, Nat.reduceAdd, Nat.reduceEqDiff, Nat.reduceMul, Nat.reduceSub, Value.category, Nat.zero_le, beq_self_eq_true]]
        · rcases Nat.lt_or_ge k (lxN T p - 1) with z | z
          · exact absurd (Or.inl eK) (nsp.2.2.1 k (by omega))
          · omega
theorem r_cut {I : Nat → Nat → Int32} {L : Nat → Nat → Int64} {Z : zZ} {M n : Nat} {T : Nat → Nat} (h : isMod Z M) (hK : wKey L (M - 200)) (hM : 200 ≤ M) (hT : tpR I M T n) : ∃ J2 L2, fX12_cut [.ref M] (I, L, Z) = some (none, (J2, L2, Z)) ∧ cutF I J2 M ∧ (∀ a, a ≠ M + 6 → L2 a = L a) ∧ ∀ j, j < lxN T n → tkR J2 L2 M T n j := by
  have f0 : cutF I (z_up I M 10 (nI 0)) M := ⟨fun a h0 _ _ _ => zup_off h0, fun f hf => zup_ne hf⟩
  obtain ⟨J2, L2, r1, r2⟩ := r_cut_lp h hK hM hT (n - 0) 0 0 (z_up I M 10 (nI 0)) L none none none none none none rfl (Nat.zero_le _) (by decide) rfl f0 (fun _ _ => rfl) zup_at (fun j hj => absurd hj (Nat.not_lt_zero _))
  refine ⟨J2, L2, ?_, r2⟩
  show kX12_cut_0 [some (Value.ref (M)), none, none, none, none, none, none, none] [] (I, L, Z) = _
  simp (disch := omega) only [kX12_cut_0, kX12_cut_7, h.1, r1, e_push, e_pushl, e_iload, e_lload, e_aload, e_istore, e_astore, e_lstore, e_iinc, e_iadd, e_isub, e_imul, e_iand, e_ior, e_ixor, e_ishl, e_ishr, e_iushr, e_idiv, e_irem, e_ladd, e_lsub, e_lmul, e_lcmp, e_mmax, e_mmin, e_i2l, e_l2i, e_i2b, e_i2c, e_dup, e_dup2, e_pop, e_icmp_eq, e_icmp_ne, e_icmp_lt, e_icmp_ge, e_icmp_gt, e_icmp_le, e_if_eq, e_if_ne, e_if_lt, e_if_ge, e_if_gt, e_if_le, e_getI, e_getR, e_putI, e_putZ, e_putR, e_iald, e_bald, e_zald, e_lald, e_aald, e_alen, e_iast, e_bast, e_zast, e_last, e_aast, e_iret, e_zret, e_lret, e_vret, e_obj, e_callV, e_callS, e_callT, e_acpy, e_ldcS, e_dn, e_ag, z_pop, List.getElem?_cons_zero, List.getElem?_cons_succ, List.set_cons_zero, List.set_cons_succ, List.length_cons, List.length_nil, z_nol, Option.map_some, Option.toList_some, Option.toList_none, List.cons_append, List.nil_append, n_lit, n_m1, n_m2, n_m1lt, n_m1le, n_rem, n_div, n_out, n_cl, n_eq, n_le, n_lt, n_add, n_mul, n_sub, n_nle, n_yle, n_nlt, n_ylt, n_neN, z_lay, z_sz, z_str, z_stI, z_stL, z_stR, eq_self, ↓reduceIte, true_and, and_true, and_self, false_and, and_false, or_self, false_or, or_false, true_or, or_true, not_true_eq_false, not_false_eq_true, Nat.reduceLeDiff, Nat.reduceLT, Nat.reduceAdd, Nat.reduceEqDiff, Nat.reduceMul, Nat.reduceSub, Value.category, Nat.zero_le, beq_self_eq_true]
