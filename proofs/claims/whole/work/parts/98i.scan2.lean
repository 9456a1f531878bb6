/-! read: the class's scan -/
theorem lup_off {L : Nat → Nat → Int64} {a k b : Nat} {v : Int64} (h : b ≠ a) : z_up L a k v b = L b := funext fun j => if_neg (fun z => h z.1)
theorem lup_at {L : Nat → Nat → Int64} {a k : Nat} {v : Int64} : z_up L a k v a k = v := if_pos ⟨rfl, rfl⟩
theorem lup_ne {L : Nat → Nat → Int64} {a k j b : Nat} {v : Int64} (h : j ≠ k) : z_up L a k v b j = L b j := if_neg (fun z => h z.2)
/-- the first k tokens stand in the draft's arrays -/
def tkC (I : Nat → Nat → Int32) (L : Nat → Nat → Int64) (B dx : Nat) (T : Nat → Nat) (n k : Nat) : Prop := ∀ i, i < k → I (B + (dx + 2)) i = nI (lxK T n (lxS T n i)) ∧ I (B + (dx + 4)) i = nI (lxS T n i) ∧ L (B + (dx + 3)) i = cdL T (lxS T n i) (lxE T n (lxS T n i) - lxS T n i)
theorem lxK_lt {I : Nat → Nat → Int32} {B : Nat} {T : Nat → Nat} {n : Nat} (hT : tpC I B T n) {p : Nat} (hp : p ≤ n) : lxK T n p < 256 := by
  unfold lxK
  by_cases g : p < n
  · have b := (hT.2.2 p g).2
    rw [if_pos g]
    have w : wdK T p (lxE T n p) < 256 := by
      unfold wdK
      generalize ho : lsP (isWd T p (lxE T n p)) 20 = o
      cases o with
      | none => decide
      | some w => have a : w < 20 := (lsP_lt ho).1; exact Nat.lt_trans a (by decide)
    split
    · split <;> omega
    · split
      · split <;> omega
      · split <;> omega
  · rw [if_neg g]
    decide
theorem p_scan {I : Nat → Nat → Int32} {L : Nat → Nat → Int64} {Z : zZ} {B tx dx n : Nat} {T : Nat → Nat} (h : isCls Z B tx) (hd : dx + tx = 21) (hS : strOk Z) (hT : tpC I B T n) : ∃ J K, fX8_scan [.ref (B + (dx + 1)), .ref (B + 1)] (I, L, Z) = some (none, (J, K, Z)) ∧ J (B + (dx + 1)) 3 = nI (lxN T n) ∧ tkC J K B dx T n (lxN T n) ∧ (∀ q, q ≠ B + (dx + 1) → q ≠ B + (dx + 2) → q ≠ B + (dx + 4) → J q = I q) ∧ ∀ q, q ≠ B + (dx + 3) → K q = L q := by
  obtain ⟨n1, n2, n3, n4⟩ := lxN_spec T n
  have hx := h.1
  have hn := hT.1
  show ∃ J K, kX8_scan_0 [some (Value.ref ((B + (dx + 1)))), some (Value.ref ((B + 1))), none, none, none, none] [] (I, L, Z) = _ ∧ _
  simp (disch := omega) only [kX8_scan_0, kX8_scan_12, dl_1 h hd, e_push, e_pushl, e_iload, e_lload, e_aload, e_istore, e_astore, e_lstore, e_iinc, e_iadd, e_isub, e_imul, e_iand, e_ior, e_ixor, e_ishl, e_ishr, e_iushr, e_idiv, e_irem, e_ladd, e_lsub, e_lmul, e_lcmp, e_mmax, e_mmin, e_i2l, e_l2i, e_i2b, e_i2c, e_dup, e_dup2, e_pop, e_icmp_eq, e_icmp_ne, e_icmp_lt, e_icmp_ge, e_icmp_gt, e_icmp_le, e_if_eq, e_if_ne, e_if_lt, e_if_ge, e_if_gt, e_if_le, e_getI, e_getR, e_putI, e_putZ, e_putR, e_iald, e_bald, e_zald, e_lald, e_aald, e_alen, e_iast, e_bast, e_zast, e_last, e_aast, e_iret, e_zret, e_lret, e_vret, e_obj, e_callV, e_callS, e_callT, e_acpy, e_ldcS, e_dn, e_ag, z_pop, List.getElem?_cons_zero, List.getElem?_cons_succ, List.set_cons_zero, List.set_cons_succ, List.length_cons, List.length_nil, z_nol, Option.map_some, Option.toList_some, Option.toList_none, List.cons_append, List.nil_append, n_lit, n_m1, n_m2, n_m1lt, n_m1le, n_rem, n_div, n_out, n_cl, n_eq, n_le, n_lt, n_add, n_mul, n_sub, n_nle, n_yle, n_nlt, n_ylt, n_neN, z_lay, z_sz, z_str, z_stI, z_stL, z_stR, eq_self, ↓reduceIte, true_and, and_true, and_self, false_and, and_false, or_self, false_or, or_false, true_or, or_true, not_true_eq_false, not_false_eq_true, Nat.reduceLeDiff, Nat.reduceLT, Nat.reduceAdd, Nat.reduceEqDiff, Nat.reduceMul, Nat.reduceSub, Value.category, Nat.zero_le, beq_self_eq_true]
  refine lp_ex2 (mk := fun J K => (none, (J, K, Z))) (fun i ls σ => ∃ J K m y, ls = [some (Value.ref ((B + (dx + 1)))), some (Value.ref ((B + 1))), some (Value.int (nI (lxB T n i))), some (Value.int (nI (m))), some (Value.int (nI (i))), y] ∧ σ = (J, K, Z) ∧ (i < lxN T n → m = 1) ∧ (i = lxN T n → i = 401 ∨ m = 0) ∧ J (B + (dx + 1)) 3 = nI i ∧ tkC J K B dx T n i ∧ (∀ q, q ≠ B + (dx + 1) → q ≠ B + (dx + 2) → q ≠ B + (dx + 4) → J q = I q) ∧ ∀ q, q ≠ B + (dx + 3) → K q = L q) (lxN T n) ?_ ?_ ?_
  · exact ⟨z_up I (B + (dx + 1)) 3 (nI 0), L, 1, none, rfl, rfl, fun _ => rfl, fun q => absurd q (by omega), zup_at, fun i hi => absurd hi (Nat.not_lt_zero _), fun q z1 _ _ => zup_off z1, fun _ _ => rfl⟩
  · rintro ls σ ⟨J, K, m, y, rfl, rfl, m1, m2, q1, q2, q3, q4⟩
    refine ⟨J, K, ?_, q1, q2, q3, q4⟩
    rcases m2 rfl with g | g
    · simp (disch := omega) only [bX8_scan_12, kX8_scan_120, g, e_push, e_pushl, e_iload, e_lload, e_aload, e_istore, e_astore, e_lstore, e_iinc, e_iadd, e_isub, e_imul, e_iand, e_ior, e_ixor, e_ishl, e_ishr, e_iushr, e_idiv, e_irem, e_ladd, e_lsub, e_lmul, e_lcmp, e_mmax, e_mmin, e_i2l, e_l2i, e_i2b, e_i2c, e_dup, e_dup2, e_pop, e_icmp_eq, e_icmp_ne, e_icmp_lt, e_icmp_ge, e_icmp_gt, e_icmp_le, e_if_eq, e_if_ne, e_if_lt, e_if_ge, e_if_gt, e_if_le, e_getI, e_getR, e_putI, e_putZ, e_putR, e_iald, e_bald, e_zald, e_lald, e_aald, e_alen, e_iast, e_bast, e_zast, e_last, e_aast, e_iret, e_zret, e_lret, e_vret, e_obj, e_callV, e_callS, e_callT, e_acpy, e_ldcS, e_dn, e_ag, z_pop, List.getElem?_cons_zero, List.getElem?_cons_succ, List.set_cons_zero, List.set_cons_succ, List.length_cons, List.length_nil, z_nol, Option.map_some, Option.toList_some, Option.toList_none, List.cons_append, List.nil_append, n_lit, n_m1, n_m2, n_m1lt, n_m1le, n_rem, n_div, n_out, n_cl, n_eq, n_le, n_lt, n_add, n_mul, n_sub, n_nle, n_yle, n_nlt, n_ylt, n_neN, z_lay, z_sz, z_str, z_stI, z_stL, z_stR, eq_self, ↓reduceIte, true_and, and_true, and_self, false_and, and_false, or_self, false_or, or_false, true_or, or_true, not_true_eq_false, not_false_eq_true, Nat.reduceLeDiff, Nat.reduceLT, Nat.reduceAdd, Nat.reduceEqDiff, Nat.reduceMul, Nat.reduceSub, Value.category, Nat.zero_le, beq_self_eq_true]
    · subst g
      by_cases g : lxN T n ≤ 400
      · simp (disch := omega) only [bX8_scan_12, kX8_scan_120, e_push, e_pushl, e_iload, e_lload, e_aload, e_istore, e_astore, e_lstore, e_iinc, e_iadd, e_isub, e_imul, e_iand, e_ior, e_ixor, e_ishl, e_ishr, e_iushr, e_idiv, e_irem, e_ladd, e_lsub, e_lmul, e_lcmp, e_mmax, e_mmin, e_i2l, e_l2i, e_i2b, e_i2c, e_dup, e_dup2, e_pop, e_icmp_eq, e_icmp_ne, e_icmp_lt, e_icmp_ge, e_icmp_gt, e_icmp_le, e_if_eq, e_if_ne, e_if_lt, e_if_ge, e_if_gt, e_if_le, e_getI, e_getR, e_putI, e_putZ, e_putR, e_iald, e_bald, e_zald, e_lald, e_aald, e_alen, e_iast, e_bast, e_zast, e_last, e_aast, e_iret, e_zret, e_lret, e_vret, e_obj, e_callV, e_callS, e_callT, e_acpy, e_ldcS, e_dn, e_ag, z_pop, List.getElem?_cons_zero, List.getElem?_cons_succ, List.set_cons_zero, List.set_cons_succ, List.length_cons, List.length_nil, z_nol, Option.map_some, Option.toList_some, Option.toList_none, List.cons_append, List.nil_append, n_lit, n_m1, n_m2, n_m1lt, n_m1le, n_rem, n_div, n_out, n_cl, n_eq, n_le, n_lt, n_add, n_mul, n_sub, n_nle, n_yle, n_nlt, n_ylt, n_neN, z_lay, z_sz, z_str, z_stI, z_stL, z_stR, eq_self, ↓reduceIte, true_and, and_true, and_self, false_and, and_false, or_self, false_or, or_false, true_or, or_true, not_true_eq_false, not_false_eq_true, Nat.reduceLeDiff, Nat.reduceLT, Nat.reduceAdd, Nat.reduceEqDiff, Nat.reduceMul, Nat.reduceSub, Value.category, Nat.zero_le, beq_self_eq_true]
      · simp (disch := omega) only [bX8_scan_12, kX8_scan_120, e_push, e_pushl, e_iload, e_lload, e_aload, e_istore, e_astore, e_lstore, e_iinc, e_iadd, e_isub, e_imul, e_iand, e_ior, e_ixor, e_ishl, e_ishr, e_iushr, e_idiv, e_irem, e_ladd, e_lsub, e_lmul, e_lcmp, e_mmax, e_mmin, e_i2l, e_l2i, e_i2b, e_i2c, e_dup, e_dup2, e_pop, e_icmp_eq, e_icmp_ne, e_icmp_lt, e_icmp_ge, e_icmp_gt, e_icmp_le, e_if_eq, e_if_ne, e_if_lt, e_if_ge, e_if_gt, e_if_le, e_getI, e_getR, e_putI, e_putZ, e_putR, e_iald, e_bald, e_zald, e_lald, e_aald, e_alen, e_iast, e_bast, e_zast, e_last, e_aast, e_iret, e_zret, e_lret, e_vret, e_obj, e_callV, e_callS, e_callT, e_acpy, e_ldcS, e_dn, e_ag, z_pop, List.getElem?_cons_zero, List.getElem?_cons_succ, List.set_cons_zero, List.set_cons_succ, List.length_cons, List.length_nil, z_nol, Option.map_some, Option.toList_some, Option.toList_none, List.cons_append, List.nil_append, n_lit, n_m1, n_m2, n_m1lt, n_m1le, n_rem, n_div, n_out, n_cl, n_eq, n_le, n_lt, n_add, n_mul, n_sub, n_nle, n_yle, n_nlt, n_ylt, n_neN, z_lay, z_sz, z_str, z_stI, z_stL, z_stR, eq_self, ↓reduceIte, true_and, and_true, and_self, false_and, and_false, or_self, false_or, or_false, true_or, or_true, not_true_eq_false, not_false_eq_true, Nat.reduceLeDiff, Nat.reduceLT, Nat.reduceAdd, Nat.reduceEqDiff, Nat.reduceMul, Nat.reduceSub, Value.category, Nat.zero_le, beq_self_eq_true]
  · rintro i hi ls σ ⟨J, K, m, y, rfl, rfl, m1, m2, q1, q2, q3, q4⟩
    have e1 := m1 hi
    subst e1
    obtain ⟨b1, b2⟩ := lxS_le T n i
    obtain ⟨c1, c2, c3⟩ := lxE_le T b2
    have hTJ : ∀ J' : Nat → Nat → Int32, (∀ q, q ≠ B + (dx + 1) → q ≠ B + (dx + 2) → q ≠ B + (dx + 4) → J' q = I q) → tpC J' B T n := fun J' hJ => ⟨hT.1, by rw [hJ (B + 1) (by omega) (by omega) (by omega)]; exact hT.2.1, fun j hj => by rw [hJ (B + 2) (by omega) (by omega) (by omega)]; exact hT.2.2 j hj⟩
    have k1 := p_pastBlanks (I := J) (L := K) h (hTJ J q3) (lxB T n i) b1
    rw [← lxS_B] at k1
    have k2 := p_endOf (I := J) (L := K) h (hTJ J q3) (lxS T n i) b2
    have q5 : ∀ q, q ≠ B + (dx + 1) → q ≠ B + (dx + 2) → q ≠ B + (dx + 4) → z_up J (B + (dx + 4)) i (nI (lxS T n i)) q = I q := fun q z1 z2 z3 => by rw [zup_off z3]; exact q3 q z1 z2 z3
    have k3 := p_kindOf (I := z_up J (B + (dx + 4)) i (nI (lxS T n i))) (L := K) h hS (hTJ _ q5) b2
    have bk := lxK_lt hT b2
    have q6 : ∀ q, q ≠ B + (dx + 1) → q ≠ B + (dx + 2) → q ≠ B + (dx + 4) → z_up (z_up J (B + (dx + 4)) i (nI (lxS T n i))) (B + (dx + 2)) i (nI (lxK T n (lxS T n i))) q = I q := fun q z1 z2 z3 => by rw [zup_off z2]; exact q5 q z1 z2 z3
    have k4 := p_codeOf (I := z_up (z_up J (B + (dx + 4)) i (nI (lxS T n i))) (B + (dx + 2)) i (nI (lxK T n (lxS T n i)))) (L := K) h (hTJ _ q6) c1 c2
    have v1 : z_up (z_up J (B + (dx + 4)) i (nI (lxS T n i))) (B + (dx + 2)) i (nI (lxK T n (lxS T n i))) (B + (dx + 2)) i = nI (lxK T n (lxS T n i)) := zup_at
    refine ⟨[some (Value.ref ((B + (dx + 1)))), some (Value.ref ((B + 1))), some (Value.int (nI (lxB T n (i + 1)))), some (Value.int (nI (b01 (¬ lxT T n i)))), some (Value.int (nI (i + 1))), some (Value.int (nI (lxE T n (lxS T n i))))], (z_up (z_up (z_up J (B + (dx + 4)) i (nI (lxS T n i))) (B + (dx + 2)) i (nI (lxK T n (lxS T n i)))) (B + (dx + 1)) 3 (nI (i + 1)), z_up K (B + (dx + 3)) i (cdL T (lxS T n i) (lxE T n (lxS T n i) - lxS T n i)), Z), ?_, _, _, _, _, rfl, rfl, ?_, ?_, zup_at, ?_, ?_, ?_⟩
    · have hb : lxB T n (i + 1) = lxE T n (lxS T n i) := rfl
      rw [hb]
      by_cases g1 : lxK T n (lxS T n i) = 22
      · have t : b01 (¬ lxT T n i) = 0 := by unfold b01; exact ifP_neg (fun z => z (Or.inl g1))
        rw [t]
        rw [g1] at k3 v1 k4 ⊢
        simp (disch := omega) only [bX8_scan_12, kX8_scan_120, kX8_scan_102, kX8_scan_101, kX8_scan_12, kX8_scan_0, cl_1 h, dl_1 h hd, dl_2 h hd, dl_3 h hd, dl_4 h hd, dr_1_0 h hd, dr_1_1 h hd, dr_1_2 h hd, k1, k2, k3, k4, v1, e_push, e_pushl, e_iload, e_lload, e_aload, e_istore, e_astore, e_lstore, e_iinc, e_iadd, e_isub, e_imul, e_iand, e_ior, e_ixor, e_ishl, e_ishr, e_iushr, e_idiv, e_irem, e_ladd, e_lsub, e_lmul, e_lcmp, e_mmax, e_mmin, e_i2l, e_l2i, e_i2b, e_i2c, e_dup, e_dup2, e_pop, e_icmp_eq, e_icmp_ne, e_icmp_lt, e_icmp_ge, e_icmp_gt, e_icmp_le, e_if_eq, e_if_ne, e_if_lt, e_if_ge, e_if_gt, e_if_le, e_getI, e_getR, e_putI, e_putZ, e_putR, e_iald, e_bald, e_zald, e_lald, e_aald, e_alen, e_iast, e_bast, e_zast, e_last, e_aast, e_iret, e_zret, e_lret, e_vret, e_obj, e_callV, e_callS, e_callT, e_acpy, e_ldcS, e_dn, e_ag, z_pop, List.getElem?_cons_zero, List.getElem?_cons_succ, List.set_cons_zero, List.set_cons_succ, List.length_cons, List.length_nil, z_nol, Option.map_some, Option.toList_some, Option.toList_none, List.cons_append, List.nil_append, n_lit, n_m1, n_m2, n_m1lt, n_m1le, n_rem, n_div, n_out, n_cl, n_eq, n_le, n_lt, n_add, n_mul, n_sub, n_nle, n_yle, n_nlt, n_ylt, n_neN, z_lay, z_sz, z_str, z_stI, z_stL, z_stR, eq_self, ↓reduceIte, true_and, and_true, and_self, false_and, and_false, or_self, false_or, or_false, true_or, or_true, not_true_eq_false, not_false_eq_true, Nat.reduceLeDiff, Nat.reduceLT, Nat.reduceAdd, Nat.reduceEqDiff, Nat.reduceMul, Nat.reduceSub, Value.category, Nat.zero_le, beq_self_eq_true]
      · by_cases g2 : lxK T n (lxS T n i) = 23
        · have t : b01 (¬ lxT T n i) = 0 := by unfold b01; exact ifP_neg (fun z => z (Or.inr g2))
          rw [t]
          rw [g2] at k3 v1 k4 ⊢
          simp (disch := omega) only [bX8_scan_12, kX8_scan_120, kX8_scan_102, kX8_scan_101, kX8_scan_12, kX8_scan_0, cl_1 h, dl_1 h hd, dl_2 h hd, dl_3 h hd, dl_4 h hd, dr_1_0 h hd, dr_1_1 h hd, dr_1_2 h hd, k1, k2, k3, k4, v1, e_push, e_pushl, e_iload, e_lload, e_aload, e_istore, e_astore, e_lstore, e_iinc, e_iadd, e_isub, e_imul, e_iand, e_ior, e_ixor, e_ishl, e_ishr, e_iushr, e_idiv, e_irem, e_ladd, e_lsub, e_lmul, e_lcmp, e_mmax, e_mmin, e_i2l, e_l2i, e_i2b, e_i2c, e_dup, e_dup2, e_pop, e_icmp_eq, e_icmp_ne, e_icmp_lt, e_icmp_ge, e_icmp_gt, e_icmp_le, e_if_eq, e_if_ne, e_if_lt, e_if_ge, e_if_gt, e_if_le, e_getI, e_getR, e_putI, e_putZ, e_putR, e_iald, e_bald, e_zald, e_lald, e_aald, e_alen, e_iast, e_bast, e_zast, e_last, e_aast, e_iret, e_zret, e_lret, e_vret, e_obj, e_callV, e_callS, e_callT, e_acpy, e_ldcS, e_dn, e_ag, z_pop, List.getElem?_cons_zero, List.getElem?_cons_succ, List.set_cons_zero, List.set_cons_succ, List.length_cons, List.length_nil, z_nol, Option.map_some, Option.toList_some, Option.toList_none, List.cons_append, List.nil_append, n_lit, n_m1, n_m2, n_m1lt, n_m1le, n_rem, n_div, n_out, n_cl, n_eq, n_le, n_lt, n_add, n_mul, n_sub, n_nle, n_yle, n_nlt, n_ylt, n_neN, z_lay, z_sz, z_str, z_stI, z_stL, z_stR, eq_self, ↓reduceIte, true_and, and_true, and_self, false_and, and_false, or_self, false_or, or_false, true_or, or_true, not_true_eq_false, not_false_eq_true, Nat.reduceLeDiff, Nat.reduceLT, Nat.reduceAdd, Nat.reduceEqDiff, Nat.reduceMul, Nat.reduceSub, Value.category, Nat.zero_le, beq_self_eq_true]
        · have t : b01 (¬ lxT T n i) = 1 := by unfold b01; exact ifP_pos (fun z => z.elim g1 g2)
          rw [t]
          simp (disch := omega) only [bX8_scan_12, kX8_scan_120, kX8_scan_102, kX8_scan_101, kX8_scan_12, kX8_scan_0, cl_1 h, dl_1 h hd, dl_2 h hd, dl_3 h hd, dl_4 h hd, dr_1_0 h hd, dr_1_1 h hd, dr_1_2 h hd, k1, k2, k3, k4, v1, g1, g2, e_push, e_pushl, e_iload, e_lload, e_aload, e_istore, e_astore, e_lstore, e_iinc, e_iadd, e_isub, e_imul, e_iand, e_ior, e_ixor, e_ishl, e_ishr, e_iushr, e_idiv, e_irem, e_ladd, e_lsub, e_lmul, e_lcmp, e_mmax, e_mmin, e_i2l, e_l2i, e_i2b, e_i2c, e_dup, e_dup2, e_pop, e_icmp_eq, e_icmp_ne, e_icmp_lt, e_icmp_ge, e_icmp_gt, e_icmp_le, e_if_eq, e_if_ne, e_if_lt, e_if_ge, e_if_gt, e_if_le, e_getI, e_getR, e_putI, e_putZ, e_putR, e_iald, e_bald, e_zald, e_lald, e_aald, e_alen, e_iast, e_bast, e_zast, e_last, e_aast, e_iret, e_zret, e_lret, e_vret, e_obj, e_callV, e_callS, e_callT, e_acpy, e_ldcS, e_dn, e_ag, z_pop, List.getElem?_cons_zero, List.getElem?_cons_succ, List.set_cons_zero, List.set_cons_succ, List.length_cons, List.length_nil, z_nol, Option.map_some, Option.toList_some, Option.toList_none, List.cons_append, List.nil_append, n_lit, n_m1, n_m2, n_m1lt, n_m1le, n_rem, n_div, n_out, n_cl, n_eq, n_le, n_lt, n_add, n_mul, n_sub, n_nle, n_yle, n_nlt, n_ylt, n_neN, z_lay, z_sz, z_str, z_stI, z_stL, z_stR, eq_self, ↓reduceIte, true_and, and_true, and_self, false_and, and_false, or_self, false_or, or_false, true_or, or_true, not_true_eq_false, not_false_eq_true, Nat.reduceLeDiff, Nat.reduceLT, Nat.reduceAdd, Nat.reduceEqDiff, Nat.reduceMul, Nat.reduceSub, Value.category, Nat.zero_le, beq_self_eq_true]
    · intro z
      unfold b01
      exact ifP_pos (n3 i z)
    · intro z
      rcases n4 with g | g
      · exact Or.inl (by omega)
      · refine Or.inr ?_
        unfold b01
        rw [← z, Nat.add_sub_cancel] at g
        exact ifP_neg (fun y => y g)
    · intro j hj
      by_cases g : j = i
      · subst g
        exact ⟨by rw [zup_off (by omega), zup_at], by rw [zup_off (by omega), zup_off (by omega), zup_at], lup_at⟩
      · obtain ⟨a1, a2, a3⟩ := q2 j (by omega)
        exact ⟨by rw [zup_off (by omega), zup_ne g, zup_off (by omega), a1], by rw [zup_off (by omega), zup_off (by omega), zup_ne g, a2], by rw [lup_ne g, a3]⟩
    · intro q z1 z2 z3
      rw [zup_off z1]
      exact q6 q z1 z2 z3
    · intro q z1
      rw [lup_off z1]
      exact q4 q z1
