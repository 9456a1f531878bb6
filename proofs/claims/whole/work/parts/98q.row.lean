/-! read: the class reads a row -/
theorem lc_eq {x y : Int64} : (lg_cmp x y = nI 0) = (x = y) := by
  unfold lg_cmp
  by_cases g : x > y
  · have n : x ≠ y := fun e => by
      subst e
      have := Int64.lt_iff_toInt_lt.mp g
      omega
    rw [if_pos g]
    exact propext ⟨fun z => absurd z (by decide), fun z => absurd z n⟩
  · rw [if_neg g]
    by_cases g2 : x = y
    · rw [if_pos g2]
      exact propext ⟨fun _ => g2, fun _ => rfl⟩
    · rw [if_neg g2]
      exact propext ⟨fun z => absurd z (by decide), fun z => absurd z g2⟩
theorem zup_again {I : Nat → Nat → Int32} {a k : Nat} {v w : Int32} : z_up (z_up I a k v) a k w = z_up I a k w := funext fun b => funext fun j => by
  unfold z_up
  by_cases g : b = a ∧ j = k
  · rw [if_pos g, if_pos g]
  · rw [if_neg g, if_neg g, if_neg g]
noncomputable def rnC (J : Nat → Nat → Int32) (M : Nat → Nat → Int64) (B dx : Nat) (x : Int64) (k : Nat) : Nat → Nat → Int32 := ifP (∃ o, o < k ∧ M (B + (dx + 14)) o = x) (z_up J (B + dx) 6 (nI 3)) J
theorem p_rowNames {J : Nat → Nat → Int32} {M : Nat → Nat → Int64} {Z : zZ} {B tx dx row : Nat} {x : Int64} (h : isCls Z B tx) (hd : dx + tx = 21) (hrow : row ≤ 4) : kX7_readRow_23 [some (Value.ref ((B + dx))), some (Value.int (nI (row))), some (Value.long (x)), none, some (Value.int (nI (0)))] [] (J, M, Z) = kX7_readRow_52 [some (Value.ref ((B + dx))), some (Value.int (nI (row))), some (Value.long (x)), none, some (Value.int (nI (row)))] [] (rnC J M B dx x row, M, Z) := by
  have e0 : rnC J M B dx x 0 = J := ifP_neg (fun ⟨o, z, _⟩ => absurd z (Nat.not_lt_zero _))
  have key := lp_for (body := bX7_readRow_23) (fun i => [some (Value.ref ((B + dx))), some (Value.int (nI (row))), some (Value.long (x)), none, some (Value.int (nI (i)))]) (fun i => (rnC J M B dx x i, M, Z)) row (o := kX7_readRow_52 [some (Value.ref ((B + dx))), some (Value.int (nI (row))), some (Value.long (x)), none, some (Value.int (nI (row)))] [] (rnC J M B dx x row, M, Z))
    (by
      generalize rnC J M B dx x row = J1
      simp (disch := omega) only [bX7_readRow_23, e_push, e_pushl, e_iload, e_lload, e_aload, e_istore, e_astore, e_lstore, e_iinc, e_iadd, e_isub, e_imul, e_iand, e_ior, e_ixor, e_ishl, e_ishr, e_iushr, e_idiv, e_irem, e_ladd, e_lsub, e_lmul, e_lcmp, e_mmax, e_mmin, e_i2l, e_l2i, e_i2b, e_i2c, e_dup, e_dup2, e_pop, e_icmp_eq, e_icmp_ne, e_icmp_lt, e_icmp_ge, e_icmp_gt, e_icmp_le, e_if_eq, e_if_ne, e_if_lt, e_if_ge, e_if_gt, e_if_le, e_getI, e_getR, e_putI, e_putZ, e_putR, e_iald, e_bald, e_zald, e_lald, e_aald, e_alen, e_iast, e_bast, e_zast, e_last, e_aast, e_iret, e_zret, e_lret, e_vret, e_obj, e_callV, e_callS, e_callT, e_acpy, e_ldcS, e_dn, e_ag, z_pop, List.getElem?_cons_zero, List.getElem?_cons_succ, List.set_cons_zero, List.set_cons_succ, List.length_cons, List.length_nil, z_nol, Option.map_some, Option.toList_some, Option.toList_none, List.cons_append, List.nil_append, n_lit, n_m1, n_m2, n_m1lt, n_m1le, n_rem, n_div, n_out, n_cl, n_eq, n_le, n_lt, n_add, n_mul, n_sub, n_nle, n_yle, n_nlt, n_ylt, n_neN, z_lay, z_sz, z_str, z_stI, z_stL, z_stR, eq_self, ↓reduceIte, true_and, and_true, and_self, false_and, and_false, or_self, false_or, or_false, true_or, or_true, not_true_eq_false, not_false_eq_true, Nat.reduceLeDiff, Nat.reduceLT, Nat.reduceAdd, Nat.reduceEqDiff, Nat.reduceMul, Nat.reduceSub, Value.category, Nat.zero_le, beq_self_eq_true])
    (by
      intro i hi
      by_cases g : M (B + (dx + 14)) i = x
      · have e1 : rnC J M B dx x (i + 1) = z_up (rnC J M B dx x i) (B + dx) 6 (nI 3) := by
          unfold rnC
          rw [ifP_pos (P := ∃ o, o < i + 1 ∧ M (B + (dx + 14)) o = x) ⟨i, by omega, g⟩]
          by_cases z : ∃ o, o < i ∧ M (B + (dx + 14)) o = x
          · rw [ifP_pos z, zup_again]
          · rw [ifP_neg z]
        rw [e1]
        generalize rnC J M B dx x i = J1
        simp (disch := omega) only [bX7_readRow_23, kX7_readRow_46, dl_0 h hd, dr_0_4 h hd, dl_14 h hd, lc_eq, g, e_push, e_pushl, e_iload, e_lload, e_aload, e_istore, e_astore, e_lstore, e_iinc, e_iadd, e_isub, e_imul, e_iand, e_ior, e_ixor, e_ishl, e_ishr, e_iushr, e_idiv, e_irem, e_ladd, e_lsub, e_lmul, e_lcmp, e_mmax, e_mmin, e_i2l, e_l2i, e_i2b, e_i2c, e_dup, e_dup2, e_pop, e_icmp_eq, e_icmp_ne, e_icmp_lt, e_icmp_ge, e_icmp_gt, e_icmp_le, e_if_eq, e_if_ne, e_if_lt, e_if_ge, e_if_gt, e_if_le, e_getI, e_getR, e_putI, e_putZ, e_putR, e_iald, e_bald, e_zald, e_lald, e_aald, e_alen, e_iast, e_bast, e_zast, e_last, e_aast, e_iret, e_zret, e_lret, e_vret, e_obj, e_callV, e_callS, e_callT, e_acpy, e_ldcS, e_dn, e_ag, z_pop, List.getElem?_cons_zero, List.getElem?_cons_succ, List.set_cons_zero, List.set_cons_succ, List.length_cons, List.length_nil, z_nol, Option.map_some, Option.toList_some, Option.toList_none, List.cons_append, List.nil_append, n_lit, n_m1, n_m2, n_m1lt, n_m1le, n_rem, n_div, n_out, n_cl, n_eq, n_le, n_lt, n_add, n_mul, n_sub, n_nle, n_yle, n_nlt, n_ylt, n_neN, z_lay, z_sz, z_str, z_stI, z_stL, z_stR, eq_self, ↓reduceIte, true_and, and_true, and_self, false_and, and_false, or_self, false_or, or_false, true_or, or_true, not_true_eq_false, not_false_eq_true, Nat.reduceLeDiff, Nat.reduceLT, Nat.reduceAdd, Nat.reduceEqDiff, Nat.reduceMul, Nat.reduceSub, Value.category, Nat.zero_le, beq_self_eq_true]
      · have e1 : rnC J M B dx x (i + 1) = rnC J M B dx x i := by
          unfold rnC
          refine ifP_congr ⟨fun ⟨o, z1, z2⟩ => ⟨o, ?_, z2⟩, fun ⟨o, z1, z2⟩ => ⟨o, by omega, z2⟩⟩
          rcases Nat.eq_or_lt_of_le (Nat.lt_succ_iff.mp z1) with z | z
          · rw [z] at z2; exact absurd z2 g
          · exact z
        rw [e1]
        generalize rnC J M B dx x i = J1
        simp (disch := omega) only [bX7_readRow_23, kX7_readRow_46, dl_0 h hd, dr_0_4 h hd, dl_14 h hd, lc_eq, g, e_push, e_pushl, e_iload, e_lload, e_aload, e_istore, e_astore, e_lstore, e_iinc, e_iadd, e_isub, e_imul, e_iand, e_ior, e_ixor, e_ishl, e_ishr, e_iushr, e_idiv, e_irem, e_ladd, e_lsub, e_lmul, e_lcmp, e_mmax, e_mmin, e_i2l, e_l2i, e_i2b, e_i2c, e_dup, e_dup2, e_pop, e_icmp_eq, e_icmp_ne, e_icmp_lt, e_icmp_ge, e_icmp_gt, e_icmp_le, e_if_eq, e_if_ne, e_if_lt, e_if_ge, e_if_gt, e_if_le, e_getI, e_getR, e_putI, e_putZ, e_putR, e_iald, e_bald, e_zald, e_lald, e_aald, e_alen, e_iast, e_bast, e_zast, e_last, e_aast, e_iret, e_zret, e_lret, e_vret, e_obj, e_callV, e_callS, e_callT, e_acpy, e_ldcS, e_dn, e_ag, z_pop, List.getElem?_cons_zero, List.getElem?_cons_succ, List.set_cons_zero, List.set_cons_succ, List.length_cons, List.length_nil, z_nol, Option.map_some, Option.toList_some, Option.toList_none, List.cons_append, List.nil_append, n_lit, n_m1, n_m2, n_m1lt, n_m1le, n_rem, n_div, n_out, n_cl, n_eq, n_le, n_lt, n_add, n_mul, n_sub, n_nle, n_yle, n_nlt, n_ylt, n_neN, z_lay, z_sz, z_str, z_stI, z_stL, z_stR, eq_self, ↓reduceIte, true_and, and_true, and_self, false_and, and_false, or_self, false_or, or_false, true_or, or_true, not_true_eq_false, not_false_eq_true, Nat.reduceLeDiff, Nat.reduceLT, Nat.reduceAdd, Nat.reduceEqDiff, Nat.reduceMul, Nat.reduceSub, Value.category, Nat.zero_le, beq_self_eq_true])
  show q_lp bX7_readRow_23 _ [] (J, M, Z) = _
  have key2 : q_lp bX7_readRow_23 [some (Value.ref ((B + dx))), some (Value.int (nI (row))), some (Value.long (x)), none, some (Value.int (nI (0)))] [] (rnC J M B dx x 0, M, Z) = _ := key
  rw [e0] at key2
  exact key2
theorem mOK_seat {A : Nat → Nat} {r v : Nat} (h : mOK A) (hr : r < 4) (h2 : r < A 2) (hs : A (30 + r) < 8) (hv : v ≤ A 1) : mOK (fUp (fUp A (50 + (r * 8 + A (30 + r))) v) (30 + r) (A (30 + r) + 1)) := by
  obtain ⟨a1, a2, a3, a4, a5, a6, a7, a8, a9⟩ := h
  have e : ∀ k, k < 30 → fUp (fUp A (50 + (r * 8 + A (30 + r))) v) (30 + r) (A (30 + r) + 1) k = A k := fun k hk => by rw [fUp_ne (by omega), fUp_ne (by omega)]
  refine ⟨by rw [e 0 (by decide)]; exact a1, by rw [e 0 (by decide)]; exact a2, by rw [e 1 (by decide)]; exact a3, by rw [e 2 (by decide)]; exact a4, by rw [e 3 (by decide)]; exact a5, fun k hk => ?_, fun q hq => ?_, fun q i hq hi => ?_, fun q h1 hq => ?_⟩
  · rw [e _ (by omega), e 1 (by decide)]; exact a6 k hk
  · by_cases g : q = r
    · subst g
      rw [fUp_at]; omega
    · rw [fUp_ne (by omega), fUp_ne (by omega)]; exact a7 q hq
  · rw [e 1 (by decide)]
    by_cases g : q = r
    · subst g
      rw [fUp_at] at hi
      rw [fUp_ne (by omega)]
      by_cases g2 : i = A (30 + q)
      · subst g2
        rw [fUp_at]; exact hv
      · rw [fUp_ne (by omega)]; exact a8 q i hq (by omega)
    · rw [fUp_ne (by omega), fUp_ne (by omega)] at hi
      have := a7 q hq
      rw [fUp_ne (by omega), fUp_ne (by omega)]; exact a8 q i hq hi
  · rw [e 2 (by decide)] at h1
    rw [fUp_ne (by omega), fUp_ne (by omega)]; exact a9 q h1 hq
theorem mOK_name {A : Nat → Nat} {i : Nat} (h : mOK A) (h2 : A 2 < 4) : mOK (fUp (fUp A (40 + A 2) i) 2 (A 2 + 1)) := by
  obtain ⟨a1, a2, a3, a4, a5, a6, a7, a8, a9⟩ := h
  have e : ∀ k, k < 40 → k ≠ 2 → fUp (fUp A (40 + A 2) i) 2 (A 2 + 1) k = A k := fun k hk h2 => by rw [fUp_ne h2, fUp_ne (by omega)]
  refine ⟨by rw [e 0 (by decide) (by decide)]; exact a1, by rw [e 0 (by decide) (by decide)]; exact a2, by rw [e 1 (by decide) (by decide)]; exact a3, by rw [fUp_at]; omega, by rw [e 3 (by decide) (by decide)]; exact a5, fun k hk => ?_, fun q hq => ?_, fun q i hq hi => ?_, fun q h1 hq => ?_⟩
  · rw [e _ (by omega) (by omega), e 1 (by decide) (by decide)]; exact a6 k hk
  · rw [e _ (by omega) (by omega)]; exact a7 q hq
  · rw [e _ (by omega) (by omega)] at hi
    have := a7 q hq
    rw [e 1 (by decide) (by decide), fUp_ne (by omega), fUp_ne (by omega)]; exact a8 q i hq hi
  · rw [fUp_at] at h1
    rw [e _ (by omega) (by omega)]; exact a9 q (by omega) hq
theorem rcA.seat {J : Nat → Nat → Int32} {M : Nat → Nat → Int64} {B dx v r s : Nat} {A : Nat → Nat} (h : rcA J M B dx A) (hA : mOK A) (hr : r < 4) (hs : A (30 + r) = s) (h8 : s < 8) : rcA (z_up (z_up J (B + (dx + 12)) (r * 8 + s) (nI v)) (B + (dx + 11)) r (nI (s + 1))) M B dx (fUp (fUp A (50 + (r * 8 + s)) v) (30 + r) (s + 1)) := by
  obtain ⟨r0, r1, r2, r3, r4, r5, r6, r7, r8⟩ := h
  have a4 := hA.2.2.2.1
  have e : ∀ k, k < 30 → fUp (fUp A (50 + (r * 8 + s)) v) (30 + r) (s + 1) k = A k := fun k hk => by rw [fUp_ne (by omega), fUp_ne (by omega)]
  have o : ∀ a, a ≠ B + (dx + 12) → a ≠ B + (dx + 11) → z_up (z_up J (B + (dx + 12)) (r * 8 + s) (nI v)) (B + (dx + 11)) r (nI (s + 1)) a = J a := fun a h1 h2 => by rw [zup_off h2, zup_off h1]
  refine ⟨by rw [o _ (by omega) (by omega), e 0 (by decide)]; exact r0, by rw [o _ (by omega) (by omega), e 1 (by decide)]; exact r1, by rw [o _ (by omega) (by omega), e 2 (by decide)]; exact r2, by rw [o _ (by omega) (by omega), e 3 (by decide)]; exact r3, fun k hk => ?_, fun q hq => ?_, fun q i hq hi => ?_, fun k hk => ?_, fun q hq => ?_⟩
  · rw [o _ (by omega) (by omega), e _ (by omega)]; exact r4 k hk
  · by_cases g : q = r
    · subst g
      rw [zup_at, fUp_at]
    · rw [zup_ne g, zup_off (by omega), fUp_ne (by omega), fUp_ne (by omega)]; exact r5 q hq
  · rw [zup_off (by omega)]
    by_cases g : q = r
    · subst g
      rw [fUp_at] at hi
      rw [fUp_ne (by omega)]
      by_cases g2 : i = s
      · subst g2
        rw [zup_at, fUp_at]
      · rw [zup_ne (by omega), fUp_ne (by omega)]; exact r6 q i hq (by omega)
    · rw [fUp_ne (by omega), fUp_ne (by omega)] at hi
      have := hA.2.2.2.2.2.2.1 q hq
      rw [zup_ne (by omega), fUp_ne (by omega), fUp_ne (by omega)]; exact r6 q i hq hi
  · rw [o _ (by omega) (by omega), fUp_ne (by omega), fUp_ne (by omega)]; exact r7 k hk
  · rw [e 2 (by decide)] at hq
    rw [fUp_ne (by omega), fUp_ne (by omega)]; exact r8 q hq
theorem rcA.name {J : Nat → Nat → Int32} {M : Nat → Nat → Int64} {B dx i : Nat} {A : Nat → Nat} (h : rcA J M B dx A) (hA : mOK A) (h2 : A 2 < 4) : rcA (z_up J (B + (dx + 10)) 0 (nI (A 2 + 1))) (z_up M (B + (dx + 14)) (A 2) (M (B + (dx + 3)) i)) B dx (fUp (fUp A (40 + A 2) i) 2 (A 2 + 1)) := by
  obtain ⟨r0, r1, r2, r3, r4, r5, r6, r7, r8⟩ := h
  have e : ∀ k, k < 40 → k ≠ 2 → fUp (fUp A (40 + A 2) i) 2 (A 2 + 1) k = A k := fun k hk h2 => by rw [fUp_ne h2, fUp_ne (by omega)]
  have e5 : ∀ k, 50 ≤ k → fUp (fUp A (40 + A 2) i) 2 (A 2 + 1) k = A k := fun k hk => by rw [fUp_ne (by omega), fUp_ne (by omega)]
  refine ⟨by rw [zup_off (by omega), e 0 (by decide) (by decide)]; exact r0, by rw [zup_off (by omega), e 1 (by decide) (by decide)]; exact r1, ⟨by rw [zup_at, fUp_at], by rw [zup_ne (by omega)]; exact r2.2.1, by rw [zup_ne (by omega)]; exact r2.2.2⟩, by rw [zup_off (by omega), e 3 (by decide) (by decide)]; exact r3, fun k hk => ?_, fun q hq => ?_, fun q j hq hj => ?_, fun k hk => ?_, fun q hq => ?_⟩
  · rw [zup_off (by omega), e _ (by omega) (by omega)]; exact r4 k hk
  · rw [zup_off (by omega), e _ (by omega) (by omega)]; exact r5 q hq
  · rw [e _ (by omega) (by omega)] at hj
    rw [zup_off (by omega), e5 _ (by omega)]; exact r6 q j hq hj
  · rw [zup_off (by omega), e5 _ (by omega)]; exact r7 k hk
  · rw [fUp_at] at hq
    rw [fUp_ne (by omega), lup_off (a := B + (dx + 14)) (b := B + (dx + 3)) (by omega)]
    by_cases g : q = A 2
    · subst g
      rw [lup_at, fUp_at]
    · rw [lup_ne g, fUp_ne (by omega)]; exact r8 q (by omega)
theorem cf_draft {Z : zZ} {B tx dx : Nat} (h : isCls Z B tx) (hd : dx + tx = 21) : isFam Z (B + (dx + 10)) (B + (dx + 11)) (B + (dx + 12)) := ⟨dl_10 h hd, dr_10_3 h hd, dr_10_4 h hd, dl_11 h hd, dl_12 h hd⟩
theorem mSeats_1 {K W : Nat → Nat} {r n i : Nat} {A : Nat → Nat} (h : K i = 21) : mSeats K W r (n + 1) i A = sBind A (mCol W i A) fun j A1 => mSeats K W r n j (fUp (fUp A1 (50 + (r * 8 + A1 (30 + r))) (W i)) (30 + r) (A1 (30 + r) + 1)) := by rw [mSeats, if_pos h]
theorem mSeats_0 {K W : Nat → Nat} {r n i : Nat} {A : Nat → Nat} (h : K i ≠ 21) : mSeats K W r n i A = (0, i, A) := by
  cases n with
  | zero => rfl
  | succ n => rw [mSeats, if_neg h]
theorem p_rdSeats {I : Nat → Nat → Int32} {L : Nat → Nat → Int64} {Z : zZ} {B tx dx sz r : Nat} {K W : Nat → Nat} {M : Nat → Nat → Int64} {x : Int64} (h : isCls Z B tx) (hd : dx + tx = 21) (hT : tokC I L B dx K W sz) (hr : r < 4) : ∀ n s i (A : Nat → Nat) (J : Nat → Nat → Int32), s + n = 8 → okC I L B dx J M A i 0 → mOK A → r < A 2 → A (30 + r) = s → i ≤ 401 → ∃ J', q_lp bX7_readRow_98 [some (Value.ref ((B + dx))), some (Value.int (nI (r))), some (Value.long (x)), none, some (Value.int (nI (s)))] [] (J, M, Z) = some (none, (J', M, Z)) ∧ okC I L B dx J' M (mSeats K W r n i A).2.2 (mSeats K W r n i A).2.1 (mSeats K W r n i A).1 := by
  intro n
  induction n with
  | zero =>
    intro s i A J hs hO hA h2 e hi
    obtain rfl : s = 8 := by omega
    refine ⟨J, ?_, hO⟩
    rw [q_lp_eq, show bX7_readRow_98 [some (Value.ref ((B + dx))), some (Value.int (nI (r))), some (Value.long (x)), none, some (Value.int (nI (8)))] [] (J, M, Z) = some (.inr (none, (J, M, Z))) by simp (disch := omega) only [bX7_readRow_98, kX7_readRow_146, e_push, e_pushl, e_iload, e_lload, e_aload, e_istore, e_astore, e_lstore, e_iinc, e_iadd, e_isub, e_imul, e_iand, e_ior, e_ixor, e_ishl, e_ishr, e_iushr, e_idiv, e_irem, e_ladd, e_lsub, e_lmul, e_lcmp, e_mmax, e_mmin, e_i2l, e_l2i, e_i2b, e_i2c, e_dup, e_dup2, e_pop, e_icmp_eq, e_icmp_ne, e_icmp_lt, e_icmp_ge, e_icmp_gt, e_icmp_le, e_if_eq, e_if_ne, e_if_lt, e_if_ge, e_if_gt, e_if_le, e_getI, e_getR, e_putI, e_putZ, e_putR, e_iald, e_bald, e_zald, e_lald, e_aald, e_alen, e_iast, e_bast, e_zast, e_last, e_aast, e_iret, e_zret, e_lret, e_vret, e_obj, e_callV, e_callS, e_callT, e_acpy, e_ldcS, e_dn, e_ag, z_pop, List.getElem?_cons_zero, List.getElem?_cons_succ, List.set_cons_zero, List.set_cons_succ, List.length_cons, List.length_nil, z_nol, Option.map_some, Option.toList_some, Option.toList_none, List.cons_append, List.nil_append, n_lit, n_m1, n_m2, n_m1lt, n_m1le, n_rem, n_div, n_out, n_cl, n_eq, n_le, n_lt, n_add, n_mul, n_sub, n_nle, n_yle, n_nlt, n_ylt, n_neN, z_lay, z_sz, z_str, z_stI, z_stL, z_stR, eq_self, ↓reduceIte, true_and, and_true, and_self, false_and, and_false, or_self, false_or, or_false, true_or, or_true, not_true_eq_false, not_false_eq_true, Nat.reduceLeDiff, Nat.reduceLT, Nat.reduceAdd, Nat.reduceEqDiff, Nat.reduceMul, Nat.reduceSub, Value.category, Nat.zero_le, beq_self_eq_true]]
  | succ n ih =>
    intro s i A J hs hO hA h2 e hi
    have o1 := hO.1
    have o3 := hO.2.2.1
    have hTJ := hO.2.2.2.2.2.1.tok hO.2.2.2.2.2.2 hT
    have kk := p_kindD (J := J) h hd hTJ (fun _ _ => rfl) (show i ≤ 1000 by omega)
    have bk := tok_lt hT i
    by_cases g : K i = 21
    · have hisz : i < sz := by
        rcases Nat.lt_or_ge i sz with z | z
        · exact z
        · have := hT.2.2.2 i z
          omega
      rw [mSeats_1 g]
      rw [g] at kk
      by_cases g3 : W i ≤ 3
      · obtain ⟨J1, c1, p1, q1⟩ := p_rdColY h hd hT hisz g hO hA.2.2.1 g3
        have hA1 := mOK_col hA g3
        have eA : fUp A 1 (max (A 1) (W i)) (30 + r) = s := by rw [fUp_ne (by omega)]; exact e
        have e2 : fUp A 1 (max (A 1) (W i)) 2 = A 2 := by rw [fUp_ne (by omega)]
        have e1 : W i ≤ fUp A 1 (max (A 1) (W i)) 1 := by rw [fUp_at]; omega
        rw [mCol_y g3, sBind_yes rfl]
        show ∃ J', _ ∧ okC I L B dx J' M (mSeats K W r n (i + 1) (fUp (fUp (fUp A 1 (max (A 1) (W i))) (50 + (r * 8 + fUp A 1 (max (A 1) (W i)) (30 + r))) (W i)) (30 + r) (fUp A 1 (max (A 1) (W i)) (30 + r) + 1))).2.2 (mSeats K W r n (i + 1) (fUp (fUp (fUp A 1 (max (A 1) (W i))) (50 + (r * 8 + fUp A 1 (max (A 1) (W i)) (30 + r))) (W i)) (30 + r) (fUp A 1 (max (A 1) (W i)) (30 + r) + 1))).2.1 (mSeats K W r n (i + 1) (fUp (fUp (fUp A 1 (max (A 1) (W i))) (50 + (r * 8 + fUp A 1 (max (A 1) (W i)) (30 + r))) (W i)) (30 + r) (fUp A 1 (max (A 1) (W i)) (30 + r) + 1))).1
        generalize fUp A 1 (max (A 1) (W i)) = A1 at p1 hA1 eA e1 e2 ⊢
        have hA2 := mOK_seat (v := W i) hA1 hr (by omega) (by omega) e1
        rw [eA] at hA2 ⊢
        obtain ⟨u1, u2, u3, u4, u5, u6, u7⟩ := p1
        have ap := p_append (I := J1) (L := M) (x := nI (W i)) (cf_draft h hd) (by omega) hr (show J1 (B + (dx + 11)) r = nI s by rw [(u5 rfl).2.2.2.2.2.1 r hr, eA]) (by omega)
        obtain ⟨J', f1, f2⟩ := ih (s + 1) (i + 1) (fUp (fUp A1 (50 + (r * 8 + s)) (W i)) (30 + r) (s + 1)) (z_up (z_up J1 (B + (dx + 12)) (r * 8 + s) (nI (W i))) (B + (dx + 11)) r (nI (s + 1))) (by omega) ⟨by rw [zup_off (by omega), zup_off (by omega)]; exact u1, u2, by rw [zup_off (by omega), zup_off (by omega)]; exact u3, by rw [zup_off (by omega), zup_off (by omega)]; exact u4, fun z => (u5 z).seat hA1 hr eA (by omega), (u6.at (by omega)).at (by omega), u7⟩ hA2 (by rw [fUp_ne (by omega), fUp_ne (by omega)]; omega) fUp_at (by have := hT.2.1; omega)
        refine ⟨J', ?_, f2⟩
        rw [← f1, q_lp_eq, show bX7_readRow_98 [some (Value.ref ((B + dx))), some (Value.int (nI (r))), some (Value.long (x)), none, some (Value.int (nI (s)))] [] (J, M, Z) = some (.inl ([some (Value.ref ((B + dx))), some (Value.int (nI (r))), some (Value.long (x)), none, some (Value.int (nI (s + 1)))], (z_up (z_up J1 (B + (dx + 12)) (r * 8 + s) (nI (W i))) (B + (dx + 11)) r (nI (s + 1)), M, Z))) by simp (disch := omega) only [bX7_readRow_98, dl_0 h hd, dl_1 h hd, dl_10 h hd, dr_0_0 h hd, dr_0_2 h hd, o1, o3, kk, c1, ap, e_push, e_pushl, e_iload, e_lload, e_aload, e_istore, e_astore, e_lstore, e_iinc, e_iadd, e_isub, e_imul, e_iand, e_ior, e_ixor, e_ishl, e_ishr, e_iushr, e_idiv, e_irem, e_ladd, e_lsub, e_lmul, e_lcmp, e_mmax, e_mmin, e_i2l, e_l2i, e_i2b, e_i2c, e_dup, e_dup2, e_pop, e_icmp_eq, e_icmp_ne, e_icmp_lt, e_icmp_ge, e_icmp_gt, e_icmp_le, e_if_eq, e_if_ne, e_if_lt, e_if_ge, e_if_gt, e_if_le, e_getI, e_getR, e_putI, e_putZ, e_putR, e_iald, e_bald, e_zald, e_lald, e_aald, e_alen, e_iast, e_bast, e_zast, e_last, e_aast, e_iret, e_zret, e_lret, e_vret, e_obj, e_callV, e_callS, e_callT, e_acpy, e_ldcS, e_dn, e_ag, z_pop, List.getElem?_cons_zero, List.getElem?_cons_succ, List.set_cons_zero, List.set_cons_succ, List.length_cons, List.length_nil, z_nol, Option.map_some, Option.toList_some, Option.toList_none, List.cons_append, List.nil_append, n_lit, n_m1, n_m2, n_m1lt, n_m1le, n_rem, n_div, n_out, n_cl, n_eq, n_le, n_lt, n_add, n_mul, n_sub, n_nle, n_yle, n_nlt, n_ylt, n_neN, z_lay, z_sz, z_str, z_stI, z_stL, z_stR, eq_self, ↓reduceIte, true_and, and_true, and_self, false_and, and_false, or_self, false_or, or_false, true_or, or_true, not_true_eq_false, not_false_eq_true, Nat.reduceLeDiff, Nat.reduceLT, Nat.reduceAdd, Nat.reduceEqDiff, Nat.reduceMul, Nat.reduceSub, Value.category, Nat.zero_le, beq_self_eq_true]]
      · obtain ⟨J1, c1, p1, q1⟩ := p_rdColN h hd hT hisz g hO g3
        rw [mCol_n g3, sBind_no (by show 5 ≠ 0; decide)]
        obtain ⟨u1, u2, u3, u4, u5, u6, u7⟩ := p1
        have ap := p_append (I := J1) (L := M) (x := nI 0) (cf_draft h hd) (by omega) hr (show J1 (B + (dx + 11)) r = nI s by rw [q1 _ (by omega), (hO.2.2.2.2.1 rfl).2.2.2.2.2.1 r hr, e]) (by omega)
        have w1 : z_up (z_up J1 (B + (dx + 12)) (r * 8 + s) (nI 0)) (B + (dx + 11)) r (nI (s + 1)) (B + dx) 6 = nI 5 := by rw [zup_off (by omega), zup_off (by omega)]; exact u1
        refine ⟨z_up (z_up J1 (B + (dx + 12)) (r * 8 + s) (nI 0)) (B + (dx + 11)) r (nI (s + 1)), ?_, w1, by show 5 < 8; decide, by rw [zup_off (by omega), zup_off (by omega)]; exact u3, by rw [zup_off (by omega), zup_off (by omega)]; exact u4, fun z => absurd z (by show ¬ 5 = 0; decide), (u6.at (by omega)).at (by omega), u7⟩
        rw [q_lp_eq, show bX7_readRow_98 [some (Value.ref ((B + dx))), some (Value.int (nI (r))), some (Value.long (x)), none, some (Value.int (nI (s)))] [] (J, M, Z) = some (.inl ([some (Value.ref ((B + dx))), some (Value.int (nI (r))), some (Value.long (x)), none, some (Value.int (nI (s + 1)))], (z_up (z_up J1 (B + (dx + 12)) (r * 8 + s) (nI 0)) (B + (dx + 11)) r (nI (s + 1)), M, Z))) by simp (disch := omega) only [bX7_readRow_98, dl_0 h hd, dl_1 h hd, dl_10 h hd, dr_0_0 h hd, dr_0_2 h hd, o1, o3, kk, c1, ap, e_push, e_pushl, e_iload, e_lload, e_aload, e_istore, e_astore, e_lstore, e_iinc, e_iadd, e_isub, e_imul, e_iand, e_ior, e_ixor, e_ishl, e_ishr, e_iushr, e_idiv, e_irem, e_ladd, e_lsub, e_lmul, e_lcmp, e_mmax, e_mmin, e_i2l, e_l2i, e_i2b, e_i2c, e_dup, e_dup2, e_pop, e_icmp_eq, e_icmp_ne, e_icmp_lt, e_icmp_ge, e_icmp_gt, e_icmp_le, e_if_eq, e_if_ne, e_if_lt, e_if_ge, e_if_gt, e_if_le, e_getI, e_getR, e_putI, e_putZ, e_putR, e_iald, e_bald, e_zald, e_lald, e_aald, e_alen, e_iast, e_bast, e_zast, e_last, e_aast, e_iret, e_zret, e_lret, e_vret, e_obj, e_callV, e_callS, e_callT, e_acpy, e_ldcS, e_dn, e_ag, z_pop, List.getElem?_cons_zero, List.getElem?_cons_succ, List.set_cons_zero, List.set_cons_succ, List.length_cons, List.length_nil, z_nol, Option.map_some, Option.toList_some, Option.toList_none, List.cons_append, List.nil_append, n_lit, n_m1, n_m2, n_m1lt, n_m1le, n_rem, n_div, n_out, n_cl, n_eq, n_le, n_lt, n_add, n_mul, n_sub, n_nle, n_yle, n_nlt, n_ylt, n_neN, z_lay, z_sz, z_str, z_stI, z_stL, z_stR, eq_self, ↓reduceIte, true_and, and_true, and_self, false_and, and_false, or_self, false_or, or_false, true_or, or_true, not_true_eq_false, not_false_eq_true, Nat.reduceLeDiff, Nat.reduceLT, Nat.reduceAdd, Nat.reduceEqDiff, Nat.reduceMul, Nat.reduceSub, Value.category, Nat.zero_le, beq_self_eq_true]]
        generalize z_up (z_up J1 (B + (dx + 12)) (r * 8 + s) (nI 0)) (B + (dx + 11)) r (nI (s + 1)) = J2 at w1 ⊢
        show q_lp bX7_readRow_98 [some (Value.ref ((B + dx))), some (Value.int (nI (r))), some (Value.long (x)), none, some (Value.int (nI (s + 1)))] [] (J2, M, Z) = _
        by_cases g8 : s + 1 = 8
        · rw [g8, q_lp_eq, show bX7_readRow_98 [some (Value.ref ((B + dx))), some (Value.int (nI (r))), some (Value.long (x)), none, some (Value.int (nI (8)))] [] (J2, M, Z) = some (.inr (none, (J2, M, Z))) by simp (disch := omega) only [bX7_readRow_98, kX7_readRow_146, e_push, e_pushl, e_iload, e_lload, e_aload, e_istore, e_astore, e_lstore, e_iinc, e_iadd, e_isub, e_imul, e_iand, e_ior, e_ixor, e_ishl, e_ishr, e_iushr, e_idiv, e_irem, e_ladd, e_lsub, e_lmul, e_lcmp, e_mmax, e_mmin, e_i2l, e_l2i, e_i2b, e_i2c, e_dup, e_dup2, e_pop, e_icmp_eq, e_icmp_ne, e_icmp_lt, e_icmp_ge, e_icmp_gt, e_icmp_le, e_if_eq, e_if_ne, e_if_lt, e_if_ge, e_if_gt, e_if_le, e_getI, e_getR, e_putI, e_putZ, e_putR, e_iald, e_bald, e_zald, e_lald, e_aald, e_alen, e_iast, e_bast, e_zast, e_last, e_aast, e_iret, e_zret, e_lret, e_vret, e_obj, e_callV, e_callS, e_callT, e_acpy, e_ldcS, e_dn, e_ag, z_pop, List.getElem?_cons_zero, List.getElem?_cons_succ, List.set_cons_zero, List.set_cons_succ, List.length_cons, List.length_nil, z_nol, Option.map_some, Option.toList_some, Option.toList_none, List.cons_append, List.nil_append, n_lit, n_m1, n_m2, n_m1lt, n_m1le, n_rem, n_div, n_out, n_cl, n_eq, n_le, n_lt, n_add, n_mul, n_sub, n_nle, n_yle, n_nlt, n_ylt, n_neN, z_lay, z_sz, z_str, z_stI, z_stL, z_stR, eq_self, ↓reduceIte, true_and, and_true, and_self, false_and, and_false, or_self, false_or, or_false, true_or, or_true, not_true_eq_false, not_false_eq_true, Nat.reduceLeDiff, Nat.reduceLT, Nat.reduceAdd, Nat.reduceEqDiff, Nat.reduceMul, Nat.reduceSub, Value.category, Nat.zero_le, beq_self_eq_true]]
        · rw [q_lp_eq, show bX7_readRow_98 [some (Value.ref ((B + dx))), some (Value.int (nI (r))), some (Value.long (x)), none, some (Value.int (nI (s + 1)))] [] (J2, M, Z) = some (.inr (none, (J2, M, Z))) by simp (disch := omega) only [bX7_readRow_98, kX7_readRow_146, dl_0 h hd, w1, e_push, e_pushl, e_iload, e_lload, e_aload, e_istore, e_astore, e_lstore, e_iinc, e_iadd, e_isub, e_imul, e_iand, e_ior, e_ixor, e_ishl, e_ishr, e_iushr, e_idiv, e_irem, e_ladd, e_lsub, e_lmul, e_lcmp, e_mmax, e_mmin, e_i2l, e_l2i, e_i2b, e_i2c, e_dup, e_dup2, e_pop, e_icmp_eq, e_icmp_ne, e_icmp_lt, e_icmp_ge, e_icmp_gt, e_icmp_le, e_if_eq, e_if_ne, e_if_lt, e_if_ge, e_if_gt, e_if_le, e_getI, e_getR, e_putI, e_putZ, e_putR, e_iald, e_bald, e_zald, e_lald, e_aald, e_alen, e_iast, e_bast, e_zast, e_last, e_aast, e_iret, e_zret, e_lret, e_vret, e_obj, e_callV, e_callS, e_callT, e_acpy, e_ldcS, e_dn, e_ag, z_pop, List.getElem?_cons_zero, List.getElem?_cons_succ, List.set_cons_zero, List.set_cons_succ, List.length_cons, List.length_nil, z_nol, Option.map_some, Option.toList_some, Option.toList_none, List.cons_append, List.nil_append, n_lit, n_m1, n_m2, n_m1lt, n_m1le, n_rem, n_div, n_out, n_cl, n_eq, n_le, n_lt, n_add, n_mul, n_sub, n_nle, n_yle, n_nlt, n_ylt, n_neN, z_lay, z_sz, z_str, z_stI, z_stL, z_stR, eq_self, ↓reduceIte, true_and, and_true, and_self, false_and, and_false, or_self, false_or, or_false, true_or, or_true, not_true_eq_false, not_false_eq_true, Nat.reduceLeDiff, Nat.reduceLT, Nat.reduceAdd, Nat.reduceEqDiff, Nat.reduceMul, Nat.reduceSub, Value.category, Nat.zero_le, beq_self_eq_true]]
    · rw [mSeats_0 g]
      refine ⟨J, ?_, hO⟩
      rw [q_lp_eq, show bX7_readRow_98 [some (Value.ref ((B + dx))), some (Value.int (nI (r))), some (Value.long (x)), none, some (Value.int (nI (s)))] [] (J, M, Z) = some (.inr (none, (J, M, Z))) by simp (disch := omega) only [bX7_readRow_98, kX7_readRow_146, dl_0 h hd, dl_1 h hd, dr_0_0 h hd, o1, o3, kk, g, e_push, e_pushl, e_iload, e_lload, e_aload, e_istore, e_astore, e_lstore, e_iinc, e_iadd, e_isub, e_imul, e_iand, e_ior, e_ixor, e_ishl, e_ishr, e_iushr, e_idiv, e_irem, e_ladd, e_lsub, e_lmul, e_lcmp, e_mmax, e_mmin, e_i2l, e_l2i, e_i2b, e_i2c, e_dup, e_dup2, e_pop, e_icmp_eq, e_icmp_ne, e_icmp_lt, e_icmp_ge, e_icmp_gt, e_icmp_le, e_if_eq, e_if_ne, e_if_lt, e_if_ge, e_if_gt, e_if_le, e_getI, e_getR, e_putI, e_putZ, e_putR, e_iald, e_bald, e_zald, e_lald, e_aald, e_alen, e_iast, e_bast, e_zast, e_last, e_aast, e_iret, e_zret, e_lret, e_vret, e_obj, e_callV, e_callS, e_callT, e_acpy, e_ldcS, e_dn, e_ag, z_pop, List.getElem?_cons_zero, List.getElem?_cons_succ, List.set_cons_zero, List.set_cons_succ, List.length_cons, List.length_nil, z_nol, Option.map_some, Option.toList_some, Option.toList_none, List.cons_append, List.nil_append, n_lit, n_m1, n_m2, n_m1lt, n_m1le, n_rem, n_div, n_out, n_cl, n_eq, n_le, n_lt, n_add, n_mul, n_sub, n_nle, n_yle, n_nlt, n_ylt, n_neN, z_lay, z_sz, z_str, z_stI, z_stL, z_stR, eq_self, ↓reduceIte, true_and, and_true, and_self, false_and, and_false, or_self, false_or, or_false, true_or, or_true, not_true_eq_false, not_false_eq_true, Nat.reduceLeDiff, Nat.reduceLT, Nat.reduceAdd, Nat.reduceEqDiff, Nat.reduceMul, Nat.reduceSub, Value.category, Nat.zero_le, beq_self_eq_true]]
theorem p_tellRowC {I : Nat → Nat → Int32} {L : Nat → Nat → Int64} {Z : zZ} {B tx dx sz i : Nat} {K W A : Nat → Nat} {N : Nat → Nat → Prop} {J : Nat → Nat → Int32} {M : Nat → Nat → Int64} (h : isCls Z B tx) (hd : dx + tx = 21) (hT : tokC I L B dx K W sz) (hi : i < sz) (k0 : K i = 20) (hA : mOK A) (h2 : A 2 < 4) (hnm : ∀ o, o < A 2 → A (40 + o) < sz ∧ K (A (40 + o)) = 20) (hN : ∀ a b, a < sz → b < sz → K a = 20 → K b = 20 → (L (B + (dx + 3)) a = L (B + (dx + 3)) b ↔ N a b)) (hO : okC I L B dx J M A i 0) : rdC Z I L B dx 2 J M (mRow K W N i A) := by
  obtain ⟨o1, o2, o3, o4, o5, o6, o7⟩ := hO
  have hTJ := o6.tok o7 hT
  have hsz := hT.2.1
  have v := p_valueD h hd hTJ hi
  have r := o5 rfl
  have r2 := r.2.2.1.1
  have fin : ∀ J' M', kX7_readRow_52 [some (Value.ref ((B + dx))), some (Value.int (nI (A 2))), some (Value.long (M (B + (dx + 3)) i)), none, some (Value.int (nI (A 2)))] [] (rnC J M B dx (M (B + (dx + 3)) i) (A 2), M, Z) = some (none, (J', M', Z)) → fX7_readTell [.ref (B + dx), .int (nI 2)] (J, M, Z) = some (none, (J', M', Z)) := by
    intro J' M' e
    have e2 : fX7_readRow [.ref (B + dx)] (J, M, Z) = some (none, (J', M', Z)) := by
      show kX7_readRow_0 [some (Value.ref ((B + dx))), none, none, none, none] [] (J, M, Z) = _
      have k := p_rowNames (J := J) (M := M) (x := M (B + (dx + 3)) i) h hd (show A 2 ≤ 4 by omega)
      rw [e] at k
      simp (disch := omega) only [kX7_readRow_0, dl_0 h hd, dl_1 h hd, dr_0_0 h hd, dr_0_2 h hd, dl_10 h hd, o3, r2, v, k, e_push, e_pushl, e_iload, e_lload, e_aload, e_istore, e_astore, e_lstore, e_iinc, e_iadd, e_isub, e_imul, e_iand, e_ior, e_ixor, e_ishl, e_ishr, e_iushr, e_idiv, e_irem, e_ladd, e_lsub, e_lmul, e_lcmp, e_mmax, e_mmin, e_i2l, e_l2i, e_i2b, e_i2c, e_dup, e_dup2, e_pop, e_icmp_eq, e_icmp_ne, e_icmp_lt, e_icmp_ge, e_icmp_gt, e_icmp_le, e_if_eq, e_if_ne, e_if_lt, e_if_ge, e_if_gt, e_if_le, e_getI, e_getR, e_putI, e_putZ, e_putR, e_iald, e_bald, e_zald, e_lald, e_aald, e_alen, e_iast, e_bast, e_zast, e_last, e_aast, e_iret, e_zret, e_lret, e_vret, e_obj, e_callV, e_callS, e_callT, e_acpy, e_ldcS, e_dn, e_ag, z_pop, List.getElem?_cons_zero, List.getElem?_cons_succ, List.set_cons_zero, List.set_cons_succ, List.length_cons, List.length_nil, z_nol, Option.map_some, Option.toList_some, Option.toList_none, List.cons_append, List.nil_append, n_lit, n_m1, n_m2, n_m1lt, n_m1le, n_rem, n_div, n_out, n_cl, n_eq, n_le, n_lt, n_add, n_mul, n_sub, n_nle, n_yle, n_nlt, n_ylt, n_neN, z_lay, z_sz, z_str, z_stI, z_stL, z_stR, eq_self, ↓reduceIte, true_and, and_true, and_self, false_and, and_false, or_self, false_or, or_false, true_or, or_true, not_true_eq_false, not_false_eq_true, Nat.reduceLeDiff, Nat.reduceLT, Nat.reduceAdd, Nat.reduceEqDiff, Nat.reduceMul, Nat.reduceSub, Value.category, Nat.zero_le, beq_self_eq_true]
    show kX7_readTell_0 [some (Value.ref ((B + dx))), some (Value.int (nI (2))), none, none] [] (J, M, Z) = _
    simp (disch := omega) only [kX7_readTell_109, kX7_readTell_0, dl_0 h hd, e2, e_push, e_pushl, e_iload, e_lload, e_aload, e_istore, e_astore, e_lstore, e_iinc, e_iadd, e_isub, e_imul, e_iand, e_ior, e_ixor, e_ishl, e_ishr, e_iushr, e_idiv, e_irem, e_ladd, e_lsub, e_lmul, e_lcmp, e_mmax, e_mmin, e_i2l, e_l2i, e_i2b, e_i2c, e_dup, e_dup2, e_pop, e_icmp_eq, e_icmp_ne, e_icmp_lt, e_icmp_ge, e_icmp_gt, e_icmp_le, e_if_eq, e_if_ne, e_if_lt, e_if_ge, e_if_gt, e_if_le, e_getI, e_getR, e_putI, e_putZ, e_putR, e_iald, e_bald, e_zald, e_lald, e_aald, e_alen, e_iast, e_bast, e_zast, e_last, e_aast, e_iret, e_zret, e_lret, e_vret, e_obj, e_callV, e_callS, e_callT, e_acpy, e_ldcS, e_dn, e_ag, z_pop, List.getElem?_cons_zero, List.getElem?_cons_succ, List.set_cons_zero, List.set_cons_succ, List.length_cons, List.length_nil, z_nol, Option.map_some, Option.toList_some, Option.toList_none, List.cons_append, List.nil_append, n_lit, n_m1, n_m2, n_m1lt, n_m1le, n_rem, n_div, n_out, n_cl, n_eq, n_le, n_lt, n_add, n_mul, n_sub, n_nle, n_yle, n_nlt, n_ylt, n_neN, z_lay, z_sz, z_str, z_stI, z_stL, z_stR, eq_self, ↓reduceIte, true_and, and_true, and_self, false_and, and_false, or_self, false_or, or_false, true_or, or_true, not_true_eq_false, not_false_eq_true, Nat.reduceLeDiff, Nat.reduceLT, Nat.reduceAdd, Nat.reduceEqDiff, Nat.reduceMul, Nat.reduceSub, Value.category, Nat.zero_le, beq_self_eq_true]
  have hx : (∃ o, o < A 2 ∧ M (B + (dx + 14)) o = M (B + (dx + 3)) i) ↔ (∃ o, o < A 2 ∧ N (A (40 + o)) i) := by
    have p : ∀ o, o < A 2 → (M (B + (dx + 14)) o = M (B + (dx + 3)) i ↔ N (A (40 + o)) i) := fun o ho => by
      obtain ⟨n1, n2⟩ := hnm o ho
      rw [r.2.2.2.2.2.2.2.2 o ho, o7 (B + (dx + 3)) (by omega)]
      exact hN _ _ n1 hi n2 k0
    exact ⟨fun ⟨o, z1, z2⟩ => ⟨o, z1, (p o z1).mp z2⟩, fun ⟨o, z1, z2⟩ => ⟨o, z1, (p o z1).mpr z2⟩⟩
  unfold mRow
  by_cases g : ∃ o, o < A 2 ∧ N (A (40 + o)) i
  · rw [ifP_pos g]
    have e : rnC J M B dx (M (B + (dx + 3)) i) (A 2) = z_up J (B + dx) 6 (nI 3) := ifP_pos (hx.mpr g)
    rw [e] at fin
    refine ⟨z_up J (B + dx) 6 (nI 3), M, fin _ _ ?_, zup_at, by show 3 < 8; decide, by rw [zup_ne (by omega)]; exact o3, by rw [zup_ne (by omega)]; exact o4, fun z => absurd z (by show ¬ 3 = 0; decide), o6.at (by omega), o7⟩
    have e6 : z_up J (B + dx) 6 (nI 3) (B + dx) 6 = nI 3 := zup_at
    simp (disch := omega) only [kX7_readRow_52, kX7_readRow_64, dl_0 h hd, e6, e_push, e_pushl, e_iload, e_lload, e_aload, e_istore, e_astore, e_lstore, e_iinc, e_iadd, e_isub, e_imul, e_iand, e_ior, e_ixor, e_ishl, e_ishr, e_iushr, e_idiv, e_irem, e_ladd, e_lsub, e_lmul, e_lcmp, e_mmax, e_mmin, e_i2l, e_l2i, e_i2b, e_i2c, e_dup, e_dup2, e_pop, e_icmp_eq, e_icmp_ne, e_icmp_lt, e_icmp_ge, e_icmp_gt, e_icmp_le, e_if_eq, e_if_ne, e_if_lt, e_if_ge, e_if_gt, e_if_le, e_getI, e_getR, e_putI, e_putZ, e_putR, e_iald, e_bald, e_zald, e_lald, e_aald, e_alen, e_iast, e_bast, e_zast, e_last, e_aast, e_iret, e_zret, e_lret, e_vret, e_obj, e_callV, e_callS, e_callT, e_acpy, e_ldcS, e_dn, e_ag, z_pop, List.getElem?_cons_zero, List.getElem?_cons_succ, List.set_cons_zero, List.set_cons_succ, List.length_cons, List.length_nil, z_nol, Option.map_some, Option.toList_some, Option.toList_none, List.cons_append, List.nil_append, n_lit, n_m1, n_m2, n_m1lt, n_m1le, n_rem, n_div, n_out, n_cl, n_eq, n_le, n_lt, n_add, n_mul, n_sub, n_nle, n_yle, n_nlt, n_ylt, n_neN, z_lay, z_sz, z_str, z_stI, z_stL, z_stR, eq_self, ↓reduceIte, true_and, and_true, and_self, false_and, and_false, or_self, false_or, or_false, true_or, or_true, not_true_eq_false, not_false_eq_true, Nat.reduceLeDiff, Nat.reduceLT, Nat.reduceAdd, Nat.reduceEqDiff, Nat.reduceMul, Nat.reduceSub, Value.category, Nat.zero_le, beq_self_eq_true]
  · rw [ifP_neg g]
    have e : rnC J M B dx (M (B + (dx + 3)) i) (A 2) = J := ifP_neg (fun z => g (hx.mp z))
    rw [e] at fin
    have hA2 := mOK_name (i := i) hA h2
    have rn := r.name (i := i) hA h2
    have e8 : z_up J (B + (dx + 10)) 0 (nI (A 2 + 1)) (B + dx) 8 = nI i := by rw [zup_off (by omega)]; exact o3
    obtain ⟨J', f1, f2⟩ := p_rdSeats (x := M (B + (dx + 3)) i) (M := z_up M (B + (dx + 14)) (A 2) (M (B + (dx + 3)) i)) h hd hT h2 8 0 (i + 1) (fUp (fUp A (40 + A 2) i) 2 (A 2 + 1)) (z_up (z_up J (B + (dx + 10)) 0 (nI (A 2 + 1))) (B + dx) 8 (nI (i + 1))) rfl ⟨by rw [zup_ne (by omega), zup_off (by omega)]; exact o1, o2, zup_at, by rw [zup_ne (by omega), zup_off (by omega)]; exact o4, fun _ => rn.kept (fun a ha => zup_off ha) (zup_ne (by omega)) (zup_ne (by omega)) (zup_ne (by omega)), (o6.at (by omega)).at (by omega), fun a ha => by rw [lup_off ha]; exact o7 a ha⟩ hA2 (by rw [fUp_at]; omega) (by rw [fUp_ne (by omega), fUp_ne (by omega)]; exact hA.2.2.2.2.2.2.2.2 _ (Nat.le_refl _) h2) (by omega)
    refine ⟨J', z_up M (B + (dx + 14)) (A 2) (M (B + (dx + 3)) i), fin _ _ ?_, f2⟩
    rw [← f1]
    generalize hX : q_lp bX7_readRow_98 = X
    have eX : kX7_readRow_98 = X := hX
    simp (disch := omega) only [kX7_readRow_52, eX, dl_0 h hd, dr_0_4 h hd, dl_14 h hd, dr_0_2 h hd, dl_10 h hd, o1, r2, e8, e_push, e_pushl, e_iload, e_lload, e_aload, e_istore, e_astore, e_lstore, e_iinc, e_iadd, e_isub, e_imul, e_iand, e_ior, e_ixor, e_ishl, e_ishr, e_iushr, e_idiv, e_irem, e_ladd, e_lsub, e_lmul, e_lcmp, e_mmax, e_mmin, e_i2l, e_l2i, e_i2b, e_i2c, e_dup, e_dup2, e_pop, e_icmp_eq, e_icmp_ne, e_icmp_lt, e_icmp_ge, e_icmp_gt, e_icmp_le, e_if_eq, e_if_ne, e_if_lt, e_if_ge, e_if_gt, e_if_le, e_getI, e_getR, e_putI, e_putZ, e_putR, e_iald, e_bald, e_zald, e_lald, e_aald, e_alen, e_iast, e_bast, e_zast, e_last, e_aast, e_iret, e_zret, e_lret, e_vret, e_obj, e_callV, e_callS, e_callT, e_acpy, e_ldcS, e_dn, e_ag, z_pop, List.getElem?_cons_zero, List.getElem?_cons_succ, List.set_cons_zero, List.set_cons_succ, List.length_cons, List.length_nil, z_nol, Option.map_some, Option.toList_some, Option.toList_none, List.cons_append, List.nil_append, n_lit, n_m1, n_m2, n_m1lt, n_m1le, n_rem, n_div, n_out, n_cl, n_eq, n_le, n_lt, n_add, n_mul, n_sub, n_nle, n_yle, n_nlt, n_ylt, n_neN, z_lay, z_sz, z_str, z_stI, z_stL, z_stR, eq_self, ↓reduceIte, true_and, and_true, and_self, false_and, and_false, or_self, false_or, or_false, true_or, or_true, not_true_eq_false, not_false_eq_true, Nat.reduceLeDiff, Nat.reduceLT, Nat.reduceAdd, Nat.reduceEqDiff, Nat.reduceMul, Nat.reduceSub, Value.category, Nat.zero_le, beq_self_eq_true]
