/-! read: what a well-formed text tells; A: 0 colours, 1 the highest colour told, 2 rows, 3 seed, 10.. children, 30.. lengths, 40.. names, 50.. seats, 100.. laws -/
def mCol (W : Nat → Nat) (i : Nat) (A : Nat → Nat) : Nat × Nat × (Nat → Nat) := if W i ≤ 3 then (0, i + 1, fUp A 1 (max (A 1) (W i))) else (5, i, A)
def mChild (W : Nat → Nat) (i : Nat) (A : Nat → Nat) : Nat × Nat × (Nat → Nat) := sBind A (mCol W i A) fun i1 A1 => sBind A (mCol W i1 A1) fun i2 A2 => sBind A (mCol W i2 A2) fun i3 A3 => (0, i3, fUp A3 (10 + (W i * 4 + W (i + 1))) (W (i + 2) + 1))
def mSeats (K W : Nat → Nat) (r : Nat) : Nat → Nat → (Nat → Nat) → Nat × Nat × (Nat → Nat)
  | 0, i, A => (0, i, A)
  | n + 1, i, A => if K i = 21 then sBind A (mCol W i A) fun j A1 => mSeats K W r n j (fUp (fUp A1 (50 + (r * 8 + A1 (30 + r))) (W i)) (30 + r) (A1 (30 + r) + 1)) else (0, i, A)
noncomputable def mRow (K W : Nat → Nat) (N : Nat → Nat → Prop) (i : Nat) (A : Nat → Nat) : Nat × Nat × (Nat → Nat) := ifP (∃ o, o < A 2 ∧ N (A (40 + o)) i) (3, i, A) (mSeats K W (A 2) 8 (i + 1) (fUp (fUp A (40 + A 2) i) 2 (A 2 + 1)))
noncomputable def mTell (K W : Nat → Nat) (N : Nat → Nat → Prop) (i : Nat) (A : Nat → Nat) : Nat × Nat × (Nat → Nat) :=
  if K i = 0 then (if 2 ≤ W (i + 1) ∧ W (i + 1) ≤ 4 then (0, i + 2, fUp A 0 (W (i + 1))) else (5, i + 1, A))
  else if K i = 1 then mChild W (i + 1) A
  else if K i = 2 then mRow K W N (i + 1) A
  else if K i = 7 then (0, i + 2, fUp A 3 (W (i + 1)))
  else (0, i + 1, fUp A (100 + (K i - 3)) (i + 2))
noncomputable def mTells (K W : Nat → Nat) (N : Nat → Nat → Prop) : Nat → Nat → Nat → Nat → (Nat → Nat) → Nat × Nat × (Nat → Nat)
  | 0, _, _, i, A => (0, i, A)
  | n + 1, nch, nrow, i, A => if K i = 22 then (0, i, A) else sBind A (mTell K W N i A) fun _ A1 => mTells K W N n (nch + if K i = 1 then 1 else 0) (nrow + if K i = 2 then 1 else 0) (tell2 K nch nrow i).2 A1
def mA0 : Nat → Nat := fun k => if k = 0 then 2 else 0
def mOK (A : Nat → Nat) : Prop := 2 ≤ A 0 ∧ A 0 ≤ 4 ∧ A 1 ≤ 3 ∧ A 2 ≤ 4 ∧ A 3 < 10000 ∧ (∀ k, k < 16 → A (10 + k) ≤ A 1 + 1) ∧ (∀ r, r < 4 → A (30 + r) ≤ 8) ∧ (∀ r i, r < 4 → i < A (30 + r) → A (50 + (r * 8 + i)) ≤ A 1) ∧ ∀ r, A 2 ≤ r → r < 4 → A (30 + r) = 0
theorem mOK_0 : mOK mA0 := by
  refine ⟨by decide, by decide, by decide, by decide, by decide, fun k hk => ?_, fun r hr => ?_, fun r i hr hi => ?_, fun r _ hr => ?_⟩
  · unfold mA0; rw [if_neg (by omega)]; exact Nat.zero_le _
  · unfold mA0; rw [if_neg (by omega)]; exact Nat.zero_le _
  · unfold mA0 at hi; rw [if_neg (by omega)] at hi; omega
  · unfold mA0; rw [if_neg (by omega)]
theorem mOK_col {W : Nat → Nat} {i : Nat} {A : Nat → Nat} (h : mOK A) (hW : W i ≤ 3) : mOK (fUp A 1 (max (A 1) (W i))) := by
  obtain ⟨a1, a2, a3, a4, a5, a6, a7, a8, a9⟩ := h
  refine ⟨by rw [fUp_ne (by omega)]; exact a1, by rw [fUp_ne (by omega)]; exact a2, by rw [fUp_at]; omega, by rw [fUp_ne (by omega)]; exact a4, by rw [fUp_ne (by omega)]; exact a5, fun k hk => ?_, fun r hr => ?_, fun r i hr hi => ?_, fun r h1 hr => ?_⟩
  · rw [fUp_ne (by omega), fUp_at]
    have := a6 k hk
    omega
  · rw [fUp_ne (by omega)]; exact a7 r hr
  · rw [fUp_ne (by omega)] at hi
    rw [fUp_ne (by omega), fUp_at]
    have := a8 r i hr hi
    omega
  · rw [fUp_ne (by omega)] at h1
    rw [fUp_ne (by omega)]; exact a9 r h1 hr
theorem mCol_y {W : Nat → Nat} {i : Nat} {A : Nat → Nat} (h : W i ≤ 3) : mCol W i A = (0, i + 1, fUp A 1 (max (A 1) (W i))) := if_pos h
theorem mCol_n {W : Nat → Nat} {i : Nat} {A : Nat → Nat} (h : ¬ W i ≤ 3) : mCol W i A = (5, i, A) := if_neg h
/-! the class's numbers -/
theorem lc_3 {a b : Nat} (ha : a < 2147483648) (hb : b < 2147483648) : lg_cmp (Int64.ofNat a) (nI b).toInt64 = if b < a then nI 1 else if a = b then nI 0 else nM1 := by
  have h1 : (Int64.ofNat a).toInt = (a : Int) := Int64.toInt_ofNat_of_lt (by omega)
  have h2 : (nI b).toInt64.toInt = (b : Int) := by rw [Int32.toInt_toInt64, nI_toInt hb]
  unfold lg_cmp
  by_cases g : b < a
  · have z : Int64.ofNat a > (nI b).toInt64 := Int64.lt_iff_toInt_lt.mpr (by rw [h1, h2]; omega)
    rw [if_pos g, if_pos z]
    rfl
  · have z : ¬ Int64.ofNat a > (nI b).toInt64 := fun z => by
      have z := Int64.lt_iff_toInt_lt.mp z
      rw [h1, h2] at z
      omega
    rw [if_neg g, if_neg z]
    by_cases g2 : a = b
    · have z2 : Int64.ofNat a = (nI b).toInt64 := Int64.toInt_inj.mp (by rw [h1, h2, g2])
      rw [if_pos g2, if_pos z2]
      rfl
    · have z2 : ¬ Int64.ofNat a = (nI b).toInt64 := fun z => by
        have z := congrArg Int64.toInt z
        rw [h1, h2] at z
        omega
      rw [if_neg g2, if_neg z2]
      rfl
theorem lc_lt {a b : Nat} (ha : a < 2147483648) (hb : b < 2147483648) : (lg_cmp (Int64.ofNat a) (nI b).toInt64 < nI 0) = (a < b) := by
  rw [lc_3 ha hb]
  by_cases g : b < a
  · rw [if_pos g]
    exact propext ⟨fun z => absurd z (by decide), fun z => by omega⟩
  · rw [if_neg g]
    by_cases g2 : a = b
    · rw [if_pos g2]
      exact propext ⟨fun z => absurd z (by decide), fun z => by omega⟩
    · rw [if_neg g2]
      exact propext ⟨fun _ => by omega, fun _ => by decide⟩
theorem lc_le {a b : Nat} (ha : a < 2147483648) (hb : b < 2147483648) : (lg_cmp (Int64.ofNat a) (nI b).toInt64 ≤ nI 0) = (a ≤ b) := by
  rw [lc_3 ha hb]
  by_cases g : b < a
  · rw [if_pos g]
    exact propext ⟨fun z => absurd z (by decide), fun z => by omega⟩
  · rw [if_neg g]
    by_cases g2 : a = b
    · rw [if_pos g2]
      exact propext ⟨fun _ => by omega, fun _ => by decide⟩
    · rw [if_neg g2]
      exact propext ⟨fun _ => by omega, fun _ => by decide⟩
theorem p_valueD {I : Nat → Nat → Int32} {L : Nat → Nat → Int64} {Z : zZ} {B tx dx sz i : Nat} {K W : Nat → Nat} (h : isCls Z B tx) (hd : dx + tx = 21) (hT : tokC I L B dx K W sz) (hi : i < sz) : fX8_value [.ref (B + (dx + 1)), .int (nI i)] (I, L, Z) = some (some (.long (L (B + (dx + 3)) i)), (I, L, Z)) := by
  obtain ⟨t1, t2, t3, t4⟩ := hT
  show kX8_value_0 [some (Value.ref ((B + (dx + 1)))), some (Value.int (nI (i)))] [] (I, L, Z) = _
  simp (disch := omega) only [kX8_value_22, kX8_value_21, kX8_value_0, dl_1 h hd, dr_1_1 h hd, dl_3 h hd, t1, e_push, e_pushl, e_iload, e_lload, e_aload, e_istore, e_astore, e_lstore, e_iinc, e_iadd, e_isub, e_imul, e_iand, e_ior, e_ixor, e_ishl, e_ishr, e_iushr, e_idiv, e_irem, e_ladd, e_lsub, e_lmul, e_lcmp, e_mmax, e_mmin, e_i2l, e_l2i, e_i2b, e_i2c, e_dup, e_dup2, e_pop, e_icmp_eq, e_icmp_ne, e_icmp_lt, e_icmp_ge, e_icmp_gt, e_icmp_le, e_if_eq, e_if_ne, e_if_lt, e_if_ge, e_if_gt, e_if_le, e_getI, e_getR, e_putI, e_putZ, e_putR, e_iald, e_bald, e_zald, e_lald, e_aald, e_alen, e_iast, e_bast, e_zast, e_last, e_aast, e_iret, e_zret, e_lret, e_vret, e_obj, e_callV, e_callS, e_callT, e_acpy, e_ldcS, e_dn, e_ag, z_pop, List.getElem?_cons_zero, List.getElem?_cons_succ, List.set_cons_zero, List.set_cons_succ, List.length_cons, List.length_nil, z_nol, Option.map_some, Option.toList_some, Option.toList_none, List.cons_append, List.nil_append, n_lit, n_m1, n_m2, n_m1lt, n_m1le, n_rem, n_div, n_out, n_cl, n_eq, n_le, n_lt, n_add, n_mul, n_sub, n_nle, n_yle, n_nlt, n_ylt, n_neN, z_lay, z_sz, z_str, z_stI, z_stL, z_stR, eq_self, ↓reduceIte, true_and, and_true, and_self, false_and, and_false, or_self, false_or, or_false, true_or, or_true, not_true_eq_false, not_false_eq_true, Nat.reduceLeDiff, Nat.reduceLT, Nat.reduceAdd, Nat.reduceEqDiff, Nat.reduceMul, Nat.reduceSub, Value.category, Nat.zero_le, beq_self_eq_true]
theorem p_rdNumY {I : Nat → Nat → Int32} {L : Nat → Nat → Int64} {Z : zZ} {B tx dx sz i lo up : Nat} {K W : Nat → Nat} (h : isCls Z B tx) (hd : dx + tx = 21) (hT : tokC I L B dx K W sz) (hi : i < sz) (hk : K i = 21) (h6 : I (B + dx) 6 = nI 0) (h8 : I (B + dx) 8 = nI i) (b1 : lo ≤ W i) (b2 : W i ≤ up) (b3 : up < 10000) : fX7_readNumber [.ref (B + dx), .int (nI lo), .int (nI up)] (I, L, Z) = some (some (.int (nI (W i))), (z_up I (B + dx) 8 (nI (i + 1)), L, Z)) := by
  have v := p_valueD h hd hT hi
  have hsz := hT.2.1
  rw [((hT.2.2.1 i hi).2.2 hk).1] at v
  show kX7_readNumber_0 [some (Value.ref ((B + dx))), some (Value.int (nI (lo))), some (Value.int (nI (up))), none, none] [] (I, L, Z) = _
  simp (disch := omega) only [kX7_readNumber_49, kX7_readNumber_33, kX7_readNumber_0, dl_0 h hd, dl_1 h hd, dr_0_0 h hd, h6, h8, v, lc_lt, lc_le, l2i_ofNat, e_push, e_pushl, e_iload, e_lload, e_aload, e_istore, e_astore, e_lstore, e_iinc, e_iadd, e_isub, e_imul, e_iand, e_ior, e_ixor, e_ishl, e_ishr, e_iushr, e_idiv, e_irem, e_ladd, e_lsub, e_lmul, e_lcmp, e_mmax, e_mmin, e_i2l, e_l2i, e_i2b, e_i2c, e_dup, e_dup2, e_pop, e_icmp_eq, e_icmp_ne, e_icmp_lt, e_icmp_ge, e_icmp_gt, e_icmp_le, e_if_eq, e_if_ne, e_if_lt, e_if_ge, e_if_gt, e_if_le, e_getI, e_getR, e_putI, e_putZ, e_putR, e_iald, e_bald, e_zald, e_lald, e_aald, e_alen, e_iast, e_bast, e_zast, e_last, e_aast, e_iret, e_zret, e_lret, e_vret, e_obj, e_callV, e_callS, e_callT, e_acpy, e_ldcS, e_dn, e_ag, z_pop, List.getElem?_cons_zero, List.getElem?_cons_succ, List.set_cons_zero, List.set_cons_succ, List.length_cons, List.length_nil, z_nol, Option.map_some, Option.toList_some, Option.toList_none, List.cons_append, List.nil_append, n_lit, n_m1, n_m2, n_m1lt, n_m1le, n_rem, n_div, n_out, n_cl, n_eq, n_le, n_lt, n_add, n_mul, n_sub, n_nle, n_yle, n_nlt, n_ylt, n_neN, z_lay, z_sz, z_str, z_stI, z_stL, z_stR, eq_self, ↓reduceIte, true_and, and_true, and_self, false_and, and_false, or_self, false_or, or_false, true_or, or_true, not_true_eq_false, not_false_eq_true, Nat.reduceLeDiff, Nat.reduceLT, Nat.reduceAdd, Nat.reduceEqDiff, Nat.reduceMul, Nat.reduceSub, Value.category, Nat.zero_le, beq_self_eq_true]
theorem p_rdNumN {I : Nat → Nat → Int32} {L : Nat → Nat → Int64} {Z : zZ} {B tx dx sz i lo up : Nat} {K W : Nat → Nat} (h : isCls Z B tx) (hd : dx + tx = 21) (hT : tokC I L B dx K W sz) (hi : i < sz) (hk : K i = 21) (h6 : I (B + dx) 6 = nI 0) (h8 : I (B + dx) 8 = nI i) (b1 : ¬ (lo ≤ W i ∧ W i ≤ up)) (b3 : up < 10000) (b4 : lo < 10000) : fX7_readNumber [.ref (B + dx), .int (nI lo), .int (nI up)] (I, L, Z) = some (some (.int (nI lo)), (z_up I (B + dx) 6 (nI 5), L, Z)) := by
  have v := p_valueD h hd hT hi
  have hsz := hT.2.1
  obtain ⟨w1, w2⟩ := (hT.2.2.1 i hi).2.2 hk
  rw [w1] at v
  show kX7_readNumber_0 [some (Value.ref ((B + dx))), some (Value.int (nI (lo))), some (Value.int (nI (up))), none, none] [] (I, L, Z) = _
  by_cases g : W i < lo
  · simp (disch := omega) only [kX7_readNumber_49, kX7_readNumber_33, kX7_readNumber_0, dl_0 h hd, dl_1 h hd, dr_0_0 h hd, h6, h8, v, lc_lt, lc_le, l2i_ofNat, e_push, e_pushl, e_iload, e_lload, e_aload, e_istore, e_astore, e_lstore, e_iinc, e_iadd, e_isub, e_imul, e_iand, e_ior, e_ixor, e_ishl, e_ishr, e_iushr, e_idiv, e_irem, e_ladd, e_lsub, e_lmul, e_lcmp, e_mmax, e_mmin, e_i2l, e_l2i, e_i2b, e_i2c, e_dup, e_dup2, e_pop, e_icmp_eq, e_icmp_ne, e_icmp_lt, e_icmp_ge, e_icmp_gt, e_icmp_le, e_if_eq, e_if_ne, e_if_lt, e_if_ge, e_if_gt, e_if_le, e_getI, e_getR, e_putI, e_putZ, e_putR, e_iald, e_bald, e_zald, e_lald, e_aald, e_alen, e_iast, e_bast, e_zast, e_last, e_aast, e_iret, e_zret, e_lret, e_vret, e_obj, e_callV, e_callS, e_callT, e_acpy, e_ldcS, e_dn, e_ag, z_pop, List.getElem?_cons_zero, List.getElem?_cons_succ, List.set_cons_zero, List.set_cons_succ, List.length_cons, List.length_nil, z_nol, Option.map_some, Option.toList_some, Option.toList_none, List.cons_append, List.nil_append, n_lit, n_m1, n_m2, n_m1lt, n_m1le, n_rem, n_div, n_out, n_cl, n_eq, n_le, n_lt, n_add, n_mul, n_sub, n_nle, n_yle, n_nlt, n_ylt, n_neN, z_lay, z_sz, z_str, z_stI, z_stL, z_stR, eq_self, ↓reduceIte, true_and, and_true, and_self, false_and, and_false, or_self, false_or, or_false, true_or, or_true, not_true_eq_false, not_false_eq_true, Nat.reduceLeDiff, Nat.reduceLT, Nat.reduceAdd, Nat.reduceEqDiff, Nat.reduceMul, Nat.reduceSub, Value.category, Nat.zero_le, beq_self_eq_true]
  · simp (disch := omega) only [kX7_readNumber_49, kX7_readNumber_33, kX7_readNumber_0, dl_0 h hd, dl_1 h hd, dr_0_0 h hd, h6, h8, v, lc_lt, lc_le, l2i_ofNat, e_push, e_pushl, e_iload, e_lload, e_aload, e_istore, e_astore, e_lstore, e_iinc, e_iadd, e_isub, e_imul, e_iand, e_ior, e_ixor, e_ishl, e_ishr, e_iushr, e_idiv, e_irem, e_ladd, e_lsub, e_lmul, e_lcmp, e_mmax, e_mmin, e_i2l, e_l2i, e_i2b, e_i2c, e_dup, e_dup2, e_pop, e_icmp_eq, e_icmp_ne, e_icmp_lt, e_icmp_ge, e_icmp_gt, e_icmp_le, e_if_eq, e_if_ne, e_if_lt, e_if_ge, e_if_gt, e_if_le, e_getI, e_getR, e_putI, e_putZ, e_putR, e_iald, e_bald, e_zald, e_lald, e_aald, e_alen, e_iast, e_bast, e_zast, e_last, e_aast, e_iret, e_zret, e_lret, e_vret, e_obj, e_callV, e_callS, e_callT, e_acpy, e_ldcS, e_dn, e_ag, z_pop, List.getElem?_cons_zero, List.getElem?_cons_succ, List.set_cons_zero, List.set_cons_succ, List.length_cons, List.length_nil, z_nol, Option.map_some, Option.toList_some, Option.toList_none, List.cons_append, List.nil_append, n_lit, n_m1, n_m2, n_m1lt, n_m1le, n_rem, n_div, n_out, n_cl, n_eq, n_le, n_lt, n_add, n_mul, n_sub, n_nle, n_yle, n_nlt, n_ylt, n_neN, z_lay, z_sz, z_str, z_stI, z_stL, z_stR, eq_self, ↓reduceIte, true_and, and_true, and_self, false_and, and_false, or_self, false_or, or_false, true_or, or_true, not_true_eq_false, not_false_eq_true, Nat.reduceLeDiff, Nat.reduceLT, Nat.reduceAdd, Nat.reduceEqDiff, Nat.reduceMul, Nat.reduceSub, Value.category, Nat.zero_le, beq_self_eq_true]
theorem p_rdNumF {I : Nat → Nat → Int32} {L : Nat → Nat → Int64} {Z : zZ} {B tx dx sz i lo up f : Nat} {K W : Nat → Nat} (h : isCls Z B tx) (hd : dx + tx = 21) (hT : tokC I L B dx K W sz) (hi : i < sz) (h6 : I (B + dx) 6 = nI f) (hf : f < 8) (hf0 : f ≠ 0) (h8 : I (B + dx) 8 = nI i) : fX7_readNumber [.ref (B + dx), .int (nI lo), .int (nI up)] (I, L, Z) = some (some (.int (nI lo)), (z_up I (B + dx) 6 (nI f), L, Z)) := by
  have v := p_valueD h hd hT hi
  have hsz := hT.2.1
  show kX7_readNumber_0 [some (Value.ref ((B + dx))), some (Value.int (nI (lo))), some (Value.int (nI (up))), none, none] [] (I, L, Z) = _
  simp (disch := omega) only [kX7_readNumber_49, kX7_readNumber_33, kX7_readNumber_0, dl_0 h hd, dl_1 h hd, dr_0_0 h hd, h6, h8, v, hf0, e_push, e_pushl, e_iload, e_lload, e_aload, e_istore, e_astore, e_lstore, e_iinc, e_iadd, e_isub, e_imul, e_iand, e_ior, e_ixor, e_ishl, e_ishr, e_iushr, e_idiv, e_irem, e_ladd, e_lsub, e_lmul, e_lcmp, e_mmax, e_mmin, e_i2l, e_l2i, e_i2b, e_i2c, e_dup, e_dup2, e_pop, e_icmp_eq, e_icmp_ne, e_icmp_lt, e_icmp_ge, e_icmp_gt, e_icmp_le, e_if_eq, e_if_ne, e_if_lt, e_if_ge, e_if_gt, e_if_le, e_getI, e_getR, e_putI, e_putZ, e_putR, e_iald, e_bald, e_zald, e_lald, e_aald, e_alen, e_iast, e_bast, e_zast, e_last, e_aast, e_iret, e_zret, e_lret, e_vret, e_obj, e_callV, e_callS, e_callT, e_acpy, e_ldcS, e_dn, e_ag, z_pop, List.getElem?_cons_zero, List.getElem?_cons_succ, List.set_cons_zero, List.set_cons_succ, List.length_cons, List.length_nil, z_nol, Option.map_some, Option.toList_some, Option.toList_none, List.cons_append, List.nil_append, n_lit, n_m1, n_m2, n_m1lt, n_m1le, n_rem, n_div, n_out, n_cl, n_eq, n_le, n_lt, n_add, n_mul, n_sub, n_nle, n_yle, n_nlt, n_ylt, n_neN, z_lay, z_sz, z_str, z_stI, z_stL, z_stR, eq_self, ↓reduceIte, true_and, and_true, and_self, false_and, and_false, or_self, false_or, or_false, true_or, or_true, not_true_eq_false, not_false_eq_true, Nat.reduceLeDiff, Nat.reduceLT, Nat.reduceAdd, Nat.reduceEqDiff, Nat.reduceMul, Nat.reduceSub, Value.category, Nat.zero_le, beq_self_eq_true]
