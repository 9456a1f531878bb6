/-! rows by their numbers -/
theorem dig_lt {b n v i : Nat} (hb : 0 < b) : dig b n v i < b := Nat.mod_lt _ hb
theorem dig_num {b : Nat} {c : Nat → Nat} (hb : 0 < b) : ∀ {n : Nat}, (∀ i, i < n → c i < b) → ∀ i, i < n → dig b n (num b c n) i = c i := by
  intro n
  induction n with
  | zero => intro _ i hi; omega
  | succ n ih =>
    intro hc i hi
    have e : num b c (n + 1) = num b c n * b + c n := rfl
    have hcn := hc n (by omega)
    unfold dig
    rw [e]
    by_cases q : i = n
    · subst q
      rw [show i + 1 - 1 - i = 0 by omega, Nat.pow_zero, Nat.div_one, Nat.add_comm, Nat.add_mul_mod_self_right, Nat.mod_eq_of_lt hcn]
    · have e2 : n + 1 - 1 - i = (n - 1 - i) + 1 := by omega
      rw [e2, Nat.pow_succ, Nat.mul_comm (b ^ (n - 1 - i)) b, ← Nat.div_div_eq_div_mul]
      have e3 : (num b c n * b + c n) / b = num b c n := by
        rw [Nat.mul_comm, Nat.mul_add_div hb, Nat.div_eq_of_lt hcn, Nat.add_zero]
      rw [e3]
      exact ih (fun i hi => hc i (by omega)) i (by omega)
theorem pw_le {b n : Nat} (hb : b ≤ 4) (hn : n ≤ 8) : b ^ n ≤ 65536 := by
  have h1 : b ^ n ≤ 4 ^ n := Nat.pow_le_pow_left hb n
  have h2 : 4 ^ n ≤ 4 ^ 8 := Nat.pow_le_pow_right (by omega) hn
  have : (4 : Nat) ^ 8 = 65536 := by decide
  omega
theorem r_rowsOf {I : Nat → Nat → Int32} {L : Nat → Nat → Int64} {Z : zZ} {M lv nc n : Nat} {ch : Nat → Nat → Nat} (h : isMod Z M) (hT : refTab I M lv nc ch) (hn : n ≤ 8) : fX12_rowsOf [.ref M, .int (nI n)] (I, L, Z) = some (some (.int (nI (nc ^ n))), (I, L, Z)) := by
  have hB := r_base (L := L) h hT
  show kX12_rowsOf_0 [some (Value.ref (M)), some (Value.int (nI (n))), none, none] [] (I, L, Z) = _
  simp (disch := omega) only [kX12_rowsOf_0, kX12_rowsOf_4, e_push, e_pushl, e_iload, e_lload, e_aload, e_istore, e_astore, e_lstore, e_iinc, e_iadd, e_isub, e_imul, e_iand, e_ior, e_ixor, e_ishl, e_ishr, e_iushr, e_idiv, e_irem, e_ladd, e_lsub, e_lmul, e_lcmp, e_mmax, e_mmin, e_i2l, e_l2i, e_i2b, e_i2c, e_dup, e_dup2, e_pop, e_icmp_eq, e_icmp_ne, e_icmp_lt, e_icmp_ge, e_icmp_gt, e_icmp_le, e_if_eq, e_if_ne, e_if_lt, e_if_ge, e_if_gt, e_if_le, e_getI, e_getR, e_putI, e_putZ, e_putR, e_iald, e_bald, e_zald, e_lald, e_aald, e_alen, e_iast, e_bast, e_zast, e_last, e_aast, e_iret, e_zret, e_lret, e_vret, e_obj, e_callV, e_callS, e_callT, e_acpy, e_ldcS, e_dn, e_ag, z_pop, List.getElem?_cons_zero, List.getElem?_cons_succ, List.set_cons_zero, List.set_cons_succ, List.length_cons, List.length_nil, z_nol, Option.map_some, Option.toList_some, Option.toList_none, List.cons_append, List.nil_append, n_lit, n_m1, n_m2, n_m1lt, n_m1le, n_rem, n_div, n_out, n_cl, n_eq, n_le, n_lt, n_add, n_mul, n_sub, n_nle, n_yle, n_nlt, n_ylt, n_neN, z_lay, z_sz, z_str, z_stI, z_stL, z_stR, eq_self, ↓reduceIte, true_and, and_true, and_self, false_and, and_false, or_self, false_or, or_false, true_or, or_true, not_true_eq_false, not_false_eq_true, Nat.reduceLeDiff, Nat.reduceLT, Nat.reduceAdd, Nat.reduceEqDiff, Nat.reduceMul, Nat.reduceSub, Value.category, Nat.zero_le, beq_self_eq_true]
  refine lp_for (fun k => [some (Value.ref (M)), some (Value.int (nI (n))), some (Value.int (nI (nc ^ k))), some (Value.int (nI (k)))]) (fun _ => (I, L, Z)) n ?_ ?_
  · simp (disch := omega) only [bX12_rowsOf_4, kX12_rowsOf_22, e_push, e_pushl, e_iload, e_lload, e_aload, e_istore, e_astore, e_lstore, e_iinc, e_iadd, e_isub, e_imul, e_iand, e_ior, e_ixor, e_ishl, e_ishr, e_iushr, e_idiv, e_irem, e_ladd, e_lsub, e_lmul, e_lcmp, e_mmax, e_mmin, e_i2l, e_l2i, e_i2b, e_i2c, e_dup, e_dup2, e_pop, e_icmp_eq, e_icmp_ne, e_icmp_lt, e_icmp_ge, e_icmp_gt, e_icmp_le, e_if_eq, e_if_ne, e_if_lt, e_if_ge, e_if_gt, e_if_le, e_getI, e_getR, e_putI, e_putZ, e_putR, e_iald, e_bald, e_zald, e_lald, e_aald, e_alen, e_iast, e_bast, e_zast, e_last, e_aast, e_iret, e_zret, e_lret, e_vret, e_obj, e_callV, e_callS, e_callT, e_acpy, e_ldcS, e_dn, e_ag, z_pop, List.getElem?_cons_zero, List.getElem?_cons_succ, List.set_cons_zero, List.set_cons_succ, List.length_cons, List.length_nil, z_nol, Option.map_some, Option.toList_some, Option.toList_none, List.cons_append, List.nil_append, n_lit, n_m1, n_m2, n_m1lt, n_m1le, n_rem, n_div, n_out, n_cl, n_eq, n_le, n_lt, n_add, n_mul, n_sub, n_nle, n_yle, n_nlt, n_ylt, n_neN, z_lay, z_sz, z_str, z_stI, z_stL, z_stR, eq_self, ↓reduceIte, true_and, and_true, and_self, false_and, and_false, or_self, false_or, or_false, true_or, or_true, not_true_eq_false, not_false_eq_true, Nat.reduceLeDiff, Nat.reduceLT, Nat.reduceAdd, Nat.reduceEqDiff, Nat.reduceMul, Nat.reduceSub, Value.category, Nat.zero_le, beq_self_eq_true]
  · intro k hk
    simp (disch := omega) only [bX12_rowsOf_4, h.1, hB, Nat.pow_succ, e_push, e_pushl, e_iload, e_lload, e_aload, e_istore, e_astore, e_lstore, e_iinc, e_iadd, e_isub, e_imul, e_iand, e_ior, e_ixor, e_ishl, e_ishr, e_iushr, e_idiv, e_irem, e_ladd, e_lsub, e_lmul, e_lcmp, e_mmax, e_mmin, e_i2l, e_l2i, e_i2b, e_i2c, e_dup, e_dup2, e_pop, e_icmp_eq, e_icmp_ne, e_icmp_lt, e_icmp_ge, e_icmp_gt, e_icmp_le, e_if_eq, e_if_ne, e_if_lt, e_if_ge, e_if_gt, e_if_le, e_getI, e_getR, e_putI, e_putZ, e_putR, e_iald, e_bald, e_zald, e_lald, e_aald, e_alen, e_iast, e_bast, e_zast, e_last, e_aast, e_iret, e_zret, e_lret, e_vret, e_obj, e_callV, e_callS, e_callT, e_acpy, e_ldcS, e_dn, e_ag, z_pop, List.getElem?_cons_zero, List.getElem?_cons_succ, List.set_cons_zero, List.set_cons_succ, List.length_cons, List.length_nil, z_nol, Option.map_some, Option.toList_some, Option.toList_none, List.cons_append, List.nil_append, n_lit, n_m1, n_m2, n_m1lt, n_m1le, n_rem, n_div, n_out, n_cl, n_eq, n_le, n_lt, n_add, n_mul, n_sub, n_nle, n_yle, n_nlt, n_ylt, n_neN, z_lay, z_sz, z_str, z_stI, z_stL, z_stR, eq_self, ↓reduceIte, true_and, and_true, and_self, false_and, and_false, or_self, false_or, or_false, true_or, or_true, not_true_eq_false, not_false_eq_true, Nat.reduceLeDiff, Nat.reduceLT, Nat.reduceAdd, Nat.reduceEqDiff, Nat.reduceMul, Nat.reduceSub, Value.category, Nat.zero_le, beq_self_eq_true]
/-- one less, below 0 at last -/
def pmI (m : Nat) : Int32 := if m = 0 then nM1 else nI (m - 1)
theorem pm_0 : pmI 0 = nM1 := rfl
theorem pm_s (k : Nat) : pmI (k + 1) = nI k := by unfold pmI; rw [if_neg (by omega), Nat.add_sub_cancel]
theorem pm_dec (k : Nat) : nI k + nM1 = pmI k := by
  cases k with
  | zero => decide
  | succ k => rw [pm_s]; exact pk_m1 k
theorem m1_neg : (nM1 < nI 0) = True := eq_true (by decide)
theorem r_laysNumber {I : Nat → Nat → Int32} {L : Nat → Nat → Int64} {Z : zZ} {B lv nc n v : Nat} {ch : Nat → Nat → Nat} (h : isMod Z (B + 200)) (hT : refTab I (B + 200) lv nc ch) (hn : n ≤ 8) (h1 : 1 ≤ n) (hv : v < 2147483648) :
    ∃ J, fX12_laysNumber [.ref (B + 200), .int (nI v), .int (nI n)] (I, L, Z) = some (none, (J, L, Z)) ∧ laidI J (B + 200) n ch (dig nc n v) ∧ rLay I J B := by
  have h2 := hT.2.2.2.1
  have h4 := hT.2.2.2.2.1
  have e0 : fX12_laysNumber [.ref (B + 200), .int (nI v), .int (nI n)] (I, L, Z) = kX12_laysNumber_0 [some (Value.ref (B + 200)), some (Value.int (nI (v))), some (Value.int (nI (n))), none, none] [] (I, L, Z) := rfl
  rw [e0]
  simp (disch := omega) only [kX12_laysNumber_0, kX12_laysNumber_12, h.1, e_push, e_pushl, e_iload, e_lload, e_aload, e_istore, e_astore, e_lstore, e_iinc, e_iadd, e_isub, e_imul, e_iand, e_ior, e_ixor, e_ishl, e_ishr, e_iushr, e_idiv, e_irem, e_ladd, e_lsub, e_lmul, e_lcmp, e_mmax, e_mmin, e_i2l, e_l2i, e_i2b, e_i2c, e_dup, e_dup2, e_pop, e_icmp_eq, e_icmp_ne, e_icmp_lt, e_icmp_ge, e_icmp_gt, e_icmp_le, e_if_eq, e_if_ne, e_if_lt, e_if_ge, e_if_gt, e_if_le, e_getI, e_getR, e_putI, e_putZ, e_putR, e_iald, e_bald, e_zald, e_lald, e_aald, e_alen, e_iast, e_bast, e_zast, e_last, e_aast, e_iret, e_zret, e_lret, e_vret, e_obj, e_callV, e_callS, e_callT, e_acpy, e_ldcS, e_dn, e_ag, z_pop, List.getElem?_cons_zero, List.getElem?_cons_succ, List.set_cons_zero, List.set_cons_succ, List.length_cons, List.length_nil, z_nol, Option.map_some, Option.toList_some, Option.toList_none, List.cons_append, List.nil_append, n_lit, n_m1, n_m2, n_m1lt, n_m1le, n_rem, n_div, n_out, n_cl, n_eq, n_le, n_lt, n_add, n_mul, n_sub, n_nle, n_yle, n_nlt, n_ylt, n_neN, z_lay, z_sz, z_str, z_stI, z_stL, z_stR, eq_self, ↓reduceIte, true_and, and_true, and_self, false_and, and_false, or_self, false_or, or_false, true_or, or_true, not_true_eq_false, not_false_eq_true, Nat.reduceLeDiff, Nat.reduceLT, Nat.reduceAdd, Nat.reduceEqDiff, Nat.reduceMul, Nat.reduceSub, Value.category, Nat.zero_le, beq_self_eq_true]
  have e9 : some (Value.int (nI (n - 1))) = some (Value.int (pmI n)) := by rw [show pmI n = nI (n - 1) from if_neg (by omega)]
  rw [e9]
  refine lp_ex (fun k ls σ => ∃ J : Nat → Nat → Int32, ls = [some (Value.ref (B + 200)), some (Value.int (nI (v))), some (Value.int (nI (n))), some (Value.int (nI (v / nc ^ k))), some (Value.int (pmI (n - k)))] ∧ σ = (J, L, Z) ∧ J (B + 200) 50 = nI n ∧ (∀ i, n - k ≤ i → i < n → J (B + 200 + 31) i = nI (dig nc n v i)) ∧ rLay I J B) n ?_ ?_ ?_
  · refine ⟨_, by rw [Nat.pow_zero, Nat.div_one, Nat.sub_zero], rfl, zup_at, fun i h1 h2 => by omega, fun q z1 z2 => zup_off z1, fun j hj => zup_ne hj⟩
  · rintro ls σ ⟨J, rfl, rfl, q0, q1, q2⟩
    obtain ⟨J2, a1, a2, a3⟩ := r_laysDown (I := J) (L := L) (c := dig nc n v) h (q2.tab hT) hn (fun i hi => Nat.lt_of_lt_of_le (dig_lt (by omega)) h4) q0 (fun i hi => q1 i (by omega) hi)
    refine ⟨J2, ?_, a2, ⟨fun q z1 z2 => by rw [a3 q z2]; exact q2.1 q z1 z2, fun j hj => by rw [a3 _ (by omega)]; exact q2.2 j hj⟩⟩
    rw [Nat.sub_self, pm_0]
    simp (disch := omega) only [bX12_laysNumber_12, kX12_laysNumber_43, m1_neg, h.1, a1, e_push, e_pushl, e_iload, e_lload, e_aload, e_istore, e_astore, e_lstore, e_iinc, e_iadd, e_isub, e_imul, e_iand, e_ior, e_ixor, e_ishl, e_ishr, e_iushr, e_idiv, e_irem, e_ladd, e_lsub, e_lmul, e_lcmp, e_mmax, e_mmin, e_i2l, e_l2i, e_i2b, e_i2c, e_dup, e_dup2, e_pop, e_icmp_eq, e_icmp_ne, e_icmp_lt, e_icmp_ge, e_icmp_gt, e_icmp_le, e_if_eq, e_if_ne, e_if_lt, e_if_ge, e_if_gt, e_if_le, e_getI, e_getR, e_putI, e_putZ, e_putR, e_iald, e_bald, e_zald, e_lald, e_aald, e_alen, e_iast, e_bast, e_zast, e_last, e_aast, e_iret, e_zret, e_lret, e_vret, e_obj, e_callV, e_callS, e_callT, e_acpy, e_ldcS, e_dn, e_ag, z_pop, List.getElem?_cons_zero, List.getElem?_cons_succ, List.set_cons_zero, List.set_cons_succ, List.length_cons, List.length_nil, z_nol, Option.map_some, Option.toList_some, Option.toList_none, List.cons_append, List.nil_append, n_lit, n_m1, n_m2, n_m1lt, n_m1le, n_rem, n_div, n_out, n_cl, n_eq, n_le, n_lt, n_add, n_mul, n_sub, n_nle, n_yle, n_nlt, n_ylt, n_neN, z_lay, z_sz, z_str, z_stI, z_stL, z_stR, eq_self, ↓reduceIte, true_and, and_true, and_self, false_and, and_false, or_self, false_or, or_false, true_or, or_true, not_true_eq_false, not_false_eq_true, Nat.reduceLeDiff, Nat.reduceLT, Nat.reduceAdd, Nat.reduceEqDiff, Nat.reduceMul, Nat.reduceSub, Value.category, Nat.zero_le, beq_self_eq_true]
  · rintro k hk ls σ ⟨J, rfl, rfl, q0, q1, q2⟩
    have hB := r_base (I := J) (L := L) h (q2.tab hT)
    have d0 : v / nc ^ k ≤ v := Nat.div_le_self _ _
    have hB2 := r_base (I := z_up J (B + 200 + 31) (n - k - 1) (nI (v / nc ^ k % nc))) (L := L) h ((q2.tab hT).kept (by rw [zup_off (by omega)]) (zup_off (by omega)) (zup_off (by omega)))
    have e1 : pmI (n - k) = nI (n - k - 1) := if_neg (by omega)
    have e2 : dig nc n v (n - k - 1) = v / nc ^ k % nc := by unfold dig; rw [show n - 1 - (n - k - 1) = k by omega]
    have n0 : ¬ nc = 0 := by omega
    refine ⟨[some (Value.ref (B + 200)), some (Value.int (nI (v))), some (Value.int (nI (n))), some (Value.int (nI (v / nc ^ (k + 1)))), some (Value.int (pmI (n - (k + 1))))], (z_up J (B + 200 + 31) (n - k - 1) (nI (v / nc ^ k % nc)), L, Z), ?_, _, rfl, rfl, ?_, fun i z1 z2 => ?_, ⟨fun q z1 z2 => by rw [zup_off z2]; exact q2.1 q z1 z2, fun j hj => by rw [zup_off (by omega)]; exact q2.2 j hj⟩⟩
    · rw [e1, show n - (k + 1) = n - k - 1 by omega, Nat.pow_succ, ← Nat.div_div_eq_div_mul]
      simp (disch := omega) only [bX12_laysNumber_12, h.1, mr_laid h, ml_laid h, hB, hB2, n0, pm_dec, e_push, e_pushl, e_iload, e_lload, e_aload, e_istore, e_astore, e_lstore, e_iinc, e_iadd, e_isub, e_imul, e_iand, e_ior, e_ixor, e_ishl, e_ishr, e_iushr, e_idiv, e_irem, e_ladd, e_lsub, e_lmul, e_lcmp, e_mmax, e_mmin, e_i2l, e_l2i, e_i2b, e_i2c, e_dup, e_dup2, e_pop, e_icmp_eq, e_icmp_ne, e_icmp_lt, e_icmp_ge, e_icmp_gt, e_icmp_le, e_if_eq, e_if_ne, e_if_lt, e_if_ge, e_if_gt, e_if_le, e_getI, e_getR, e_putI, e_putZ, e_putR, e_iald, e_bald, e_zald, e_lald, e_aald, e_alen, e_iast, e_bast, e_zast, e_last, e_aast, e_iret, e_zret, e_lret, e_vret, e_obj, e_callV, e_callS, e_callT, e_acpy, e_ldcS, e_dn, e_ag, z_pop, List.getElem?_cons_zero, List.getElem?_cons_succ, List.set_cons_zero, List.set_cons_succ, List.length_cons, List.length_nil, z_nol, Option.map_some, Option.toList_some, Option.toList_none, List.cons_append, List.nil_append, n_lit, n_m1, n_m2, n_m1lt, n_m1le, n_rem, n_div, n_out, n_cl, n_eq, n_le, n_lt, n_add, n_mul, n_sub, n_nle, n_yle, n_nlt, n_ylt, n_neN, z_lay, z_sz, z_str, z_stI, z_stL, z_stR, eq_self, ↓reduceIte, true_and, and_true, and_self, false_and, and_false, or_self, false_or, or_false, true_or, or_true, not_true_eq_false, not_false_eq_true, Nat.reduceLeDiff, Nat.reduceLT, Nat.reduceAdd, Nat.reduceEqDiff, Nat.reduceMul, Nat.reduceSub, Value.category, Nat.zero_le, beq_self_eq_true]
    · rw [zup_off (by omega)]; exact q0
    · by_cases e : i = n - k - 1
      · subst e; rw [zup_at, e2]
      · rw [zup_ne e]; exact q1 i (by omega) z2
theorem n_nem2 {w : Nat} (h : w < 2147483648) : (nI w = nM2) = False := eq_false (fun z => by
  have e := congrArg Int32.toInt z
  rw [nI_toInt h] at e
  have : nM2.toInt = -2 := by decide
  omega)
theorem madeV_le {ch : Nat → Nat → Nat} {b n x : Nat} : ∀ v, madeV ch b n x v ≤ v
  | 0 => Nat.le_refl 0
  | v + 1 => by
    have := madeV_le (ch := ch) (b := b) (n := n) (x := x) v
    rw [madeV]
    split <;> omega
theorem madeV_mono {ch : Nat → Nat → Nat} {b n x v w : Nat} (h : v ≤ w) : madeV ch b n x v ≤ madeV ch b n x w := by
  induction w with
  | zero => rw [show v = 0 by omega]; exact Nat.le_refl _
  | succ w ih =>
    rcases Nat.lt_or_ge v (w + 1) with q | q
    · have := ih (by omega)
      rw [madeV]
      omega
    · rw [show v = w + 1 by omega]; exact Nat.le_refl _
theorem leastV_lt {ch : Nat → Nat → Nat} {b n x : Nat} : ∀ {v w : Nat}, leastV ch b n x v = some w → w < v
  | 0, w, h => by cases h
  | v + 1, w, h => by
    rw [leastV] at h
    split at h
    · rename_i u hu
      cases h
      have := leastV_lt hu
      omega
    · split at h
      · cases h; omega
      · cases h
theorem lastV_lt {ch : Nat → Nat → Nat} {nc n v : Nat} (hch : ∀ a b, a < nc → b < nc → ch a b < nc) (h0 : 0 < nc) (h1 : 1 ≤ n) : lastV ch nc n v < nc := tri_lt (s := n) hch (fun i _ => dig_lt h0) (n - 1) 0 (by omega)
/-- the reference goes through all rows, from the last on -/
theorem r_makes_lp {I : Nat → Nat → Int32} {L : Nat → Nat → Int64} {Z : zZ} {B lv nc n x w : Nat} {ch : Nat → Nat → Nat} (h : isMod Z (B + 200)) (hT : refTab I (B + 200) lv nc ch) (hch : ∀ a b, a < nc → b < nc → ch a b < nc) (hn : n ≤ 8) (h1 : 1 ≤ n) (hx : x < nc) (hw : w < 2) :
    ∃ J, q_lp bX12_makes_42 [some (Value.ref (B + 200)), some (Value.int (nI (x))), some (Value.int (nI (n))), some (Value.int (nI (w))), some (Value.int (nI (0))), some (Value.int (nM2)), some (Value.int (pmI (nc ^ n)))] [] (I, L, Z) = some (some (.int (if w = 0 then nI (madeV ch nc n x (nc ^ n)) else oI (leastV ch nc n x (nc ^ n)))), (J, L, Z)) ∧ rLay I J B := by
  have h2 := hT.2.2.2.1
  have h4 := hT.2.2.2.2.1
  have hp := pw_le h4 hn
  refine lp_ex (fun k ls σ => ∃ (J : Nat → Nat → Int32) (f : Option Nat), k ≤ nc ^ n ∧ ls = [some (Value.ref (B + 200)), some (Value.int (nI (x))), some (Value.int (nI (n))), some (Value.int (nI (w))), some (Value.int (nI (madeV ch nc n x (nc ^ n) - madeV ch nc n x (nc ^ n - k)))), some (Value.int (oI f)), some (Value.int (pmI (nc ^ n - k)))] ∧ σ = (J, L, Z) ∧ (match leastV ch nc n x (nc ^ n - k) with | some u => some u | none => f) = leastV ch nc n x (nc ^ n) ∧ rLay I J B) (nc ^ n) ?_ ?_ ?_
  · refine ⟨I, none, Nat.zero_le _, by rw [Nat.sub_zero, Nat.sub_self]; rfl, rfl, ?_, rLay.refl _ _⟩
    rw [Nat.sub_zero]
    cases leastV ch nc n x (nc ^ n) <;> rfl
  · rintro ls σ ⟨J, f, -, rfl, rfl, q1, q2⟩
    rw [Nat.sub_self] at q1 ⊢
    have q1 : f = leastV ch nc n x (nc ^ n) := q1
    refine ⟨J, ?_, q2⟩
    rw [pm_0, show madeV ch nc n x 0 = 0 from rfl, Nat.sub_zero, q1]
    rcases (by omega : w = 0 ∨ w = 1) with rfl | rfl
    · simp (disch := omega) only [bX12_makes_42, kX12_makes_78, kX12_makes_89, m1_neg, e_push, e_pushl, e_iload, e_lload, e_aload, e_istore, e_astore, e_lstore, e_iinc, e_iadd, e_isub, e_imul, e_iand, e_ior, e_ixor, e_ishl, e_ishr, e_iushr, e_idiv, e_irem, e_ladd, e_lsub, e_lmul, e_lcmp, e_mmax, e_mmin, e_i2l, e_l2i, e_i2b, e_i2c, e_dup, e_dup2, e_pop, e_icmp_eq, e_icmp_ne, e_icmp_lt, e_icmp_ge, e_icmp_gt, e_icmp_le, e_if_eq, e_if_ne, e_if_lt, e_if_ge, e_if_gt, e_if_le, e_getI, e_getR, e_putI, e_putZ, e_putR, e_iald, e_bald, e_zald, e_lald, e_aald, e_alen, e_iast, e_bast, e_zast, e_last, e_aast, e_iret, e_zret, e_lret, e_vret, e_obj, e_callV, e_callS, e_callT, e_acpy, e_ldcS, e_dn, e_ag, z_pop, List.getElem?_cons_zero, List.getElem?_cons_succ, List.set_cons_zero, List.set_cons_succ, List.length_cons, List.length_nil, z_nol, Option.map_some, Option.toList_some, Option.toList_none, List.cons_append, List.nil_append, n_lit, n_m1, n_m2, n_m1lt, n_m1le, n_rem, n_div, n_out, n_cl, n_eq, n_le, n_lt, n_add, n_mul, n_sub, n_nle, n_yle, n_nlt, n_ylt, n_neN, z_lay, z_sz, z_str, z_stI, z_stL, z_stR, eq_self, ↓reduceIte, true_and, and_true, and_self, false_and, and_false, or_self, false_or, or_false, true_or, or_true, not_true_eq_false, not_false_eq_true, Nat.reduceLeDiff, Nat.reduceLT, Nat.reduceAdd, Nat.reduceEqDiff, Nat.reduceMul, Nat.reduceSub, Value.category, Nat.zero_le, beq_self_eq_true]
    · simp (disch := omega) only [bX12_makes_42, kX12_makes_78, kX12_makes_89, m1_neg, e_push, e_pushl, e_iload, e_lload, e_aload, e_istore, e_astore, e_lstore, e_iinc, e_iadd, e_isub, e_imul, e_iand, e_ior, e_ixor, e_ishl, e_ishr, e_iushr, e_idiv, e_irem, e_ladd, e_lsub, e_lmul, e_lcmp, e_mmax, e_mmin, e_i2l, e_l2i, e_i2b, e_i2c, e_dup, e_dup2, e_pop, e_icmp_eq, e_icmp_ne, e_icmp_lt, e_icmp_ge, e_icmp_gt, e_icmp_le, e_if_eq, e_if_ne, e_if_lt, e_if_ge, e_if_gt, e_if_le, e_getI, e_getR, e_putI, e_putZ, e_putR, e_iald, e_bald, e_zald, e_lald, e_aald, e_alen, e_iast, e_bast, e_zast, e_last, e_aast, e_iret, e_zret, e_lret, e_vret, e_obj, e_callV, e_callS, e_callT, e_acpy, e_ldcS, e_dn, e_ag, z_pop, List.getElem?_cons_zero, List.getElem?_cons_succ, List.set_cons_zero, List.set_cons_succ, List.length_cons, List.length_nil, z_nol, Option.map_some, Option.toList_some, Option.toList_none, List.cons_append, List.nil_append, n_lit, n_m1, n_m2, n_m1lt, n_m1le, n_rem, n_div, n_out, n_cl, n_eq, n_le, n_lt, n_add, n_mul, n_sub, n_nle, n_yle, n_nlt, n_ylt, n_neN, z_lay, z_sz, z_str, z_stI, z_stL, z_stR, eq_self, ↓reduceIte, true_and, and_true, and_self, false_and, and_false, or_self, false_or, or_false, true_or, or_true, not_true_eq_false, not_false_eq_true, Nat.reduceLeDiff, Nat.reduceLT, Nat.reduceAdd, Nat.reduceEqDiff, Nat.reduceMul, Nat.reduceSub, Value.category, Nat.zero_le, beq_self_eq_true]
  · rintro k hk ls σ ⟨J, f, -, rfl, rfl, q1, q2⟩
    obtain ⟨u, hu⟩ : ∃ u, nc ^ n - k = u + 1 := ⟨nc ^ n - k - 1, by omega⟩
    have hu2 : nc ^ n - (k + 1) = u := by omega
    rw [hu] at q1 ⊢
    rw [hu2, pm_s]
    obtain ⟨J2, a1, a2, a3⟩ := r_laysNumber (I := J) (L := L) (v := u) h (q2.tab hT) hn h1 (by omega)
    have a4 := r_lastLaid (I := J2) (L := L) h a2 (by omega) hn
    have a5 : tri ch (dig nc n u) (n - 1) 0 = lastV ch nc n u := rfl
    rw [a5] at a4
    have l1 := lastV_lt (n := n) (v := u) hch (by omega) h1
    have m1 : madeV ch nc n x (u + 1) ≤ madeV ch nc n x (nc ^ n) := madeV_mono (by omega)
    have m2 : madeV ch nc n x (nc ^ n) ≤ nc ^ n := madeV_le _
    by_cases q : lastV ch nc n u = x
    · have e1 : madeV ch nc n x (u + 1) = madeV ch nc n x u + 1 := by rw [madeV, if_pos q]
      have e2 : madeV ch nc n x (nc ^ n) - madeV ch nc n x (u + 1) + 1 = madeV ch nc n x (nc ^ n) - madeV ch nc n x u := by omega
      refine ⟨[some (Value.ref (B + 200)), some (Value.int (nI (x))), some (Value.int (nI (n))), some (Value.int (nI (w))), some (Value.int (nI (madeV ch nc n x (nc ^ n) - madeV ch nc n x u))), some (Value.int (oI (some u))), some (Value.int (pmI u))], (J2, L, Z), ?_, J2, some u, by omega, rfl, rfl, ?_, q2.trans a3⟩
      · rw [q] at a4
        have e3 : oI (some u) = nI u := rfl
        simp (disch := omega) only [bX12_makes_42, kX12_makes_72, h.1, a1, a4, e2, e3, pm_dec, e_push, e_pushl, e_iload, e_lload, e_aload, e_istore, e_astore, e_lstore, e_iinc, e_iadd, e_isub, e_imul, e_iand, e_ior, e_ixor, e_ishl, e_ishr, e_iushr, e_idiv, e_irem, e_ladd, e_lsub, e_lmul, e_lcmp, e_mmax, e_mmin, e_i2l, e_l2i, e_i2b, e_i2c, e_dup, e_dup2, e_pop, e_icmp_eq, e_icmp_ne, e_icmp_lt, e_icmp_ge, e_icmp_gt, e_icmp_le, e_if_eq, e_if_ne, e_if_lt, e_if_ge, e_if_gt, e_if_le, e_getI, e_getR, e_putI, e_putZ, e_putR, e_iald, e_bald, e_zald, e_lald, e_aald, e_alen, e_iast, e_bast, e_zast, e_last, e_aast, e_iret, e_zret, e_lret, e_vret, e_obj, e_callV, e_callS, e_callT, e_acpy, e_ldcS, e_dn, e_ag, z_pop, List.getElem?_cons_zero, List.getElem?_cons_succ, List.set_cons_zero, List.set_cons_succ, List.length_cons, List.length_nil, z_nol, Option.map_some, Option.toList_some, Option.toList_none, List.cons_append, List.nil_append, n_lit, n_m1, n_m2, n_m1lt, n_m1le, n_rem, n_div, n_out, n_cl, n_eq, n_le, n_lt, n_add, n_mul, n_sub, n_nle, n_yle, n_nlt, n_ylt, n_neN, z_lay, z_sz, z_str, z_stI, z_stL, z_stR, eq_self, ↓reduceIte, true_and, and_true, and_self, false_and, and_false, or_self, false_or, or_false, true_or, or_true, not_true_eq_false, not_false_eq_true, Nat.reduceLeDiff, Nat.reduceLT, Nat.reduceAdd, Nat.reduceEqDiff, Nat.reduceMul, Nat.reduceSub, Value.category, Nat.zero_le, beq_self_eq_true]
      · rw [← q1, leastV]
        cases leastV ch nc n x u with
        | some z => rfl
        | none => rw [if_pos q]
    · have e1 : madeV ch nc n x (u + 1) = madeV ch nc n x u := by rw [madeV, if_neg q]; rfl
      refine ⟨[some (Value.ref (B + 200)), some (Value.int (nI (x))), some (Value.int (nI (n))), some (Value.int (nI (w))), some (Value.int (nI (madeV ch nc n x (nc ^ n) - madeV ch nc n x u))), some (Value.int (oI f)), some (Value.int (pmI u))], (J2, L, Z), ?_, J2, f, by omega, rfl, rfl, ?_, q2.trans a3⟩
      · rw [e1]
        simp (disch := omega) only [bX12_makes_42, kX12_makes_72, h.1, a1, a4, q, pm_dec, e_push, e_pushl, e_iload, e_lload, e_aload, e_istore, e_astore, e_lstore, e_iinc, e_iadd, e_isub, e_imul, e_iand, e_ior, e_ixor, e_ishl, e_ishr, e_iushr, e_idiv, e_irem, e_ladd, e_lsub, e_lmul, e_lcmp, e_mmax, e_mmin, e_i2l, e_l2i, e_i2b, e_i2c, e_dup, e_dup2, e_pop, e_icmp_eq, e_icmp_ne, e_icmp_lt, e_icmp_ge, e_icmp_gt, e_icmp_le, e_if_eq, e_if_ne, e_if_lt, e_if_ge, e_if_gt, e_if_le, e_getI, e_getR, e_putI, e_putZ, e_putR, e_iald, e_bald, e_zald, e_lald, e_aald, e_alen, e_iast, e_bast, e_zast, e_last, e_aast, e_iret, e_zret, e_lret, e_vret, e_obj, e_callV, e_callS, e_callT, e_acpy, e_ldcS, e_dn, e_ag, z_pop, List.getElem?_cons_zero, List.getElem?_cons_succ, List.set_cons_zero, List.set_cons_succ, List.length_cons, List.length_nil, z_nol, Option.map_some, Option.toList_some, Option.toList_none, List.cons_append, List.nil_append, n_lit, n_m1, n_m2, n_m1lt, n_m1le, n_rem, n_div, n_out, n_cl, n_eq, n_le, n_lt, n_add, n_mul, n_sub, n_nle, n_yle, n_nlt, n_ylt, n_neN, z_lay, z_sz, z_str, z_stI, z_stL, z_stR, eq_self, ↓reduceIte, true_and, and_true, and_self, false_and, and_false, or_self, false_or, or_false, true_or, or_true, not_true_eq_false, not_false_eq_true, Nat.reduceLeDiff, Nat.reduceLT, Nat.reduceAdd, Nat.reduceEqDiff, Nat.reduceMul, Nat.reduceSub, Value.category, Nat.zero_le, beq_self_eq_true]
      · rw [← q1, leastV]
        cases leastV ch nc n x u with
        | some z => rfl
        | none => rw [if_neg q]
