--deps: 54.lazy 54.mem 55.mem2 56.rmem 57.spec 58.inv 59.keep 60.fin 61.ops2 62.ops3 63.tape 64.told 65.ev 66.law 67.expr 68.good 69.held 70.term 71.law2
/-! the variables of a law, on both sides -/
def vsOf (c i d l m t w a b : Int32) : Nat → Int32
  | 0 => c
  | 1 => i
  | 2 => d
  | 3 => l
  | 4 => m
  | 5 => t
  | 6 => w
  | 7 => a
  | 8 => b
  | _ => 0
theorem lt9 {j : Nat} (h : j < 9) : j = 0 ∨ j = 1 ∨ j = 2 ∨ j = 3 ∨ j = 4 ∨ j = 5 ∨ j = 6 ∨ j = 7 ∨ j = 8 := by omega
theorem p_cnt_congr {p q : Nat → Prop} [DecidablePred p] [DecidablePred q] : ∀ {n : Nat}, (∀ i, i < n → (p i ↔ q i)) → p_cnt p n = p_cnt q n
  | 0, _ => rfl
  | n + 1, h => by
    rw [p_cnt, p_cnt, p_cnt_congr (fun i hi => h i (by omega))]
    by_cases z : p n
    · rw [if_pos z, if_pos ((h n (by omega)).mp z)]
    · rw [if_neg z, if_neg (fun w => z ((h n (by omega)).mpr w))]
def amt (c : Nat → Nat) (n k : Nat) : Nat := p_cnt (fun i => c i = k) n
theorem amt_le (c : Nat → Nat) (n k : Nat) : amt c n k ≤ n := p_cnt_le _ n
def left0 (ch : Nat → Nat → Nat) (c : Nat → Nat) (d i : Nat) : Nat := if d = 0 then 0 else tri ch c (d - 1) i
/-- of one of a colour k at depth d and seat i -/
def vsT (ch : Nat → Nat → Nat) (c : Nat → Nat) (n : Nat) (tm : Int32) (r d i k : Nat) : Nat → Int32 := vsOf (nI k) (nI i) (nI d) (nI n) (nI (amt c n k)) tm (nI r) (nI (left0 ch c d i)) (nI (left0 ch c d (i + 1)))
def lawVal (F : Nat → (Nat → Int32) → Int32 → Int32) (k m : Nat) (vs : Nat → Int32) : Int32 := clp (nI m) (F k vs (plainV k vs))
theorem p_standAt {I : Nat → Nat → Int32} {L : Nat → Nat → Int64} {Z : zZ} {B tx : Nat} {d s : Int32} (h : isCls Z B tx) : fX2_standAt [.ref (B + 40), .int d, .int s] (I, L, Z) = some (none, (z_up (z_up I (B + 41) 2 d) (B + 41) 1 s, L, Z)) := by
  show kX2_standAt_0 [some (.ref ((B + 40))), some (.int (d)), some (.int (s))] [] (I, L, Z) = _
  simp (disch := omega) only [kX2_standAt_0, cl_40 h, cr_40_0 h, cl_41 h, e_push, e_pushl, e_iload, e_lload, e_aload, e_istore, e_astore, e_lstore, e_iinc, e_iadd, e_isub, e_imul, e_iand, e_ior, e_ixor, e_ishl, e_ishr, e_iushr, e_idiv, e_irem, e_ladd, e_lsub, e_lmul, e_lcmp, e_mmax, e_mmin, e_i2l, e_l2i, e_i2b, e_i2c, e_dup, e_dup2, e_pop, e_icmp_eq, e_icmp_ne, e_icmp_lt, e_icmp_ge, e_icmp_gt, e_icmp_le, e_if_eq, e_if_ne, e_if_lt, e_if_ge, e_if_gt, e_if_le, e_getI, e_getR, e_putI, e_putZ, e_putR, e_iald, e_bald, e_zald, e_lald, e_aald, e_alen, e_iast, e_bast, e_zast, e_last, e_aast, e_iret, e_zret, e_lret, e_vret, e_obj, e_callV, e_callS, e_callT, e_acpy, e_ldcS, e_dn, e_ag, z_pop, List.getElem?_cons_zero, List.getElem?_cons_succ, List.set_cons_zero, List.set_cons_succ, List.length_cons, List.length_nil, z_nol, Option.map_some, Option.toList_some, Option.toList_none, List.cons_append, List.nil_append, n_lit, n_m1, n_m2, n_m1lt, n_m1le, n_rem, n_div, n_out, n_cl, n_eq, n_le, n_lt, n_add, n_mul, n_sub, n_nle, n_yle, n_nlt, n_ylt, n_neN, z_lay, z_sz, z_str, z_stI, z_stL, z_stR, eq_self, ↓reduceIte, true_and, and_true, and_self, false_and, and_false, or_self, false_or, or_false, true_or, or_true, not_true_eq_false, not_false_eq_true, Nat.reduceLeDiff, Nat.reduceLT, Nat.reduceAdd, Nat.reduceEqDiff, Nat.reduceMul, Nat.reduceSub, Value.category, Nat.zero_le, beq_self_eq_true]
theorem p_haveParents {I : Nat → Nat → Int32} {L : Nat → Nat → Int64} {Z : zZ} {B tx : Nat} {d s : Int32} (h : isCls Z B tx) : fX2_haveParents [.ref (B + 40), .int d, .int s] (I, L, Z) = some (none, (z_up (z_up I (B + 41) 7 d) (B + 41) 8 s, L, Z)) := by
  show kX2_haveParents_0 [some (.ref ((B + 40))), some (.int (d)), some (.int (s))] [] (I, L, Z) = _
  simp (disch := omega) only [kX2_haveParents_0, cl_40 h, cr_40_0 h, cl_41 h, e_push, e_pushl, e_iload, e_lload, e_aload, e_istore, e_astore, e_lstore, e_iinc, e_iadd, e_isub, e_imul, e_iand, e_ior, e_ixor, e_ishl, e_ishr, e_iushr, e_idiv, e_irem, e_ladd, e_lsub, e_lmul, e_lcmp, e_mmax, e_mmin, e_i2l, e_l2i, e_i2b, e_i2c, e_dup, e_dup2, e_pop, e_icmp_eq, e_icmp_ne, e_icmp_lt, e_icmp_ge, e_icmp_gt, e_icmp_le, e_if_eq, e_if_ne, e_if_lt, e_if_ge, e_if_gt, e_if_le, e_getI, e_getR, e_putI, e_putZ, e_putR, e_iald, e_bald, e_zald, e_lald, e_aald, e_alen, e_iast, e_bast, e_zast, e_last, e_aast, e_iret, e_zret, e_lret, e_vret, e_obj, e_callV, e_callS, e_callT, e_acpy, e_ldcS, e_dn, e_ag, z_pop, List.getElem?_cons_zero, List.getElem?_cons_succ, List.set_cons_zero, List.set_cons_succ, List.length_cons, List.length_nil, z_nol, Option.map_some, Option.toList_some, Option.toList_none, List.cons_append, List.nil_append, n_lit, n_m1, n_m2, n_m1lt, n_m1le, n_rem, n_div, n_out, n_cl, n_eq, n_le, n_lt, n_add, n_mul, n_sub, n_nle, n_yle, n_nlt, n_ylt, n_neN, z_lay, z_sz, z_str, z_stI, z_stL, z_stR, eq_self, ↓reduceIte, true_and, and_true, and_self, false_and, and_false, or_self, false_or, or_false, true_or, or_true, not_true_eq_false, not_false_eq_true, Nat.reduceLeDiff, Nat.reduceLT, Nat.reduceAdd, Nat.reduceEqDiff, Nat.reduceMul, Nat.reduceSub, Value.category, Nat.zero_le, beq_self_eq_true]
theorem p_amt {I : Nat → Nat → Int32} {L : Nat → Nat → Int64} {Z : zZ} {a la ca r n k : Nat} {c : Nat → Nat} (h : isFam Z a la ca) (hr : r < 4) (hI : famI I la ca r n c) (hc : ∀ i, i < n → c i < 4) (hk : k < 4) : fX1_amountOf [.ref a, .int (nI r), .int (nI k)] (I, L, Z) = some (some (.int (nI (amt c n k))), (I, L, Z)) := by
  rw [p_amountOf h hr hI.1 hI.2.1]
  congr 5
  refine p_cnt_congr fun i hi => ?_
  rw [hI.2.2 i hi]
  have := hc i hi
  exact nI_eq (by omega) (by omega)
def stI (I : Nat → Nat → Int32) (b : Nat) (c l m t w : Int32) : Nat → Nat → Int32 := z_up (z_up (z_up (z_up (z_up (z_up (z_up (z_up (z_up I b 0 c) b 3 l) b 4 m) b 5 t) b 6 w) b 2 (nI 0)) b 1 (nI 0)) b 7 (nI 0)) b 8 (nI 0)
theorem stI_off {I : Nat → Nat → Int32} {b q : Nat} {c l m t w : Int32} (h : q ≠ b) : stI I b c l m t w q = I q := by
  unfold stI
  rw [zup_off h, zup_off h, zup_off h, zup_off h, zup_off h, zup_off h, zup_off h, zup_off h, zup_off h]
theorem p_standOn {I : Nat → Nat → Int32} {L : Nat → Nat → Int64} {Z : zZ} {B tx a la ca r n k : Nat} {c : Nat → Nat} (h : isCls Z B tx) (hf : isFam Z a la ca) (n1 : a ≠ B + 41) (n2 : la ≠ B + 41) (n3 : ca ≠ B + 41) (hr : r < 4) (hI : famI I la ca r n c) (hc : ∀ i, i < n → c i < 4) (hk : k < 4) : fX2_standOn [.ref (B + 40), .ref a, .int (nI r), .int (nI k)] (I, L, Z) = some (none, (stI I (B + 41) (nI k) (nI n) (nI (amt c n k)) (I a 1) (nI r), L, Z)) := by
  have l1 := p_lengthOf (I := z_up I (B + 41) 0 (nI k)) (L := L) hf hr
  rw [zup_off n2, hI.1] at l1
  have l2 := p_amt (I := z_up (z_up I (B + 41) 0 (nI k)) (B + 41) 3 (nI n)) (L := L) hf hr (hI.kept (by rw [zup_off n2, zup_off n2]) (by rw [zup_off n3, zup_off n3])) hc hk
  have t1 : z_up (z_up (z_up I (B + 41) 0 (nI k)) (B + 41) 3 (nI n)) (B + 41) 4 (nI (amt c n k)) a 1 = I a 1 := by rw [zup_off n1, zup_off n1, zup_off n1]
  show kX2_standOn_0 [some (.ref ((B + 40))), some (.ref (a)), some (.int (nI (r))), some (.int (nI (k)))] [] (I, L, Z) = _
  unfold stI
  simp (disch := omega) only [kX2_standOn_0, cl_40 h, cr_40_0 h, cl_41 h, hf.1, l1, l2, t1, p_standAt h, p_haveParents h, e_push, e_pushl, e_iload, e_lload, e_aload, e_istore, e_astore, e_lstore, e_iinc, e_iadd, e_isub, e_imul, e_iand, e_ior, e_ixor, e_ishl, e_ishr, e_iushr, e_idiv, e_irem, e_ladd, e_lsub, e_lmul, e_lcmp, e_mmax, e_mmin, e_i2l, e_l2i, e_i2b, e_i2c, e_dup, e_dup2, e_pop, e_icmp_eq, e_icmp_ne, e_icmp_lt, e_icmp_ge, e_icmp_gt, e_icmp_le, e_if_eq, e_if_ne, e_if_lt, e_if_ge, e_if_gt, e_if_le, e_getI, e_getR, e_putI, e_putZ, e_putR, e_iald, e_bald, e_zald, e_lald, e_aald, e_alen, e_iast, e_bast, e_zast, e_last, e_aast, e_iret, e_zret, e_lret, e_vret, e_obj, e_callV, e_callS, e_callT, e_acpy, e_ldcS, e_dn, e_ag, z_pop, List.getElem?_cons_zero, List.getElem?_cons_succ, List.set_cons_zero, List.set_cons_succ, List.length_cons, List.length_nil, z_nol, Option.map_some, Option.toList_some, Option.toList_none, List.cons_append, List.nil_append, n_lit, n_m1, n_m2, n_m1lt, n_m1le, n_rem, n_div, n_out, n_cl, n_eq, n_le, n_lt, n_add, n_mul, n_sub, n_nle, n_yle, n_nlt, n_ylt, n_neN, z_lay, z_sz, z_str, z_stI, z_stL, z_stR, eq_self, ↓reduceIte, true_and, and_true, and_self, false_and, and_false, or_self, false_or, or_false, true_or, or_true, not_true_eq_false, not_false_eq_true, Nat.reduceLeDiff, Nat.reduceLT, Nat.reduceAdd, Nat.reduceEqDiff, Nat.reduceMul, Nat.reduceSub, Value.category, Nat.zero_le, beq_self_eq_true]
/-- a law of the class, the variables set -/
theorem p_lawAt {I : Nat → Nat → Int32} {L : Nat → Nat → Int64} {Z : zZ} {B tx lv k m : Nat} {vs : Nat → Int32} {F : Nat → (Nat → Int32) → Int32 → Int32} (h : isCls Z B tx) (hF : lawW I L B tx lv F) (hv : ∀ k, k < 9 → I (B + 41) k = vs k) (hk : k < 4) :
    ∃ J, fX2_held [.ref (B + 40), .ref (B + tx), .int (nI k), .int (nI m)] (I, L, Z) = some (some (.int (lawVal F k m vs)), (J, L, Z)) ∧ ∀ q, q ≠ B + 40 → J q = I q := p_held h hF hv hk
theorem lawW.vars {I J : Nat → Nat → Int32} {L : Nat → Nat → Int64} {B tx lv : Nat} {F : Nat → (Nat → Int32) → Int32 → Int32} (htx : tx = 3 ∨ tx = 18) (h : lawW I L B tx lv F) (he : ∀ q, q ≠ B + 40 → q ≠ B + 41 → q ≠ B + 42 → q ≠ B + 43 → q ≠ B + 44 → J q = I q) : lawW J L B tx lv F :=
  h.kept (he _ (by omega) (by omega) (by omega) (by omega) (by omega)) (he _ (by omega) (by omega) (by omega) (by omega) (by omega)) (he _ (by omega) (by omega) (by omega) (by omega) (by omega)) (fun k h1 h2 => he _ (by omega) (by omega) (by omega) (by omega) (by omega))
/-- what a colour at a seat costs, by the class -/
theorem p_costsOf {I : Nat → Nat → Int32} {L : Nat → Nat → Int64} {Z : zZ} {B tx lv r i k n : Nat} {ch : Nat → Nat → Nat} {c : Nat → Nat} {F : Nat → (Nat → Int32) → Int32 → Int32} (h : isCls Z B tx) (hF : lawW I L B tx lv F) (hr : r < 4) (hI : famI I (B + 34) (B + 35) r n c) (hc : ∀ i, i < n → c i < 4) (hk : k < 4) :
    ∃ J, fX11_costsOf [.ref B, .int (nI r), .int (nI i), .int (nI k)] (I, L, Z) = some (some (.int (lawVal F 1 99 (vsT ch c n (I (B + 33) 1) r 0 i k))), (J, L, Z)) ∧ ∀ q, q ≠ B + 40 → q ≠ B + 41 → J q = I q := by
  have htx := h.1
  have s1 := p_standOn (L := L) h (cf_33 h) (by omega) (by omega) (by omega) hr hI hc hk
  generalize hJ : z_up (z_up (stI I (B + 41) (nI k) (nI n) (nI (amt c n k)) (I (B + 33) 1) (nI r)) (B + 41) 2 (nI 0)) (B + 41) 1 (nI i) = J1
  have y1 : ∀ q, q ≠ B + 41 → J1 q = I q := fun q hq => by rw [← hJ, zup_off hq, zup_off hq, stI_off hq]
  obtain ⟨J, r1, r2⟩ := p_lawAt (I := J1) (L := L) (k := 1) (m := 99) (vs := vsT ch c n (I (B + 33) 1) r 0 i k) h (hF.vars htx (fun q _ hq _ _ _ => y1 q hq)) (fun j hj => by
    rw [← hJ]
    rcases lt9 hj with rfl | rfl | rfl | rfl | rfl | rfl | rfl | rfl | rfl <;> simp [stI, z_up, vsT, vsOf, left0]) (by omega)
  refine ⟨J, ?_, fun q q1 q2 => by rw [r2 q q1, y1 q q2]⟩
  show kX11_costsOf_0 [some (.ref (B)), some (.int (nI (r))), some (.int (nI (i))), some (.int (nI (k)))] [] (I, L, Z) = _
  simp (disch := omega) only [kX11_costsOf_0, cl_B h, cr_0_0 h, cr_0_4 h, cr_0_5 h, cr_0_6 h, cr_0_7 h, cr_0_8 h, cr_0_9 h, cr_0_10 h, cr_0_11 h, cr_0_12 h, h.2.2.2.1, cl_1 h, cl_33 h, cl_36 h, cl_39 h, cl_40 h, cl_42 h, cl_45 h, cl_178 h, cl_186 h, cl_191 h, tl_0 h, tl_5 h, tr_0_0 h, tr_0_1 h, tr_0_2 h, tl_1 h, tl_10 h, s1, p_standAt h, hJ, r1, e_push, e_pushl, e_iload, e_lload, e_aload, e_istore, e_astore, e_lstore, e_iinc, e_iadd, e_isub, e_imul, e_iand, e_ior, e_ixor, e_ishl, e_ishr, e_iushr, e_idiv, e_irem, e_ladd, e_lsub, e_lmul, e_lcmp, e_mmax, e_mmin, e_i2l, e_l2i, e_i2b, e_i2c, e_dup, e_dup2, e_pop, e_icmp_eq, e_icmp_ne, e_icmp_lt, e_icmp_ge, e_icmp_gt, e_icmp_le, e_if_eq, e_if_ne, e_if_lt, e_if_ge, e_if_gt, e_if_le, e_getI, e_getR, e_putI, e_putZ, e_putR, e_iald, e_bald, e_zald, e_lald, e_aald, e_alen, e_iast, e_bast, e_zast, e_last, e_aast, e_iret, e_zret, e_lret, e_vret, e_obj, e_callV, e_callS, e_callT, e_acpy, e_ldcS, e_dn, e_ag, z_pop, List.getElem?_cons_zero, List.getElem?_cons_succ, List.set_cons_zero, List.set_cons_succ, List.length_cons, List.length_nil, z_nol, Option.map_some, Option.toList_some, Option.toList_none, List.cons_append, List.nil_append, n_lit, n_m1, n_m2, n_m1lt, n_m1le, n_rem, n_div, n_out, n_cl, n_eq, n_le, n_lt, n_add, n_mul, n_sub, n_nle, n_yle, n_nlt, n_ylt, n_neN, z_lay, z_sz, z_str, z_stI, z_stL, z_stR, eq_self, ↓reduceIte, true_and, and_true, and_self, false_and, and_false, or_self, false_or, or_false, true_or, or_true, not_true_eq_false, not_false_eq_true, Nat.reduceLeDiff, Nat.reduceLT, Nat.reduceAdd, Nat.reduceEqDiff, Nat.reduceMul, Nat.reduceSub, Value.category, Nat.zero_le, beq_self_eq_true]
theorem p_paysOf {I : Nat → Nat → Int32} {L : Nat → Nat → Int64} {Z : zZ} {B tx lv r n a la ca : Nat} {ch : Nat → Nat → Nat} {c : Nat → Nat} {F : Nat → (Nat → Int32) → Int32 → Int32} (h : isCls Z B tx) (hF : lawW I L B tx lv F) (hf : isFam Z a la ca) (n1 : a ≠ B + 41) (n2 : la ≠ B + 41) (n3 : ca ≠ B + 41) (hr : r < 4) (hI : famI I la ca r n c) (h1 : 1 ≤ n) (hc : ∀ i, i < n → c i < 4) :
    ∃ J, fX11_paysOf [.ref B, .ref a, .int (nI r)] (I, L, Z) = some (some (.int (lawVal F 3 99 (vsT ch c n (I a 1) r 0 0 (c 0)))), (J, L, Z)) ∧ ∀ q, q ≠ B + 40 → q ≠ B + 41 → J q = I q := by
  have htx := h.1
  have c1 := p_colourAt (I := I) (L := L) (i := 0) hf hr (by omega)
  rw [hI.2.2 0 (by omega)] at c1
  have s1 := p_standOn (L := L) h hf n1 n2 n3 hr hI hc (hc 0 (by omega))
  generalize hJ : stI I (B + 41) (nI (c 0)) (nI n) (nI (amt c n (c 0))) (I a 1) (nI r) = J1 at s1
  have y1 : ∀ q, q ≠ B + 41 → J1 q = I q := fun q hq => by rw [← hJ, stI_off hq]
  obtain ⟨J, r1, r2⟩ := p_lawAt (I := J1) (L := L) (k := 3) (m := 99) (vs := vsT ch c n (I a 1) r 0 0 (c 0)) h (hF.vars htx (fun q _ hq _ _ _ => y1 q hq)) (fun j hj => by
    rw [← hJ]
    rcases lt9 hj with rfl | rfl | rfl | rfl | rfl | rfl | rfl | rfl | rfl <;> simp [stI, z_up, vsT, vsOf, left0]) (by omega)
  refine ⟨J, ?_, fun q q1 q2 => by rw [r2 q q1, y1 q q2]⟩
  show kX11_paysOf_0 [some (.ref (B)), some (.ref (a)), some (.int (nI (r)))] [] (I, L, Z) = _
  simp (disch := omega) only [kX11_paysOf_0, cl_B h, cr_0_0 h, cr_0_4 h, cr_0_5 h, cr_0_6 h, cr_0_7 h, cr_0_8 h, cr_0_9 h, cr_0_10 h, cr_0_11 h, cr_0_12 h, h.2.2.2.1, cl_1 h, cl_33 h, cl_36 h, cl_39 h, cl_40 h, cl_42 h, cl_45 h, cl_178 h, cl_186 h, cl_191 h, tl_0 h, tl_5 h, tr_0_0 h, tr_0_1 h, tr_0_2 h, tl_1 h, tl_10 h, hf.1, c1, s1, r1, e_push, e_pushl, e_iload, e_lload, e_aload, e_istore, e_astore, e_lstore, e_iinc, e_iadd, e_isub, e_imul, e_iand, e_ior, e_ixor, e_ishl, e_ishr, e_iushr, e_idiv, e_irem, e_ladd, e_lsub, e_lmul, e_lcmp, e_mmax, e_mmin, e_i2l, e_l2i, e_i2b, e_i2c, e_dup, e_dup2, e_pop, e_icmp_eq, e_icmp_ne, e_icmp_lt, e_icmp_ge, e_icmp_gt, e_icmp_le, e_if_eq, e_if_ne, e_if_lt, e_if_ge, e_if_gt, e_if_le, e_getI, e_getR, e_putI, e_putZ, e_putR, e_iald, e_bald, e_zald, e_lald, e_aald, e_alen, e_iast, e_bast, e_zast, e_last, e_aast, e_iret, e_zret, e_lret, e_vret, e_obj, e_callV, e_callS, e_callT, e_acpy, e_ldcS, e_dn, e_ag, z_pop, List.getElem?_cons_zero, List.getElem?_cons_succ, List.set_cons_zero, List.set_cons_succ, List.length_cons, List.length_nil, z_nol, Option.map_some, Option.toList_some, Option.toList_none, List.cons_append, List.nil_append, n_lit, n_m1, n_m2, n_m1lt, n_m1le, n_rem, n_div, n_out, n_cl, n_eq, n_le, n_lt, n_add, n_mul, n_sub, n_nle, n_yle, n_nlt, n_ylt, n_neN, z_lay, z_sz, z_str, z_stI, z_stL, z_stR, eq_self, ↓reduceIte, true_and, and_true, and_self, false_and, and_false, or_self, false_or, or_false, true_or, or_true, not_true_eq_false, not_false_eq_true, Nat.reduceLeDiff, Nat.reduceLT, Nat.reduceAdd, Nat.reduceEqDiff, Nat.reduceMul, Nat.reduceSub, Value.category, Nat.zero_le, beq_self_eq_true]
theorem p_worthOf {I : Nat → Nat → Int32} {L : Nat → Nat → Int64} {Z : zZ} {B tx lv r n d i : Nat} {ch : Nat → Nat → Nat} {c : Nat → Nat} {F : Nat → (Nat → Int32) → Int32 → Int32} (h : isCls Z B tx) (hF : lawW I L B tx lv F) (hr : r < 4) (hI : famI I (B + 34) (B + 35) r n c) (hc : ∀ i, i < n → c i < 4) (hC : trI I (B + 42) (B + 43) n ch c) (htri : ∀ d i, d + i < n → tri ch c d i < 4) (hd : d + i < n) :
    ∃ J, fX11_worthOf [.ref B, .int (nI r), .int (nI d), .int (nI i)] (I, L, Z) = some (some (.int (lawVal F 0 99 (vsT ch c n (I (B + 33) 1) r d i (tri ch c d i)))), (J, L, Z)) ∧ ∀ q, q ≠ B + 40 → q ≠ B + 41 → J q = I q := by
  have htx := h.1
  have hn := hI.2.1
  have c1 := p_cell (I := I) (L := L) (d := d) (i := i) (cg_42 h) (by omega) (by omega)
  rw [hC.2 d i hd] at c1
  have s1 := p_standOn (L := L) h (cf_33 h) (by omega) (by omega) (by omega) hr hI hc (htri d i hd)
  generalize hJ0 : z_up (z_up (stI I (B + 41) (nI (tri ch c d i)) (nI n) (nI (amt c n (tri ch c d i))) (I (B + 33) 1) (nI r)) (B + 41) 2 (nI d)) (B + 41) 1 (nI i) = J0
  have y0 : ∀ q, q ≠ B + 41 → J0 q = I q := fun q hq => by rw [← hJ0, zup_off hq, zup_off hq, stI_off hq]
  by_cases q0 : d = 0
  · subst q0
    obtain ⟨J, r1, r2⟩ := p_lawAt (I := J0) (L := L) (k := 0) (m := 99) (vs := vsT ch c n (I (B + 33) 1) r 0 i (tri ch c 0 i)) h (hF.vars htx (fun q _ hq _ _ _ => y0 q hq)) (fun j hj => by
      rw [← hJ0]
      rcases lt9 hj with rfl | rfl | rfl | rfl | rfl | rfl | rfl | rfl | rfl <;> simp [stI, z_up, vsT, vsOf, left0]) (by omega)
    refine ⟨J, ?_, fun q q1 q2 => by rw [r2 q q1, y0 q q2]⟩
    show kX11_worthOf_0 [some (.ref (B)), some (.int (nI (r))), some (.int (nI (0))), some (.int (nI (i)))] [] (I, L, Z) = _
    simp (disch := omega) only [kX11_worthOf_65, kX11_worthOf_0, cl_B h, cr_0_0 h, cr_0_4 h, cr_0_5 h, cr_0_6 h, cr_0_7 h, cr_0_8 h, cr_0_9 h, cr_0_10 h, cr_0_11 h, cr_0_12 h, h.2.2.2.1, cl_1 h, cl_33 h, cl_36 h, cl_39 h, cl_40 h, cl_42 h, cl_45 h, cl_178 h, cl_186 h, cl_191 h, tl_0 h, tl_5 h, tr_0_0 h, tr_0_1 h, tr_0_2 h, tl_1 h, tl_10 h, c1, s1, p_standAt h, hJ0, r1, e_push, e_pushl, e_iload, e_lload, e_aload, e_istore, e_astore, e_lstore, e_iinc, e_iadd, e_isub, e_imul, e_iand, e_ior, e_ixor, e_ishl, e_ishr, e_iushr, e_idiv, e_irem, e_ladd, e_lsub, e_lmul, e_lcmp, e_mmax, e_mmin, e_i2l, e_l2i, e_i2b, e_i2c, e_dup, e_dup2, e_pop, e_icmp_eq, e_icmp_ne, e_icmp_lt, e_icmp_ge, e_icmp_gt, e_icmp_le, e_if_eq, e_if_ne, e_if_lt, e_if_ge, e_if_gt, e_if_le, e_getI, e_getR, e_putI, e_putZ, e_putR, e_iald, e_bald, e_zald, e_lald, e_aald, e_alen, e_iast, e_bast, e_zast, e_last, e_aast, e_iret, e_zret, e_lret, e_vret, e_obj, e_callV, e_callS, e_callT, e_acpy, e_ldcS, e_dn, e_ag, z_pop, List.getElem?_cons_zero, List.getElem?_cons_succ, List.set_cons_zero, List.set_cons_succ, List.length_cons, List.length_nil, z_nol, Option.map_some, Option.toList_some, Option.toList_none, List.cons_append, List.nil_append, n_lit, n_m1, n_m2, n_m1lt, n_m1le, n_rem, n_div, n_out, n_cl, n_eq, n_le, n_lt, n_add, n_mul, n_sub, n_nle, n_yle, n_nlt, n_ylt, n_neN, z_lay, z_sz, z_str, z_stI, z_stL, z_stR, eq_self, ↓reduceIte, true_and, and_true, and_self, false_and, and_false, or_self, false_or, or_false, true_or, or_true, not_true_eq_false, not_false_eq_true, Nat.reduceLeDiff, Nat.reduceLT, Nat.reduceAdd, Nat.reduceEqDiff, Nat.reduceMul, Nat.reduceSub, Value.category, Nat.zero_le, beq_self_eq_true]
  · have c2 := p_cell (I := J0) (L := L) (d := d - 1) (i := i) (cg_42 h) (by omega) (by omega)
    have c3 := p_cell (I := J0) (L := L) (d := d - 1) (i := i + 1) (cg_42 h) (by omega) (by omega)
    rw [y0 _ (by omega), hC.2 _ _ (by omega)] at c2 c3
    generalize hJ : z_up (z_up J0 (B + 41) 7 (nI (tri ch c (d - 1) i))) (B + 41) 8 (nI (tri ch c (d - 1) (i + 1))) = J1
    have y1 : ∀ q, q ≠ B + 41 → J1 q = I q := fun q hq => by rw [← hJ, zup_off hq, zup_off hq, y0 q hq]
    obtain ⟨J, r1, r2⟩ := p_lawAt (I := J1) (L := L) (k := 0) (m := 99) (vs := vsT ch c n (I (B + 33) 1) r d i (tri ch c d i)) h (hF.vars htx (fun q _ hq _ _ _ => y1 q hq)) (fun j hj => by
      rw [← hJ, ← hJ0]
      rcases lt9 hj with rfl | rfl | rfl | rfl | rfl | rfl | rfl | rfl | rfl <;> simp [stI, z_up, vsT, vsOf, left0, q0]) (by omega)
    refine ⟨J, ?_, fun q q1 q2 => by rw [r2 q q1, y1 q q2]⟩
    have hd0 : ¬ d ≤ 0 := by omega
    show kX11_worthOf_0 [some (.ref (B)), some (.int (nI (r))), some (.int (nI (d))), some (.int (nI (i)))] [] (I, L, Z) = _
    simp (disch := omega) only [kX11_worthOf_65, kX11_worthOf_0, cl_B h, cr_0_0 h, cr_0_4 h, cr_0_5 h, cr_0_6 h, cr_0_7 h, cr_0_8 h, cr_0_9 h, cr_0_10 h, cr_0_11 h, cr_0_12 h, h.2.2.2.1, cl_1 h, cl_33 h, cl_36 h, cl_39 h, cl_40 h, cl_42 h, cl_45 h, cl_178 h, cl_186 h, cl_191 h, tl_0 h, tl_5 h, tr_0_0 h, tr_0_1 h, tr_0_2 h, tl_1 h, tl_10 h, c1, s1, p_standAt h, hJ0, hd0, c2, c3, p_haveParents h, hJ, r1, e_push, e_pushl, e_iload, e_lload, e_aload, e_istore, e_astore, e_lstore, e_iinc, e_iadd, e_isub, e_imul, e_iand, e_ior, e_ixor, e_ishl, e_ishr, e_iushr, e_idiv, e_irem, e_ladd, e_lsub, e_lmul, e_lcmp, e_mmax, e_mmin, e_i2l, e_l2i, e_i2b, e_i2c, e_dup, e_dup2, e_pop, e_icmp_eq, e_icmp_ne, e_icmp_lt, e_icmp_ge, e_icmp_gt, e_icmp_le, e_if_eq, e_if_ne, e_if_lt, e_if_ge, e_if_gt, e_if_le, e_getI, e_getR, e_putI, e_putZ, e_putR, e_iald, e_bald, e_zald, e_lald, e_aald, e_alen, e_iast, e_bast, e_zast, e_last, e_aast, e_iret, e_zret, e_lret, e_vret, e_obj, e_callV, e_callS, e_callT, e_acpy, e_ldcS, e_dn, e_ag, z_pop, List.getElem?_cons_zero, List.getElem?_cons_succ, List.set_cons_zero, List.set_cons_succ, List.length_cons, List.length_nil, z_nol, Option.map_some, Option.toList_some, Option.toList_none, List.cons_append, List.nil_append, n_lit, n_m1, n_m2, n_m1lt, n_m1le, n_rem, n_div, n_out, n_cl, n_eq, n_le, n_lt, n_add, n_mul, n_sub, n_nle, n_yle, n_nlt, n_ylt, n_neN, z_lay, z_sz, z_str, z_stI, z_stL, z_stR, eq_self, ↓reduceIte, true_and, and_true, and_self, false_and, and_false, or_self, false_or, or_false, true_or, or_true, not_true_eq_false, not_false_eq_true, Nat.reduceLeDiff, Nat.reduceLT, Nat.reduceAdd, Nat.reduceEqDiff, Nat.reduceMul, Nat.reduceSub, Value.category, Nat.zero_le, beq_self_eq_true]
