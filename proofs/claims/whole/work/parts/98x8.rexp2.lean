/-! read: the reference's expressions -/
def vS (J : Nat → Nat → Int32) (M t : Nat) : Prop := ∀ k, k < t → ∃ u, J (M + 26) k = nI u ∧ (u = 6 ∨ u = 8 ∨ u = 9 ∨ u = 10 ∨ u = 15)
theorem vS.kept {P : Nat → Nat → Prop} {I J : Nat → Nat → Int32} {M t u : Nat} (h : vS I M t) (hf : frm P I J) (hu : u ≤ t) (hP : ∀ k, k < u → ¬ P (M + 26) k) : vS J M u := fun k hk => by
  obtain ⟨x, a, b⟩ := h k (by omega)
  exact ⟨x, by rw [hf _ _ (hP k hk)]; exact a, b⟩
def pM (M a _k : Nat) : Prop := a = M
theorem fr_M {I J : Nat → Nat → Int32} {M k : Nat} {v : Int32} (h : frm (pM M) I J) : frm (pM M) I (z_up J M k v) := h.up (show M = M from rfl)
theorem r_outAny {L : Nat → Nat → Int64} {Z : zZ} {M u : Nat} (h : isMod Z M) (hu : u ≤ 840) : ∀ t c (J : Nat → Nat → Int32) y, J M 42 = nI t → t < 60 → J M 38 = nI c → c + t ≤ u → vS J M t → ∃ J', q_lp bX12_comesOut_0 [some (Value.ref (M)), some (Value.int (nI (0))), y] [] (J, L, Z) = some (none, (J', L, Z)) ∧ frm (pO M u c) J J' := by
  intro t
  induction t with
  | zero =>
    intro c J y h42 ht h38 hc hv
    refine ⟨J, ?_, frm.refl _ _⟩
    rw [q_lp_eq, r_out0 h (by decide) h42 (by omega) (Or.inl rfl)]
  | succ t ih =>
    intro c J y h42 ht h38 hc hv
    obtain ⟨x, u1, u2⟩ := hv t (by omega)
    by_cases g : x = 6
    · refine ⟨J, ?_, frm.refl _ _⟩
      rw [q_lp_eq, r_out0 h (by decide) h42 (by omega) (Or.inr ⟨x, u1, Or.inl g⟩)]
    · have st1 := r_out1 (I := J) (L := L) (y := y) h (show 0 < 2 by decide) h42 (by omega) h38 (by omega) u1 (by omega)
      have f1 : frm (pO M u c) J (z_up (z_up (z_up (z_up J M 42 (nI t)) (M + 24) c (nI (opC x))) (M + 25) c (nI 0)) M 38 (nI (c + 1))) := ((((frm.refl _ _).up (by unfold pO; omega)).up (by unfold pO; omega)).up (by unfold pO; omega)).up (by unfold pO; omega)
      have e42 : z_up (z_up (z_up (z_up J M 42 (nI t)) (M + 24) c (nI (opC x))) (M + 25) c (nI 0)) M 38 (nI (c + 1)) M 42 = nI t := by rw [zup_ne (by omega), zup_off (by omega), zup_off (by omega), zup_at]
      have e38 : z_up (z_up (z_up (z_up J M 42 (nI t)) (M + 24) c (nI (opC x))) (M + 25) c (nI 0)) M 38 (nI (c + 1)) M 38 = nI (c + 1) := zup_at
      obtain ⟨J', r1, r2⟩ := ih (c + 1) _ (some (.int (nI x))) e42 (by omega) e38 (by omega) (hv.kept f1 (by omega) (fun k hk => by unfold pO; omega))
      refine ⟨J', ?_, f1.trans (r2.weak (fun a k => by unfold pO; omega))⟩
      rw [q_lp_eq, st1]
      exact r1
theorem fC_of {I : Nat → Nat → Int32} {L : Nat → Nat → Int64} {Z : zZ} {M : Nat} {X : (zL × zS) ⊕ zR} (e : bX12_expression_96 [some (Value.ref (M)), some (Value.int (nI (0))), some (Value.int (nI (1)))] [] (I, L, Z) = some (.inr X)) : fC M (I, L, Z) = xTh (some X) := by
  unfold fC
  rw [show kX12_expression_96 [some (Value.ref (M)), some (Value.int (nI (0))), some (Value.int (nI (1)))] [] (I, L, Z) = some X by
    show q_lp bX12_expression_96 _ [] _ = _
    rw [q_lp_eq, e]]
theorem fC_step {I : Nat → Nat → Int32} {L : Nat → Nat → Int64} {Z : zZ} {M : Nat} {J : Nat → Nat → Int32} (e : bX12_expression_96 [some (Value.ref (M)), some (Value.int (nI (0))), some (Value.int (nI (1)))] [] (I, L, Z) = some (.inl ([some (Value.ref (M)), some (Value.int (nI (0))), some (Value.int (nI (1)))], (J, L, Z)))) : fC M (I, L, Z) = fC M (J, L, Z) := by
  unfold fC
  have k : kX12_expression_96 [some (Value.ref (M)), some (Value.int (nI (0))), some (Value.int (nI (1)))] [] (I, L, Z) = kX12_expression_96 [some (Value.ref (M)), some (Value.int (nI (0))), some (Value.int (nI (1)))] [] (J, L, Z) := by
    show q_lp bX12_expression_96 _ [] _ = q_lp bX12_expression_96 _ [] _
    rw [q_lp_eq, e]
  rw [k]
theorem xC_fl {I : Nat → Nat → Int32} {L : Nat → Nat → Int64} {Z : zZ} {M f j o t c u : Nat} {S : Nat → Nat} (h : isMod Z M) (hF : flQ I M S f j) (h12 : I M 12 = nI o) (ho : o ≤ 7) (h42 : I M 42 = nI t) (ht : t < 60) (h38 : I M 38 = nI c) (hu : u ≤ 840) (hc : c + t ≤ u) (hv : vS I M t) : ∃ J, fC M (I, L, Z) = some (none, (J, L, Z)) ∧ flQ J M S f j ∧ frm (pO M u c) I J := by
  have is : ∀ x, fX12_is [.ref M, .int x] (I, L, Z) = _ := fun x => r_isF (L := L) (x := x) h hF
  have ff := r_failF (L := L) (x := nI 1) h hF
  obtain ⟨J, r1, r2⟩ := r_outAny (L := L) h hu t c I none h42 ht h38 hc hv
  have co : fX12_comesOut [.ref M, .int (nI 0)] (I, L, Z) = some (none, (J, L, Z)) := r1
  refine ⟨J, ?_, hF.kept r2 (by unfold pO; omega) (by unfold pO; omega) (by unfold pO; omega), r2⟩
  by_cases g : o = 0
  · exact fC_of (X := .inr (none, (J, L, Z))) (by simp (disch := omega) only [bX12_expression_96, kX12_expression_145, kX12_expression_186, kX12_expression_191, kX12_expression_204, h.1, is, h12, g, co, e_push, e_pushl, e_iload, e_lload, e_aload, e_istore, e_astore, e_lstore, e_iinc, e_iadd, e_isub, e_imul, e_iand, e_ior, e_ixor, e_ishl, e_ishr, e_iushr, e_idiv, e_irem, e_ladd, e_lsub, e_lmul, e_lcmp, e_mmax, e_mmin, e_i2l, e_l2i, e_i2b, e_i2c, e_dup, e_dup2, e_pop, e_icmp_eq, e_icmp_ne, e_icmp_lt, e_icmp_ge, e_icmp_gt, e_icmp_le, e_if_eq, e_if_ne, e_if_lt, e_if_ge, e_if_gt, e_if_le, e_getI, e_getR, e_putI, e_putZ, e_putR, e_iald, e_bald, e_zald, e_lald, e_aald, e_alen, e_iast, e_bast, e_zast, e_last, e_aast, e_iret, e_zret, e_lret, e_vret, e_obj, e_callV, e_callS, e_callT, e_acpy, e_ldcS, e_dn, e_ag, z_pop, List.getElem?_cons_zero, List.getElem?_cons_succ, List.set_cons_zero, List.set_cons_succ, List.length_cons, List.length_nil, z_nol, Option.map_some, Option.toList_some, Option.toList_none, List.cons_append, List.nil_append, n_lit, n_m1, n_m2, n_m1lt, n_m1le, n_rem, n_div, n_out, n_cl, n_eq, n_le, n_lt, n_add, n_mul, n_sub, n_nle, n_yle, n_nlt, n_ylt, n_neN, z_lay, z_sz, z_str, z_stI, z_stL, z_stR, eq_self, ↓reduceIte, true_and, and_true, and_self, false_and, and_false, or_self, false_or, or_false, true_or, or_true, not_true_eq_false, not_false_eq_true, Nat.reduceLeDiff, Nat.reduceLT, Nat.reduceAdd, Nat.reduceEqDiff, Nat.reduceMul, Nat.reduceSub, Value.category, Nat.zero_le, beq_self_eq_true])
  · exact fC_of (X := .inr (none, (J, L, Z))) (by simp (disch := omega) only [bX12_expression_96, kX12_expression_145, kX12_expression_186, kX12_expression_191, kX12_expression_204, h.1, is, h12, g, ff, co, e_push, e_pushl, e_iload, e_lload, e_aload, e_istore, e_astore, e_lstore, e_iinc, e_iadd, e_isub, e_imul, e_iand, e_ior, e_ixor, e_ishl, e_ishr, e_iushr, e_idiv, e_irem, e_ladd, e_lsub, e_lmul, e_lcmp, e_mmax, e_mmin, e_i2l, e_l2i, e_i2b, e_i2c, e_dup, e_dup2, e_pop, e_icmp_eq, e_icmp_ne, e_icmp_lt, e_icmp_ge, e_icmp_gt, e_icmp_le, e_if_eq, e_if_ne, e_if_lt, e_if_ge, e_if_gt, e_if_le, e_getI, e_getR, e_putI, e_putZ, e_putR, e_iald, e_bald, e_zald, e_lald, e_aald, e_alen, e_iast, e_bast, e_zast, e_last, e_aast, e_iret, e_zret, e_lret, e_vret, e_obj, e_callV, e_callS, e_callT, e_acpy, e_ldcS, e_dn, e_ag, z_pop, List.getElem?_cons_zero, List.getElem?_cons_succ, List.set_cons_zero, List.set_cons_succ, List.length_cons, List.length_nil, z_nol, Option.map_some, Option.toList_some, Option.toList_none, List.cons_append, List.nil_append, n_lit, n_m1, n_m2, n_m1lt, n_m1le, n_rem, n_div, n_out, n_cl, n_eq, n_le, n_lt, n_add, n_mul, n_sub, n_nle, n_yle, n_nlt, n_ylt, n_neN, z_lay, z_sz, z_str, z_stI, z_stL, z_stR, eq_self, ↓reduceIte, true_and, and_true, and_self, false_and, and_false, or_self, false_or, or_false, true_or, or_true, not_true_eq_false, not_false_eq_true, Nat.reduceLeDiff, Nat.reduceLT, Nat.reduceAdd, Nat.reduceEqDiff, Nat.reduceMul, Nat.reduceSub, Value.category, Nat.zero_le, beq_self_eq_true])
theorem xC_end {I : Nat → Nat → Int32} {L : Nat → Nat → Int64} {Z : zZ} {M i sz o t c u : Nat} {K W S : Nat → Nat} {s : Option (List (Nat × Nat) × Nat)} {P : List (Nat × Nat)} {d : Option Nat} (h : isMod Z M) (hS : tkS K W S sz) (hT : tokR I M K W S sz) (hO : okQ I M i) (hi : i < sz) (hk : sOp (K i) = 0) (hx : xT I M o t c s P d) (ho : o ≤ 7) (h41 : K i = 41 → o = 0) (ht : t + 2 < 60) (hu : u ≤ 840) (hc : c + (s1 s).length + P.length + 2 ≤ u) : (o = 0 → ∃ J, fC M (I, L, Z) = some (none, (J, L, Z)) ∧ okQ J M i ∧ J M 12 = nI 0 ∧ J M 38 = nI (c + (sJoin s (P ++ pdL d)).length) ∧ segR J M c (sJoin s (P ++ pdL d)) ∧ frm (pX M u c t) I J) ∧ (o ≠ 0 → ∃ J, fC M (I, L, Z) = some (none, (J, L, Z)) ∧ flQ J M S 1 i ∧ frm (pX M u c t) I J) := by
  have sz4 := hS.2.1
  have h12 := hx.1
  have k8 : K i ≠ 43 := fun z => by rw [z] at hk; exact absurd hk (by decide)
  have k9 : K i ≠ 45 := fun z => by rw [z] at hk; exact absurd hk (by decide)
  have k10 : K i ≠ 42 := fun z => by rw [z] at hk; exact absurd hk (by decide)
  have k15 : K i ≠ 47 := fun z => by rw [z] at hk; exact absurd hk (by decide)
  have i7 := r_isY (L := L) h hS hT hO hi (show 41 < 64 by decide) (show rk 41 = 7 from rfl) (by decide)
  have i8 := r_isY (L := L) h hS hT hO hi (show 43 < 64 by decide) (show rk 43 = 8 from rfl) (by decide)
  have i9 := r_isY (L := L) h hS hT hO hi (show 45 < 64 by decide) (show rk 45 = 9 from rfl) (by decide)
  have i10 := r_isY (L := L) h hS hT hO hi (show 42 < 64 by decide) (show rk 42 = 10 from rfl) (by decide)
  have i15 := r_isY (L := L) h hS hT hO hi (show 47 < 64 by decide) (show rk 47 = 15 from rfl) (by decide)
  rw [if_neg k8] at i8
  rw [if_neg k9] at i9
  rw [if_neg k10] at i10
  rw [if_neg k15] at i15
  constructor
  · intro g
    obtain ⟨J, r1, r2, r3, r4, r5⟩ := r_outF (L := L) h hx ht hu hc
    refine ⟨J, ?_, hO.kept r5 (by unfold pO; omega) (by unfold pO; omega), ?_, r3, r4, r5.weak fun a k => pO_X (by omega)⟩
    · by_cases g7 : K i = 41
      · rw [if_pos g7] at i7
        exact fC_of (X := .inr (none, (J, L, Z))) (by simp (disch := omega) only [bX12_expression_96, kX12_expression_145, kX12_expression_186, kX12_expression_191, kX12_expression_204, h.1, i7, i8, i9, i10, i15, h12, g, r1, e_push, e_pushl, e_iload, e_lload, e_aload, e_istore, e_astore, e_lstore, e_iinc, e_iadd, e_isub, e_imul, e_iand, e_ior, e_ixor, e_ishl, e_ishr, e_iushr, e_idiv, e_irem, e_ladd, e_lsub, e_lmul, e_lcmp, e_mmax, e_mmin, e_i2l, e_l2i, e_i2b, e_i2c, e_dup, e_dup2, e_pop, e_icmp_eq, e_icmp_ne, e_icmp_lt, e_icmp_ge, e_icmp_gt, e_icmp_le, e_if_eq, e_if_ne, e_if_lt, e_if_ge, e_if_gt, e_if_le, e_getI, e_getR, e_putI, e_putZ, e_putR, e_iald, e_bald, e_zald, e_lald, e_aald, e_alen, e_iast, e_bast, e_zast, e_last, e_aast, e_iret, e_zret, e_lret, e_vret, e_obj, e_callV, e_callS, e_callT, e_acpy, e_ldcS, e_dn, e_ag, z_pop, List.getElem?_cons_zero, List.getElem?_cons_succ, List.set_cons_zero, List.set_cons_succ, List.length_cons, List.length_nil, z_nol, Option.map_some, Option.toList_some, Option.toList_none, List.cons_append, List.nil_append, n_lit, n_m1, n_m2, n_m1lt, n_m1le, n_rem, n_div, n_out, n_cl, n_eq, n_le, n_lt, n_add, n_mul, n_sub, n_nle, n_yle, n_nlt, n_ylt, n_neN, z_lay, z_sz, z_str, z_stI, z_stL, z_stR, eq_self, ↓reduceIte, true_and, and_true, and_self, false_and, and_false, or_self, false_or, or_false, true_or, or_true, not_true_eq_false, not_false_eq_true, Nat.reduceLeDiff, Nat.reduceLT, Nat.reduceAdd, Nat.reduceEqDiff, Nat.reduceMul, Nat.reduceSub, Value.category, Nat.zero_le, beq_self_eq_true])
      · rw [if_neg g7] at i7
        exact fC_of (X := .inr (none, (J, L, Z))) (by simp (disch := omega) only [bX12_expression_96, kX12_expression_145, kX12_expression_186, kX12_expression_191, kX12_expression_204, h.1, i7, i8, i9, i10, i15, h12, g, r1, e_push, e_pushl, e_iload, e_lload, e_aload, e_istore, e_astore, e_lstore, e_iinc, e_iadd, e_isub, e_imul, e_iand, e_ior, e_ixor, e_ishl, e_ishr, e_iushr, e_idiv, e_irem, e_ladd, e_lsub, e_lmul, e_lcmp, e_mmax, e_mmin, e_i2l, e_l2i, e_i2b, e_i2c, e_dup, e_dup2, e_pop, e_icmp_eq, e_icmp_ne, e_icmp_lt, e_icmp_ge, e_icmp_gt, e_icmp_le, e_if_eq, e_if_ne, e_if_lt, e_if_ge, e_if_gt, e_if_le, e_getI, e_getR, e_putI, e_putZ, e_putR, e_iald, e_bald, e_zald, e_lald, e_aald, e_alen, e_iast, e_bast, e_zast, e_last, e_aast, e_iret, e_zret, e_lret, e_vret, e_obj, e_callV, e_callS, e_callT, e_acpy, e_ldcS, e_dn, e_ag, z_pop, List.getElem?_cons_zero, List.getElem?_cons_succ, List.set_cons_zero, List.set_cons_succ, List.length_cons, List.length_nil, z_nol, Option.map_some, Option.toList_some, Option.toList_none, List.cons_append, List.nil_append, n_lit, n_m1, n_m2, n_m1lt, n_m1le, n_rem, n_div, n_out, n_cl, n_eq, n_le, n_lt, n_add, n_mul, n_sub, n_nle, n_yle, n_nlt, n_ylt, n_neN, z_lay, z_sz, z_str, z_stI, z_stL, z_stR, eq_self, ↓reduceIte, true_and, and_true, and_self, false_and, and_false, or_self, false_or, or_false, true_or, or_true, not_true_eq_false, not_false_eq_true, Nat.reduceLeDiff, Nat.reduceLT, Nat.reduceAdd, Nat.reduceEqDiff, Nat.reduceMul, Nat.reduceSub, Value.category, Nat.zero_le, beq_self_eq_true])
    · rw [r5 _ _ (by unfold pO; omega), h12, g]
  · intro g
    have g7 : K i ≠ 41 := fun z => g (h41 z)
    rw [if_neg g7] at i7
    have f := r_failO (L := L) (f := 1) h hS hT hO hi
    have fl := fl_fail (S := S) hO (show i ≤ 400 by omega) (show 1 ≠ 0 by decide) (by decide)
    have ff : frm (pP M) I (z_up (z_up I M 13 (nI 1)) M 14 (nI (S i))) := fr_fail
    generalize z_up (z_up I M 13 (nI 1)) M 14 (nI (S i)) = I1 at f fl ff
    have hx1 : xT I1 M o t c s P d := by
      obtain ⟨x1, x2, x3, x4, x5, x6, x7⟩ := hx
      refine ⟨by rw [ff _ _ (by unfold pP; omega)]; exact x1, by rw [ff _ _ (by unfold pP; omega)]; exact x2, by rw [ff _ _ (by unfold pP; omega)]; exact x3, seg_frm x4 ff (fun k hk => by unfold pP; omega), fun q hq => ?_, fun op hop => ?_, ?_⟩
      · rw [ff _ _ (by unfold pP; omega)]; exact x5 q hq
      · rw [ff _ _ (by unfold pP; omega)]; exact x6 op hop
      · rw [ff _ _ (by unfold pP; omega)]; exact x7
    obtain ⟨J, r1, r2, r3, r4, r5⟩ := r_outF (L := L) h hx1 ht hu hc
    refine ⟨J, ?_, fl.kept r5 (by unfold pO; omega) (by unfold pO; omega) (by unfold pO; omega), (ff.weak fun a k => pP_X).trans (r5.weak fun a k => pO_X (by omega))⟩
    exact fC_of (X := .inr (none, (J, L, Z))) (by simp (disch := omega) only [bX12_expression_96, kX12_expression_145, kX12_expression_186, kX12_expression_191, kX12_expression_204, h.1, i7, i8, i9, i10, i15, h12, g, f, r1, e_push, e_pushl, e_iload, e_lload, e_aload, e_istore, e_astore, e_lstore, e_iinc, e_iadd, e_isub, e_imul, e_iand, e_ior, e_ixor, e_ishl, e_ishr, e_iushr, e_idiv, e_irem, e_ladd, e_lsub, e_lmul, e_lcmp, e_mmax, e_mmin, e_i2l, e_l2i, e_i2b, e_i2c, e_dup, e_dup2, e_pop, e_icmp_eq, e_icmp_ne, e_icmp_lt, e_icmp_ge, e_icmp_gt, e_icmp_le, e_if_eq, e_if_ne, e_if_lt, e_if_ge, e_if_gt, e_if_le, e_getI, e_getR, e_putI, e_putZ, e_putR, e_iald, e_bald, e_zald, e_lald, e_aald, e_alen, e_iast, e_bast, e_zast, e_last, e_aast, e_iret, e_zret, e_lret, e_vret, e_obj, e_callV, e_callS, e_callT, e_acpy, e_ldcS, e_dn, e_ag, z_pop, List.getElem?_cons_zero, List.getElem?_cons_succ, List.set_cons_zero, List.set_cons_succ, List.length_cons, List.length_nil, z_nol, Option.map_some, Option.toList_some, Option.toList_none, List.cons_append, List.nil_append, n_lit, n_m1, n_m2, n_m1lt, n_m1le, n_rem, n_div, n_out, n_cl, n_eq, n_le, n_lt, n_add, n_mul, n_sub, n_nle, n_yle, n_nlt, n_ylt, n_neN, z_lay, z_sz, z_str, z_stI, z_stL, z_stR, eq_self, ↓reduceIte, true_and, and_true, and_self, false_and, and_false, or_self, false_or, or_false, true_or, or_true, not_true_eq_false, not_false_eq_true, Nat.reduceLeDiff, Nat.reduceLT, Nat.reduceAdd, Nat.reduceEqDiff, Nat.reduceMul, Nat.reduceSub, Value.category, Nat.zero_le, beq_self_eq_true])
theorem xC_close {I : Nat → Nat → Int32} {L : Nat → Nat → Int64} {Z : zZ} {M i sz o t c u : Nat} {K W S : Nat → Nat} {s : Option (List (Nat × Nat) × Nat)} {P : List (Nat × Nat)} {d : Option Nat} (h : isMod Z M) (hS : tkS K W S sz) (hT : tokR I M K W S sz) (hO : okQ I M i) (hi : i < sz) (hk : K i = 41) (hx : xT I M (o + 1) (t + 1) c s P d) (ho : o ≤ 6) (ht : t + 3 < 60) (hu : u ≤ 840) (hc : c + (s1 s).length + P.length + 2 ≤ u) (hv : vS I M t) (hct : c + (sJoin s (P ++ pdL d)).length + t ≤ u) : (i < 400 → ∃ J, fC M (I, L, Z) = fC M (J, L, Z) ∧ okQ J M (i + 1) ∧ J M 12 = nI o ∧ J M 42 = nI t ∧ J M 38 = nI (c + (sJoin s (P ++ pdL d)).length) ∧ segR J M c (sJoin s (P ++ pdL d)) ∧ frm (pX M u c t) I J) ∧ (400 ≤ i → ∃ J, fC M (I, L, Z) = some (none, (J, L, Z)) ∧ flQ J M S 2 i ∧ frm (pX M u c t) I J) := by
  have sz4 := hS.2.1
  have h12 := hx.1
  have i7 := r_isY (L := L) h hS hT hO hi (show 41 < 64 by decide) (show rk 41 = 7 from rfl) (by decide)
  rw [if_pos hk] at i7
  obtain ⟨J1, r1, r2, r3, r4, r5⟩ := r_outF (L := L) h hx (by omega) hu hc
  have e12 : z_up J1 M 42 (nI t) M 12 = nI (o + 1) := by rw [zup_ne (by omega), r5 _ _ (by unfold pO; omega)]; exact h12
  have f2 : frm (pX M u c t) I (z_up (z_up J1 M 42 (nI t)) M 12 (nI o)) := ((r5.weak fun a k => pO_X (by omega)).up (by unfold pX; omega)).up (by unfold pX; omega)
  have g12 : z_up (z_up J1 M 42 (nI t)) M 12 (nI o) M 12 = nI o := zup_at
  have g42 : z_up (z_up J1 M 42 (nI t)) M 12 (nI o) M 42 = nI t := by rw [zup_ne (by omega), zup_at]
  have g38 : z_up (z_up J1 M 42 (nI t)) M 12 (nI o) M 38 = nI (c + (sJoin s (P ++ pdL d)).length) := by rw [zup_ne (by omega), zup_ne (by omega)]; exact r3
  have gO : okQ (z_up (z_up J1 M 42 (nI t)) M 12 (nI o)) M i := by
    have := hO.kept r5 (by unfold pO; omega) (by unfold pO; omega)
    exact ⟨by rw [zup_ne (by omega), zup_ne (by omega)]; exact this.1, by rw [zup_ne (by omega), zup_ne (by omega)]; exact this.2⟩
  have gs : segR (z_up (z_up J1 M 42 (nI t)) M 12 (nI o)) M c (sJoin s (P ++ pdL d)) := seg_frm r4 (fr_M (fr_M (frm.refl _ _))) (fun k _ => by unfold pM; omega)
  have st : ∀ J3, fX12_goesOn [.ref M] (z_up (z_up J1 M 42 (nI t)) M 12 (nI o), L, Z) = some (none, (J3, L, Z)) → fC M (I, L, Z) = fC M (J3, L, Z) := fun J3 e => fC_step (by simp (disch := omega) only [bX12_expression_96, h.1, i7, h12, r1, r2, e12, e, Nat.add_sub_cancel, e_push, e_pushl, e_iload, e_lload, e_aload, e_istore, e_astore, e_lstore, e_iinc, e_iadd, e_isub, e_imul, e_iand, e_ior, e_ixor, e_ishl, e_ishr, e_iushr, e_idiv, e_irem, e_ladd, e_lsub, e_lmul, e_lcmp, e_mmax, e_mmin, e_i2l, e_l2i, e_i2b, e_i2c, e_dup, e_dup2, e_pop, e_icmp_eq, e_icmp_ne, e_icmp_lt, e_icmp_ge, e_icmp_gt, e_icmp_le, e_if_eq, e_if_ne, e_if_lt, e_if_ge, e_if_gt, e_if_le, e_getI, e_getR, e_putI, e_putZ, e_putR, e_iald, e_bald, e_zald, e_lald, e_aald, e_alen, e_iast, e_bast, e_zast, e_last, e_aast, e_iret, e_zret, e_lret, e_vret, e_obj, e_callV, e_callS, e_callT, e_acpy, e_ldcS, e_dn, e_ag, z_pop, List.getElem?_cons_zero, List.getElem?_cons_succ, List.set_cons_zero, List.set_cons_succ, List.length_cons, List.length_nil, z_nol, Option.map_some, Option.toList_some, Option.toList_none, List.cons_append, List.nil_append, n_lit, n_m1, n_m2, n_m1lt, n_m1le, n_rem, n_div, n_out, n_cl, n_eq, n_le, n_lt, n_add, n_mul, n_sub, n_nle, n_yle, n_nlt, n_ylt, n_neN, z_lay, z_sz, z_str, z_stI, z_stL, z_stR, eq_self, ↓reduceIte, true_and, and_true, and_self, false_and, and_false, or_self, false_or, or_false, true_or, or_true, not_true_eq_false, not_false_eq_true, Nat.reduceLeDiff, Nat.reduceLT, Nat.reduceAdd, Nat.reduceEqDiff, Nat.reduceMul, Nat.reduceSub, Value.category, Nat.zero_le, beq_self_eq_true])
  generalize z_up (z_up J1 M 42 (nI t)) M 12 (nI o) = J2 at f2 g12 g42 g38 gO gs st
  have t2 := hT.kept f2 pX_t
  constructor
  · intro g
    have e := r_goesY (L := L) h gO g
    refine ⟨_, st _ e, ⟨by rw [zup_ne (by omega)]; exact gO.1, zup_at⟩, by rw [zup_ne (by omega)]; exact g12, by rw [zup_ne (by omega)]; exact g42, by rw [zup_ne (by omega)]; exact g38, seg_frm gs (fr_M (frm.refl _ _)) (fun k _ => by unfold pM; omega), f2.up (by unfold pX; omega)⟩
  · intro g
    have e := r_goesN (L := L) h hS t2 gO hi (by omega)
    have fl := fl_fail (S := S) gO (show i ≤ 400 by omega) (show 2 ≠ 0 by decide) (by decide)
    have ff : frm (pP M) J2 (z_up (z_up J2 M 13 (nI 2)) M 14 (nI (S i))) := fr_fail
    have st := st _ e
    generalize z_up (z_up J2 M 13 (nI 2)) M 14 (nI (S i)) = J3 at st fl ff
    obtain ⟨J, q1, q2, q3⟩ := xC_fl (I := J3) (L := L) h fl (by rw [ff _ _ (by unfold pP; omega)]; exact g12) (by omega) (by rw [ff _ _ (by unfold pP; omega)]; exact g42) (by omega) (by rw [ff _ _ (by unfold pP; omega)]; exact g38) hu hct ((hv.kept f2 (Nat.le_refl _) (fun k hk => by unfold pX; omega)).kept ff (Nat.le_refl _) (fun k hk => by unfold pP; omega))
    exact ⟨J, st.trans q1, q2, (f2.trans (ff.weak fun a k => pP_X)).trans (q3.weak fun a k => pO_X (by omega))⟩
theorem sOp_R : ∀ k, k < 64 → sOp k ≠ 0 → rk k = opR (sOp k) ∧ (sOp k = 2 ∨ sOp k = 3 ∨ sOp k = 4 ∨ sOp k = 5) ∧ (sOp k = 2 ↔ k = 43) ∧ (sOp k = 3 ↔ k = 45) ∧ (sOp k = 4 ↔ k = 42) ∧ (sOp k = 5 ↔ k = 47) := by decide +kernel
/-- a sign, and on -/
theorem xC_op {I : Nat → Nat → Int32} {L : Nat → Nat → Int64} {Z : zZ} {M i sz t sd : Nat} {K W S : Nat → Nat} {J1 : Nat → Nat → Int32} (h : isMod Z M) (hS : tkS K W S sz) (hT : tokR I M K W S sz) (hO : okQ I M i) (hi : i < sz) (hk : sOp (K i) ≠ 0) (hsd : sd = if 4 ≤ sOp (K i) then 1 else 0) (hco : fX12_comesOut [.ref M, .int (nI sd)] (I, L, Z) = some (none, (J1, L, Z))) (hT1 : tokR J1 M K W S sz) (hO1 : okQ J1 M i) (h42 : J1 M 42 = nI t) (ht : t < 60) : (i < 400 → fC M (I, L, Z) = fA M (z_up (z_up (z_up J1 (M + 26) t (nI (opR (sOp (K i))))) M 42 (nI (t + 1))) M 11 (nI (i + 1)), L, Z)) ∧ (400 ≤ i → fC M (I, L, Z) = some (none, (z_up (z_up (z_up (z_up J1 (M + 26) t (nI (opR (sOp (K i))))) M 42 (nI (t + 1))) M 13 (nI 2)) M 14 (nI (S i)), L, Z))) := by
  have sz4 := hS.2.1
  obtain ⟨p1, p2, p3, p4, p5, p6⟩ := sOp_R (K i) (hS.1 i) hk
  have i7 := r_isY (L := L) h hS hT hO hi (show 41 < 64 by decide) (show rk 41 = 7 from rfl) (by decide)
  have i8 := r_isY (L := L) h hS hT hO hi (show 43 < 64 by decide) (show rk 43 = 8 from rfl) (by decide)
  have i9 := r_isY (L := L) h hS hT hO hi (show 45 < 64 by decide) (show rk 45 = 9 from rfl) (by decide)
  have i10 := r_isY (L := L) h hS hT hO hi (show 42 < 64 by decide) (show rk 42 = 10 from rfl) (by decide)
  have i15 := r_isY (L := L) h hS hT hO hi (show 47 < 64 by decide) (show rk 47 = 15 from rfl) (by decide)
  have k41 : K i ≠ 41 := fun z => by rw [z] at hk; exact hk rfl
  rw [if_neg k41] at i7
  have t3 := (hT1 i hi).1
  rw [p1] at t3
  have o11 := hO1.2
  have e42 : z_up J1 (M + 26) t (nI (opR (sOp (K i)))) M 42 = nI t := by rw [zup_off (by omega)]; exact h42
  have gO : okQ (z_up (z_up J1 (M + 26) t (nI (opR (sOp (K i))))) M 42 (nI (t + 1))) M i := ⟨by rw [zup_ne (by omega), zup_off (by omega)]; exact hO1.1, by rw [zup_ne (by omega), zup_off (by omega)]; exact hO1.2⟩
  have gT : tokR (z_up (z_up J1 (M + 26) t (nI (opR (sOp (K i))))) M 42 (nI (t + 1))) M K W S sz := hT1.kept (P := fun a k => a = M + 26 ∨ a = M) (((frm.refl _ _).up (Or.inl rfl)).up (Or.inr rfl)) (fun a k z => by omega)
  have st : ∀ J3, fX12_goesOn [.ref M] (z_up (z_up J1 (M + 26) t (nI (opR (sOp (K i))))) M 42 (nI (t + 1)), L, Z) = some (none, (J3, L, Z)) → fC M (I, L, Z) = q_lp bX12_expression_12 [some (Value.ref (M)), some (Value.int (nI (0))), some (Value.int (nI (1)))] [] (J3, L, Z) := by
    intro J3 e
    refine (fC_of (X := .inl ([some (Value.ref (M)), some (Value.int (nI (0))), some (Value.int (nI (1)))], (J3, L, Z))) ?_).trans rfl
    generalize opR (sOp (K i)) = x at t3 e42 e
    rcases p2 with g | g | g | g
    · rw [if_pos (p3.mp g)] at i8
      rw [if_neg (by rw [p3.mp g]; decide)] at i9 i10 i15
      rw [g] at hsd
      have hsd : sd = 0 := hsd
      rw [hsd] at hco
      simp (disch := omega) only [bX12_expression_96, kX12_expression_145, kX12_expression_181, kX12_expression_186, kX12_expression_229, kX12_expression_234, h.1, mr_waits h, ml_waits h, mr_tKind h, ml_tKind h, i7, i8, i9, i10, i15, hco, h42, o11, t3, e42, e, e_push, e_pushl, e_iload, e_lload, e_aload, e_istore, e_astore, e_lstore, e_iinc, e_iadd, e_isub, e_imul, e_iand, e_ior, e_ixor, e_ishl, e_ishr, e_iushr, e_idiv, e_irem, e_ladd, e_lsub, e_lmul, e_lcmp, e_mmax, e_mmin, e_i2l, e_l2i, e_i2b, e_i2c, e_dup, e_dup2, e_pop, e_icmp_eq, e_icmp_ne, e_icmp_lt, e_icmp_ge, e_icmp_gt, e_icmp_le, e_if_eq, e_if_ne, e_if_lt, e_if_ge, e_if_gt, e_if_le, e_getI, e_getR, e_putI, e_putZ, e_putR, e_iald, e_bald, e_zald, e_lald, e_aald, e_alen, e_iast, e_bast, e_zast, e_last, e_aast, e_iret, e_zret, e_lret, e_vret, e_obj, e_callV, e_callS, e_callT, e_acpy, e_ldcS, e_dn, e_ag, z_pop, List.getElem?_cons_zero, List.getElem?_cons_succ, List.set_cons_zero, List.set_cons_succ, List.length_cons, List.length_nil, z_nol, Option.map_some, Option.toList_some, Option.toList_none, List.cons_append, List.nil_append, n_lit, n_m1, n_m2, n_m1lt, n_m1le, n_rem, n_div, n_out, n_cl, n_eq, n_le, n_lt, n_add, n_mul, n_sub, n_nle, n_yle, n_nlt, n_ylt, n_neN, z_lay, z_sz, z_str, z_stI, z_stL, z_stR, eq_self, ↓reduceIte, true_and, and_true, and_self, false_and, and_false, or_self, false_or, or_false, true_or, or_true, not_true_eq_false, not_false_eq_true, Nat.reduceLeDiff, Nat.reduceLT, Nat.reduceAdd, Nat.reduceEqDiff, Nat.reduceMul, Nat.reduceSub, Value.category, Nat.zero_le, beq_self_eq_true]
    · rw [if_pos (p4.mp g)] at i9
      rw [if_neg (by rw [p4.mp g]; decide)] at i8 i10 i15
      rw [g] at hsd
      have hsd : sd = 0 := hsd
      rw [hsd] at hco
      simp (disch := omega) only [bX12_expression_96, kX12_expression_145, kX12_expression_181, kX12_expression_186, kX12_expression_229, kX12_expression_234, h.1, mr_waits h, ml_waits h, mr_tKind h, ml_tKind h, i7, i8, i9, i10, i15, hco, h42, o11, t3, e42, e, e_push, e_pushl, e_iload, e_lload, e_aload, e_istore, e_astore, e_lstore, e_iinc, e_iadd, e_isub, e_imul, e_iand, e_ior, e_ixor, e_ishl, e_ishr, e_iushr, e_idiv, e_irem, e_ladd, e_lsub, e_lmul, e_lcmp, e_mmax, e_mmin, e_i2l, e_l2i, e_i2b, e_i2c, e_dup, e_dup2, e_pop, e_icmp_eq, e_icmp_ne, e_icmp_lt, e_icmp_ge, e_icmp_gt, e_icmp_le, e_if_eq, e_if_ne, e_if_lt, e_if_ge, e_if_gt, e_if_le, e_getI, e_getR, e_putI, e_putZ, e_putR, e_iald, e_bald, e_zald, e_lald, e_aald, e_alen, e_iast, e_bast, e_zast, e_last, e_aast, e_iret, e_zret, e_lret, e_vret, e_obj, e_callV, e_callS, e_callT, e_acpy, e_ldcS, e_dn, e_ag, z_pop, List.getElem?_cons_zero, List.getElem?_cons_succ, List.set_cons_zero, List.set_cons_succ, List.length_cons, List.length_nil, z_nol, Option.map_some, Option.toList_some, Option.toList_none, List.cons_append, List.nil_append, n_lit, n_m1, n_m2, n_m1lt, n_m1le, n_rem, n_div, n_out, n_cl, n_eq, n_le, n_lt, n_add, n_mul, n_sub, n_nle, n_yle, n_nlt, n_ylt, n_neN, z_lay, z_sz, z_str, z_stI, z_stL, z_stR, eq_self, ↓reduceIte, true_and, and_true, and_self, false_and, and_false, or_self, false_or, or_false, true_or, or_true, not_true_eq_false, not_false_eq_true, Nat.reduceLeDiff, Nat.reduceLT, Nat.reduceAdd, Nat.reduceEqDiff, Nat.reduceMul, Nat.reduceSub, Value.category, Nat.zero_le, beq_self_eq_true]
    · rw [if_pos (p5.mp g)] at i10
      rw [if_neg (by rw [p5.mp g]; decide)] at i8 i9 i15
      rw [g] at hsd
      have hsd : sd = 1 := hsd
      rw [hsd] at hco
      simp (disch := omega) only [bX12_expression_96, kX12_expression_145, kX12_expression_181, kX12_expression_186, kX12_expression_229, kX12_expression_234, h.1, mr_waits h, ml_waits h, mr_tKind h, ml_tKind h, i7, i8, i9, i10, i15, hco, h42, o11, t3, e42, e, e_push, e_pushl, e_iload, e_lload, e_aload, e_istore, e_astore, e_lstore, e_iinc, e_iadd, e_isub, e_imul, e_iand, e_ior, e_ixor, e_ishl, e_ishr, e_iushr, e_idiv, e_irem, e_ladd, e_lsub, e_lmul, e_lcmp, e_mmax, e_mmin, e_i2l, e_l2i, e_i2b, e_i2c, e_dup, e_dup2, e_pop, e_icmp_eq, e_icmp_ne, e_icmp_lt, e_icmp_ge, e_icmp_gt, e_icmp_le, e_if_eq, e_if_ne, e_if_lt, e_if_ge, e_if_gt, e_if_le, e_getI, e_getR, e_putI, e_putZ, e_putR, e_iald, e_bald, e_zald, e_lald, e_aald, e_alen, e_iast, e_bast, e_zast, e_last, e_aast, e_iret, e_zret, e_lret, e_vret, e_obj, e_callV, e_callS, e_callT, e_acpy, e_ldcS, e_dn, e_ag, z_pop, List.getElem?_cons_zero, List.getElem?_cons_succ, List.set_cons_zero, List.set_cons_succ, List.length_cons, List.length_nil, z_nol, Option.map_some, Option.toList_some, Option.toList_none, List.cons_append, List.nil_append, n_lit, n_m1, n_m2, n_m1lt, n_m1le, n_rem, n_div, n_out, n_cl, n_eq, n_le, n_lt, n_add, n_mul, n_sub, n_nle, n_yle, n_nlt, n_ylt, n_neN, z_lay, z_sz, z_str, z_stI, z_stL, z_stR, eq_self, ↓reduceIte, true_and, and_true, and_self, false_and, and_false, or_self, false_or, or_false, true_or, or_true, not_true_eq_false, not_false_eq_true, Nat.reduceLeDiff, Nat.reduceLT, Nat.reduceAdd, Nat.reduceEqDiff, Nat.reduceMul, Nat.reduceSub, Value.category, Nat.zero_le, beq_self_eq_true]
    · rw [if_pos (p6.mp g)] at i15
      rw [if_neg (by rw [p6.mp g]; decide)] at i8 i9 i10
      rw [g] at hsd
      have hsd : sd = 1 := hsd
      rw [hsd] at hco
      simp (disch := omega) only [bX12_expression_96, kX12_expression_145, kX12_expression_181, kX12_expression_186, kX12_expression_229, kX12_expression_234, h.1, mr_waits h, ml_waits h, mr_tKind h, ml_tKind h, i7, i8, i9, i10, i15, hco, h42, o11, t3, e42, e, e_push, e_pushl, e_iload, e_lload, e_aload, e_istore, e_astore, e_lstore, e_iinc, e_iadd, e_isub, e_imul, e_iand, e_ior, e_ixor, e_ishl, e_ishr, e_iushr, e_idiv, e_irem, e_ladd, e_lsub, e_lmul, e_lcmp, e_mmax, e_mmin, e_i2l, e_l2i, e_i2b, e_i2c, e_dup, e_dup2, e_pop, e_icmp_eq, e_icmp_ne, e_icmp_lt, e_icmp_ge, e_icmp_gt, e_icmp_le, e_if_eq, e_if_ne, e_if_lt, e_if_ge, e_if_gt, e_if_le, e_getI, e_getR, e_putI, e_putZ, e_putR, e_iald, e_bald, e_zald, e_lald, e_aald, e_alen, e_iast, e_bast, e_zast, e_last, e_aast, e_iret, e_zret, e_lret, e_vret, e_obj, e_callV, e_callS, e_callT, e_acpy, e_ldcS, e_dn, e_ag, z_pop, List.getElem?_cons_zero, List.getElem?_cons_succ, List.set_cons_zero, List.set_cons_succ, List.length_cons, List.length_nil, z_nol, Option.map_some, Option.toList_some, Option.toList_none, List.cons_append, List.nil_append, n_lit, n_m1, n_m2, n_m1lt, n_m1le, n_rem, n_div, n_out, n_cl, n_eq, n_le, n_lt, n_add, n_mul, n_sub, n_nle, n_yle, n_nlt, n_ylt, n_neN, z_lay, z_sz, z_str, z_stI, z_stL, z_stR, eq_self, ↓reduceIte, true_and, and_true, and_self, false_and, and_false, or_self, false_or, or_false, true_or, or_true, not_true_eq_false, not_false_eq_true, Nat.reduceLeDiff, Nat.reduceLT, Nat.reduceAdd, Nat.reduceEqDiff, Nat.reduceMul, Nat.reduceSub, Value.category, Nat.zero_le, beq_self_eq_true]
  constructor
  · intro g
    have e := r_goesY (L := L) h gO g
    exact (st _ e).trans (x12_ok h (i := i + 1) ⟨by rw [zup_ne (by omega)]; exact gO.1, zup_at⟩)
  · intro g
    have e := r_goesN (L := L) h hS gT gO hi (by omega)
    exact (st _ e).trans (x12_fl h (fl_fail (S := S) gO (show i ≤ 400 by omega) (show 2 ≠ 0 by decide) (by decide)))
