/-! read: the reference's terms -/
def pLw (M u c v b a k : Nat) : Prop := (a = M ∧ (k = 11 ∨ k = 12 ∨ k = 13 ∨ k = 14 ∨ k = 38 ∨ k = 42 ∨ k = 32)) ∨ a = M + 26 ∨ ((a = M + 24 ∨ a = M + 25) ∧ c ≤ k ∧ k < u) ∨ (M + 19 ≤ a ∧ a ≤ M + 23 ∧ b ≤ k ∧ k < v)
theorem pX_L {M u c t v b a k : Nat} (h : pX M u c t a k) : pLw M u c v b a k := by unfold pX at h; unfold pLw; omega
theorem pP_L {M u c v b a k : Nat} (h : pP M a k) : pLw M u c v b a k := by unfold pP at h; unfold pLw; omega
theorem pL_L {M u c d v b e a k : Nat} (hd : c ≤ d) (hb : b ≤ e) (h : pLw M u d v e a k) : pLw M u c v b a k := by unfold pLw at h ⊢; omega
theorem pL_t {M u c v b : Nat} : ∀ a k, pLw M u c v b a k → a ≠ M + 3 ∧ a ≠ M + 4 ∧ a ≠ M + 5 := fun a k h => by unfold pLw at h; omega
def lq (J : Nat → Nat → Int32) (M : Nat) (S : Nat → Nat) (q : Nat × Nat) (c b : Nat) : Prop := J M 32 = nI b ∧ (q.1 = 0 → okQ J M q.2 ∧ J M 12 = nI 0 ∧ J M 38 = nI c) ∧ (q.1 ≠ 0 → flQ J M S q.1 q.2)
theorem lq.pq {J : Nat → Nat → Int32} {M c b : Nat} {S : Nat → Nat} {q : Nat × Nat} (h : lq J M S q c b) : pqs J M S q := ⟨fun z => (h.2.1 z).1, h.2.2⟩
theorem lq.step {I J : Nat → Nat → Int32} {M c b : Nat} {S : Nat → Nat} {q p : Nat × Nat} (h : lq I M S q c b) (hp : pqs J M S p) (hf : frm (pP M) I J) (h0 : p.1 = 0 → q.1 = 0) : lq J M S p c b := ⟨by rw [hf _ _ (by unfold pP; omega)]; exact h.1, fun z => ⟨hp.1 z, by rw [hf _ _ (by unfold pP; omega)]; exact (h.2.1 (h0 z)).2.1, by rw [hf _ _ (by unfold pP; omega)]; exact (h.2.1 (h0 z)).2.2⟩, hp.2⟩
theorem thn_0of {q : Nat × Nat} {g : Nat → Nat × Nat} (h : (thn q g).1 = 0) : q.1 = 0 := (thn_ok h).1
theorem e_sp {K W S : Nat → Nat} {sz i : Nat} (hS : tkS K W S sz) (hi : i < sz) : (sE K W i).1 < 3 ∧ i ≤ (sE K W i).2.1 ∧ (sE K W i).2.1 ≤ 400 ∧ (sE K W i).2.1 < sz := ex_sp (m := 6) hS hi
theorem r_term {I : Nat → Nat → Int32} {L : Nat → Nat → Int64} {Z : zZ} {M sz lim u v c b : Nat} {K W S : Nat → Nat} {q : Nat × Nat} (h : isMod Z M) (hS : tkS K W S sz) (hl : lim + 420 ≤ u) (hu : u ≤ 840) (hv : v ≤ 260) (hT : tokR I M K W S sz) (hq : lq I M S q c b) (hi : q.2 < sz) (hc : q.1 = 0 → c ≤ lim + q.2) (hb : b < v) : ∃ J, fX12_term [.ref M] (I, L, Z) = some (none, (J, L, Z)) ∧ lq J M S (thn q (xe2 K)) (c + (sE K W q.2).2.2.length) (b + 1) ∧ ((thn q (xe2 K)).1 = 0 → J (M + 22) b = nI c ∧ J (M + 23) b = nI (c + (sE K W q.2).2.2.length) ∧ segR J M c (sE K W q.2).2.2) ∧ frm (pLw M u c v b) I J ∧ (∀ a, a = M + 19 ∨ a = M + 20 ∨ a = M + 21 → J a = I a) := by
  obtain ⟨q1, q2, q3⟩ := hq
  have p22 : ∀ J : Nat → Nat → Int32, fX12_term [.ref M] (I, L, Z) = some (none, (J, L, Z)) ↔ kX12_term_0 [some (Value.ref (M))] [] (I, L, Z) = some (none, (J, L, Z)) := fun J => Iff.rfl
  by_cases g : q.1 = 0
  · obtain ⟨o, o12, o38⟩ := q2 g
    rw [thn_yes g, ← pr_e (W := W)]
    have f1 : frm (pLw M u c v b) I (z_up I (M + 22) b (nI c)) := (frm.refl _ _).up (by unfold pLw; omega)
    have w13 : z_up I (M + 22) b (nI c) M 13 = nI 0 := by rw [zup_off (by omega)]; exact o.1
    have w32 : z_up I (M + 22) b (nI c) M 32 = nI b := by rw [zup_off (by omega)]; exact q1
    have wt : z_up I (M + 22) b (nI c) (M + 22) b = nI c := zup_at
    have wa : ∀ a, a = M + 19 ∨ a = M + 20 ∨ a = M + 21 → z_up I (M + 22) b (nI c) a = I a := fun a ha => zup_off (by omega)
    have x := r_expr (I := z_up I (M + 22) b (nI c)) (L := L) (i := q.2) (c := c) h hS hl hu (hT.kept f1 pL_t) ⟨w13, by rw [zup_off (by omega)]; exact o.2⟩ hi (by rw [zup_off (by omega)]; exact o12) (by rw [zup_off (by omega)]; exact o38) (hc g)
    have st : ∀ (J2 : Nat → Nat → Int32) (y : Int32), fX12_expression [.ref M] (z_up I (M + 22) b (nI c), L, Z) = some (none, (J2, L, Z)) → J2 M 32 = nI b → J2 M 38 = y → fX12_term [.ref M] (I, L, Z) = some (none, (z_up (z_up J2 (M + 23) b y) M 32 (nI (b + 1)), L, Z)) := by
      intro J2 y e a b'
      have e3 : z_up J2 (M + 23) b y M 32 = nI b := by rw [zup_off (by omega)]; exact a
      rw [p22]
      simp (disch := omega) only [kX12_term_24, kX12_term_0, h.1, mr_testTo h, ml_testTo h, mr_termTo h, ml_termTo h, q1, o38, w13, e, a, b', e3, e_push, e_pushl, e_iload, e_lload, e_aload, e_istore, e_astore, e_lstore, e_iinc, e_iadd, e_isub, e_imul, e_iand, e_ior, e_ixor, e_ishl, e_ishr, e_iushr, e_idiv, e_irem, e_ladd, e_lsub, e_lmul, e_lcmp, e_mmax, e_mmin, e_i2l, e_l2i, e_i2b, e_i2c, e_dup, e_dup2, e_pop, e_icmp_eq, e_icmp_ne, e_icmp_lt, e_icmp_ge, e_icmp_gt, e_icmp_le, e_if_eq, e_if_ne, e_if_lt, e_if_ge, e_if_gt, e_if_le, e_getI, e_getR, e_putI, e_putZ, e_putR, e_iald, e_bald, e_zald, e_lald, e_aald, e_alen, e_iast, e_bast, e_zast, e_last, e_aast, e_iret, e_zret, e_lret, e_vret, e_obj, e_callV, e_callS, e_callT, e_acpy, e_ldcS, e_dn, e_ag, z_pop, List.getElem?_cons_zero, List.getElem?_cons_succ, List.set_cons_zero, List.set_cons_succ, List.length_cons, List.length_nil, z_nol, Option.map_some, Option.toList_some, Option.toList_none, List.cons_append, List.nil_append, n_lit, n_m1, n_m2, n_m1lt, n_m1le, n_rem, n_div, n_out, n_cl, n_eq, n_le, n_lt, n_add, n_mul, n_sub, n_nle, n_yle, n_nlt, n_ylt, n_neN, z_lay, z_sz, z_str, z_stI, z_stL, z_stR, eq_self, ↓reduceIte, true_and, and_true, and_self, false_and, and_false, or_self, false_or, or_false, true_or, or_true, not_true_eq_false, not_false_eq_true, Nat.reduceLeDiff, Nat.reduceLT, Nat.reduceAdd, Nat.reduceEqDiff, Nat.reduceMul, Nat.reduceSub, Value.category, Nat.zero_le, beq_self_eq_true]
    generalize z_up I (M + 22) b (nI c) = J1 at f1 w13 w32 wt wa x st
    by_cases ge : (sE K W q.2).1 = 0
    · obtain ⟨J2, j1, j2, j3, j4, j5, j6⟩ := x.1 ge
      have k32 : J2 M 32 = nI b := by rw [j6 _ _ (by unfold pX; omega)]; exact w32
      refine ⟨_, st J2 _ j1 k32 j4, ⟨zup_at, fun _ => ⟨⟨?_, ?_⟩, ?_, ?_⟩, fun z => absurd ge z⟩, fun _ => ⟨?_, ?_, ?_⟩, ((f1.trans (j6.weak fun a k => pX_L)).up (by unfold pLw; omega)).up (by unfold pLw; omega), fun a ha => ?_⟩
      · rw [zup_ne (by omega), zup_off (by omega)]; exact j2.1
      · rw [zup_ne (by omega), zup_off (by omega)]; exact j2.2
      · rw [zup_ne (by omega), zup_off (by omega)]; exact j3
      · rw [zup_ne (by omega), zup_off (by omega)]; exact j4
      · rw [zup_off (by omega), zup_off (by omega), j6 _ _ (by unfold pX; omega)]; exact wt
      · rw [zup_off (by omega), zup_at]
      · refine ⟨j5.1, fun k r hr => ?_⟩
        rw [zup_off (by omega), zup_off (by omega), zup_off (by omega), zup_off (by omega)]
        exact j5.2 k r hr
      · rw [zup_off (by omega), zup_off (by omega), ← wa a ha]
        funext k
        exact j6 _ _ (by unfold pX; omega)
    · obtain ⟨J2, j1, j2, j6⟩ := x.2 ge
      have k32 : J2 M 32 = nI b := by rw [j6 _ _ (by unfold pX; omega)]; exact w32
      refine ⟨_, st J2 _ j1 k32 rfl, ⟨zup_at, fun z => absurd z ge, fun _ => ?_⟩, fun z => absurd z ge, ((f1.trans (j6.weak fun a k => pX_L)).up (by unfold pLw; omega)).up (by unfold pLw; omega), fun a ha => ?_⟩
      · exact j2.kept (P := fun a k => a = M + 23 ∨ (a = M ∧ k = 32)) (((frm.refl _ _).up (Or.inl rfl)).up (Or.inr ⟨rfl, rfl⟩)) (by omega) (by omega) (by omega)
      · rw [zup_off (by omega), zup_off (by omega), ← wa a ha]
        funext k
        exact j6 _ _ (by unfold pX; omega)
  · have fl := q3 g
    rw [thn_no g]
    obtain ⟨f1, f2, f3, f4, t, f5, f6⟩ := id fl
    have w13 : z_up I (M + 22) b (I M 38) M 13 = nI q.1 := by rw [zup_off (by omega)]; exact f1
    have w32 : z_up I (M + 22) b (I M 38) M 32 = nI b := by rw [zup_off (by omega)]; exact q1
    have w38 : z_up I (M + 22) b (I M 38) M 38 = I M 38 := by rw [zup_off (by omega)]
    have e3 : z_up (z_up I (M + 22) b (I M 38)) (M + 23) b (I M 38) M 32 = nI b := by rw [zup_off (by omega)]; exact w32
    refine ⟨z_up (z_up (z_up I (M + 22) b (I M 38)) (M + 23) b (I M 38)) M 32 (nI (b + 1)), ?_, ⟨zup_at, fun z => absurd z g, fun _ => ?_⟩, fun z => absurd z g, (((frm.refl _ _).up (by unfold pLw; omega)).up (by unfold pLw; omega)).up (by unfold pLw; omega), fun a ha => ?_⟩
    · rw [p22]
      simp (disch := omega) only [kX12_term_24, kX12_term_0, h.1, mr_testTo h, ml_testTo h, mr_termTo h, ml_termTo h, q1, w13, f2, w32, w38, e3, e_push, e_pushl, e_iload, e_lload, e_aload, e_istore, e_astore, e_lstore, e_iinc, e_iadd, e_isub, e_imul, e_iand, e_ior, e_ixor, e_ishl, e_ishr, e_iushr, e_idiv, e_irem, e_ladd, e_lsub, e_lmul, e_lcmp, e_mmax, e_mmin, e_i2l, e_l2i, e_i2b, e_i2c, e_dup, e_dup2, e_pop, e_icmp_eq, e_icmp_ne, e_icmp_lt, e_icmp_ge, e_icmp_gt, e_icmp_le, e_if_eq, e_if_ne, e_if_lt, e_if_ge, e_if_gt, e_if_le, e_getI, e_getR, e_putI, e_putZ, e_putR, e_iald, e_bald, e_zald, e_lald, e_aald, e_alen, e_iast, e_bast, e_zast, e_last, e_aast, e_iret, e_zret, e_lret, e_vret, e_obj, e_callV, e_callS, e_callT, e_acpy, e_ldcS, e_dn, e_ag, z_pop, List.getElem?_cons_zero, List.getElem?_cons_succ, List.set_cons_zero, List.set_cons_succ, List.length_cons, List.length_nil, z_nol, Option.map_some, Option.toList_some, Option.toList_none, List.cons_append, List.nil_append, n_lit, n_m1, n_m2, n_m1lt, n_m1le, n_rem, n_div, n_out, n_cl, n_eq, n_le, n_lt, n_add, n_mul, n_sub, n_nle, n_yle, n_nlt, n_ylt, n_neN, z_lay, z_sz, z_str, z_stI, z_stL, z_stR, eq_self, ↓reduceIte, true_and, and_true, and_self, false_and, and_false, or_self, false_or, or_false, true_or, or_true, not_true_eq_false, not_false_eq_true, Nat.reduceLeDiff, Nat.reduceLT, Nat.reduceAdd, Nat.reduceEqDiff, Nat.reduceMul, Nat.reduceSub, Value.category, Nat.zero_le, beq_self_eq_true]
    · exact fl.kept (P := fun a k => a = M + 22 ∨ a = M + 23 ∨ (a = M ∧ k = 32)) ((((frm.refl _ _).up (Or.inl rfl)).up (Or.inr (Or.inl rfl))).up (Or.inr (Or.inr ⟨rfl, rfl⟩))) (by omega) (by omega) (by omega)
    · rw [zup_off (by omega), zup_off (by omega), zup_off (by omega)]
