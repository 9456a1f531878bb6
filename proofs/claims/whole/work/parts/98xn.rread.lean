/-! read: the reference reads -/
theorem nar_and (x : Int32) : vp_nar .byte x &&& nI 255 = x &&& nI 255 := by
  have e : vp_nar .byte x = x.toInt8.toInt32 := rfl
  rw [e]
  apply Int32.toBitVec_inj.mp
  show (x.toBitVec.signExtend 8).signExtend 32 &&& 255#32 = x.toBitVec &&& 255#32
  apply BitVec.eq_of_getLsbD_eq
  intro i hi
  rw [BitVec.getLsbD_and, BitVec.getLsbD_and]
  by_cases g : i < 8
  · rw [BitVec.getLsbD_signExtend, BitVec.getLsbD_signExtend]
    simp only [hi, g, decide_true, Bool.true_and, if_true]
  · have hn : ∀ i, i < 32 → ¬ i < 8 → (255#32).getLsbD i = false := by decide
    rw [hn i hi g, Bool.and_false, Bool.and_false]
def cpT (I J : Nat → Nat → Int32) (M m : Nat) : Nat → Nat → Int32 := fun a k => if a = M + 2 ∧ k < m then vp_nar .byte (I (M + 1) k) else J a k
theorem cpT_s {I J : Nat → Nat → Int32} {M m : Nat} : z_up (cpT I J M m) (M + 2) m (vp_nar .byte (I (M + 1) m)) = cpT I J M (m + 1) := funext fun b => funext fun j => by
  unfold z_up cpT
  by_cases g : b = M + 2 ∧ j = m
  · rw [if_pos g, if_pos ⟨g.1, by omega⟩, g.2]
  · rw [if_neg g]
    by_cases g2 : b = M + 2 ∧ j < m
    · rw [if_pos g2, if_pos ⟨g2.1, by omega⟩]
    · rw [if_neg g2, if_neg (by omega)]
theorem tkS_of {T : Nat → Nat} {n : Nat} (hn : n ≤ 2000) : tkS (kK T n) (kW T n) (lxS T n) (lxN T n) := ⟨fun i => kK_lt, (lxN_spec T n).2.1, kK_sz, fun i h1 h2 h3 => kK_next h1 h2 h3, kW_lt, fun i => Nat.le_trans (lxS_le T n i).2 hn, fun j i h1 h2 => kS_lt i h1 h2⟩
theorem tokR_of {J : Nat → Nat → Int32} {L : Nat → Nat → Int64} {M n : Nat} {T : Nat → Nat} (h : ∀ j, j < lxN T n → tkR J L M T n j) : tokR J M (kK T n) (kW T n) (lxS T n) (lxN T n) := fun i hi => by
  obtain ⟨a1, a2, a3, a4⟩ := h i hi
  rw [kK_yes hi]
  exact ⟨a1, a2, a3⟩
theorem namR_of {J : Nat → Nat → Int32} {L : Nat → Nat → Int64} {M n : Nat} {T : Nat → Nat} (h : ∀ j, j < lxN T n → tkR J L M T n j) : ∀ a d, a < lxN T n → d < lxN T n → kK T n a = 20 → kK T n d = 20 → (L (M + 6) a = L (M + 6) d ↔ kN T n a d) := by
  have go : ∀ x, x < lxN T n → kK T n x = 20 → L (M + 6) x = Int64.ofNat (num 27 (fun i => T (lxS T n x + i) - 96) (kL T n x)) := fun x hx hk => by
    rw [kK_yes hx] at hk
    exact (h x hx).2.2.2 hk
  intro a d ha hd ka kd
  rw [go a ha ka, go d hd kd, i64_inj (nam_lt (by decide) (by decide) ka) (nam_lt (by decide) (by decide) kd)]
  exact nam_inj (by decide) ka kd
def pRf (M sd a k : Nat) : Prop := pTl M sd a k ∨ (a = M ∧ (k = 2 ∨ k = 4 ∨ k = 10 ∨ k = 17 ∨ k = 19)) ∨ a = M + 2 ∨ a = M + 3 ∨ a = M + 4 ∨ a = M + 5
def pRg (M sd a k : Nat) : Prop := pRf M sd a k ∨ (a = M ∧ (k = 18 ∨ k = 48 ∨ k = 52 ∨ k = 66)) ∨ a = M + 29 ∨ a = M + 30 ∨ a = M + 48
/-- what the reference knows of a text that was taken -/
def rdR (J : Nat → Nat → Int32) (L : Nat → Nat → Int64) (M sd : Nat) (T : Nat → Nat) (n : Nat) (A : Nat → Nat) : Prop := J M 18 = nI sd ∧ J M 52 = nI 0 ∧ J M 66 = nI 0 ∧ (∀ s, s < 3 → J (M + 48) s = nI 0) ∧ J (M + 13) sd = nI (A 2) ∧ famR (J (M + 29)) (A 2) (fun r => A (30 + r)) (fun r i => A (50 + (r * 8 + i))) (nI 0) (nI 0) ∧ ∃ b c, b ≤ 130 * sd + 130 ∧ c ≤ 420 * sd + 420 ∧ rrA J L M sd (kK T n) (kW T n) b c A
theorem r_read0 {I : Nat → Nat → Int32} {L : Nat → Nat → Int64} {Z : zZ} {M n lv : Nat} {T : Nat → Nat} (h : isMod Z M) (hM : 200 ≤ M) (hK : wKey L (M - 200)) (hn : n ≤ 2000) (h2 : I M 2 = nI n) (hT : ∀ i, i < n → I (M + 1) i &&& nI 255 = nI (T i) ∧ T i < 256) (hlv : lv < 2) (h18 : I M 18 = nI lv) : ∃ J L', fX12_read [.ref M] (I, L, Z) = kX12_read_134 [some (Value.ref (M)), some (Value.int (nI (n)))] [] (J, L', Z) ∧ pqs J M (lxS T n) (rdQ T n) ∧ ((rdQ T n).1 = 0 → ∃ nch nrow b c, TI J L' M (lxS T n) (1 - lv) (kK T n) (kW T n) (rdQ T n).2 nch nrow b c (((rdM T n).1, (rdM T n).2.1), (rdM T n).2.2) ∧ ((rdM T n).1 = 0 → (rdM T n).2.2 2 = nrow)) ∧ tokR J M (kK T n) (kW T n) (lxS T n) (lxN T n) ∧ J M 2 = nI 0 ∧ J M 19 = nI (1 - lv) ∧ frm (pRf M (1 - lv)) I J ∧ ∀ a, a ≠ M + 6 → a ≠ M + 8 → L' a = L a := by
  have hS := tkS_of (T := T) hn
  have c0 : cpT I (z_up I M 4 (nI n)) M 0 = z_up I M 4 (nI n) := funext fun a => funext fun k => if_neg (by omega)
  have l1 : q_lp bX12_read_10 [some (Value.ref (M)), some (Value.int (nI (0)))] [] (z_up I M 4 (nI n), L, Z) = kX12_read_36 [some (Value.ref (M)), some (Value.int (nI (n)))] [] (cpT I (z_up I M 4 (nI n)) M n, L, Z) := by
    have key := lp_for (body := bX12_read_10) (fun k => [some (Value.ref (M)), some (Value.int (nI (k)))]) (fun k => (cpT I (z_up I M 4 (nI n)) M k, L, Z)) n (o := kX12_read_36 [some (Value.ref (M)), some (Value.int (nI (n)))] [] (cpT I (z_up I M 4 (nI n)) M n, L, Z)) (by
      have e4 : cpT I (z_up I M 4 (nI n)) M n M 4 = nI n := by
        have : cpT I (z_up I M 4 (nI n)) M n M 4 = z_up I M 4 (nI n) M 4 := if_neg (by omega)
        rw [this, zup_at]
      generalize cpT I (z_up I M 4 (nI n)) M n = J1 at e4 ⊢
      simp (disch := omega) only [bX12_read_10, h.1, e4, e_push, e_pushl, e_iload, e_lload, e_aload, e_istore, e_astore, e_lstore, e_iinc, e_iadd, e_isub, e_imul, e_iand, e_ior, e_ixor, e_ishl, e_ishr, e_iushr, e_idiv, e_irem, e_ladd, e_lsub, e_lmul, e_lcmp, e_mmax, e_mmin, e_i2l, e_l2i, e_i2b, e_i2c, e_dup, e_dup2, e_pop, e_icmp_eq, e_icmp_ne, e_icmp_lt, e_icmp_ge, e_icmp_gt, e_icmp_le, e_if_eq, e_if_ne, e_if_lt, e_if_ge, e_if_gt, e_if_le, e_getI, e_getR, e_putI, e_putZ, e_putR, e_iald, e_bald, e_zald, e_lald, e_aald, e_alen, e_iast, e_bast, e_zast, e_last, e_aast, e_iret, e_zret, e_lret, e_vret, e_obj, e_callV, e_callS, e_callT, e_acpy, e_ldcS, e_dn, e_ag, z_pop, List.getElem?_cons_zero, List.getElem?_cons_succ, List.set_cons_zero, List.set_cons_succ, List.length_cons, List.length_nil, z_nol, Option.map_some, Option.toList_some, Option.toList_none, List.cons_append, List.nil_append, n_lit, n_m1, n_m2, n_m1lt, n_m1le, n_rem, n_div, n_out, n_cl, n_eq, n_le, n_lt, n_add, n_mul, n_sub, n_nle, n_yle, n_nlt, n_ylt, n_neN, z_lay, z_sz, z_str, z_stI, z_stL, z_stR, eq_self, ↓reduceIte, true_and, and_true, and_self, false_and, and_false, or_self, false_or, or_false, true_or, or_true, not_true_eq_false, not_false_eq_true, Nat.reduceLeDiff, Nat.reduceLT, Nat.reduceAdd, Nat.reduceEqDiff, Nat.reduceMul, Nat.reduceSub, Value.category, Nat.zero_le, beq_self_eq_true]) (by
      intro k hk
      have e4 : cpT I (z_up I M 4 (nI n)) M k M 4 = nI n := by
        have : cpT I (z_up I M 4 (nI n)) M k M 4 = z_up I M 4 (nI n) M 4 := if_neg (by omega)
        rw [this, zup_at]
      have e1 : cpT I (z_up I M 4 (nI n)) M k (M + 1) k = I (M + 1) k := by
        have : cpT I (z_up I M 4 (nI n)) M k (M + 1) k = z_up I M 4 (nI n) (M + 1) k := if_neg (by omega)
        rw [this, zup_off (by omega)]
      rw [← cpT_s]
      generalize cpT I (z_up I M 4 (nI n)) M k = J1 at e4 e1 ⊢
      simp (disch := omega) only [bX12_read_10, h.1, mr_tape h, ml_tape h, mr_text h, ml_text h, e4, e1, e_push, e_pushl, e_iload, e_lload, e_aload, e_istore, e_astore, e_lstore, e_iinc, e_iadd, e_isub, e_imul, e_iand, e_ior, e_ixor, e_ishl, e_ishr, e_iushr, e_idiv, e_irem, e_ladd, e_lsub, e_lmul, e_lcmp, e_mmax, e_mmin, e_i2l, e_l2i, e_i2b, e_i2c, e_dup, e_dup2, e_pop, e_icmp_eq, e_icmp_ne, e_icmp_lt, e_icmp_ge, e_icmp_gt, e_icmp_le, e_if_eq, e_if_ne, e_if_lt, e_if_ge, e_if_gt, e_if_le, e_getI, e_getR, e_putI, e_putZ, e_putR, e_iald, e_bald, e_zald, e_lald, e_aald, e_alen, e_iast, e_bast, e_zast, e_last, e_aast, e_iret, e_zret, e_lret, e_vret, e_obj, e_callV, e_callS, e_callT, e_acpy, e_ldcS, e_dn, e_ag, z_pop, List.getElem?_cons_zero, List.getElem?_cons_succ, List.set_cons_zero, List.set_cons_succ, List.length_cons, List.length_nil, z_nol, Option.map_some, Option.toList_some, Option.toList_none, List.cons_append, List.nil_append, n_lit, n_m1, n_m2, n_m1lt, n_m1le, n_rem, n_div, n_out, n_cl, n_eq, n_le, n_lt, n_add, n_mul, n_sub, n_nle, n_yle, n_nlt, n_ylt, n_neN, z_lay, z_sz, z_str, z_stI, z_stL, z_stR, eq_self, ↓reduceIte, true_and, and_true, and_self, false_and, and_false, or_self, false_or, or_false, true_or, or_true, not_true_eq_false, not_false_eq_true, Nat.reduceLeDiff, Nat.reduceLT, Nat.reduceAdd, Nat.reduceEqDiff, Nat.reduceMul, Nat.reduceSub, Value.category, Nat.zero_le, beq_self_eq_true])
    simp only [c0] at key
    exact key
  have f2 : ∀ a k, a ≠ M + 2 → cpT I (z_up I M 4 (nI n)) M n a k = z_up I M 4 (nI n) a k := fun a k ha => if_neg (fun z => ha z.1)
  have t2 : tpR (z_up (cpT I (z_up I M 4 (nI n)) M n) M 2 (nI 0)) M T n := by
    refine ⟨hn, ?_, fun i hi => ?_⟩
    · rw [zup_ne (by omega), f2 _ _ (by omega), zup_at]
    · have e : z_up (cpT I (z_up I M 4 (nI n)) M n) M 2 (nI 0) (M + 2) i = vp_nar .byte (I (M + 1) i) := by
        rw [zup_off (by omega)]
        exact if_pos ⟨rfl, hi⟩
      rw [e, nar_and]
      exact hT i hi
  have fr2 : frm (pRf M (1 - lv)) I (z_up (cpT I (z_up I M 4 (nI n)) M n) M 2 (nI 0)) := by
    intro a k hn'
    unfold pRf at hn'
    have e : z_up (cpT I (z_up I M 4 (nI n)) M n) M 2 (nI 0) a k = cpT I (z_up I M 4 (nI n)) M n a k := if_neg (fun z => hn' (Or.inr (Or.inl ⟨z.1, by omega⟩)))
    rw [e, f2 _ _ (fun z => hn' (Or.inr (Or.inr (Or.inl z))))]
    exact if_neg (fun z => hn' (Or.inr (Or.inl ⟨z.1, by omega⟩)))
  have w18 : z_up (cpT I (z_up I M 4 (nI n)) M n) M 2 (nI 0) M 18 = nI lv := by rw [zup_ne (by omega), f2 _ _ (by omega), zup_ne (by omega)]; exact h18
  have w2 : z_up (cpT I (z_up I M 4 (nI n)) M n) M 2 (nI 0) M 2 = nI 0 := zup_at
  obtain ⟨J4, L4, b1, b2, b3, b4⟩ := r_cut (L := L) h hK hM t2
  have to36 : ∀ X : Option zR, kX12_read_36 [some (Value.ref (M)), some (Value.int (nI (n)))] [] (cpT I (z_up I M 4 (nI n)) M n, L, Z) = X → fX12_read [.ref M] (I, L, Z) = X := fun X e => by
    rw [e] at l1
    show kX12_read_0 [some (Value.ref (M)), none] [] (I, L, Z) = _
    simp (disch := omega) only [kX12_read_0, kX12_read_10, h.1, h2, l1, e_push, e_pushl, e_iload, e_lload, e_aload, e_istore, e_astore, e_lstore, e_iinc, e_iadd, e_isub, e_imul, e_iand, e_ior, e_ixor, e_ishl, e_ishr, e_iushr, e_idiv, e_irem, e_ladd, e_lsub, e_lmul, e_lcmp, e_mmax, e_mmin, e_i2l, e_l2i, e_i2b, e_i2c, e_dup, e_dup2, e_pop, e_icmp_eq, e_icmp_ne, e_icmp_lt, e_icmp_ge, e_icmp_gt, e_icmp_le, e_if_eq, e_if_ne, e_if_lt, e_if_ge, e_if_gt, e_if_le, e_getI, e_getR, e_putI, e_putZ, e_putR, e_iald, e_bald, e_zald, e_lald, e_aald, e_alen, e_iast, e_bast, e_zast, e_last, e_aast, e_iret, e_zret, e_lret, e_vret, e_obj, e_callV, e_callS, e_callT, e_acpy, e_ldcS, e_dn, e_ag, z_pop, List.getElem?_cons_zero, List.getElem?_cons_succ, List.set_cons_zero, List.set_cons_succ, List.length_cons, List.length_nil, z_nol, Option.map_some, Option.toList_some, Option.toList_none, List.cons_append, List.nil_append, n_lit, n_m1, n_m2, n_m1lt, n_m1le, n_rem, n_div, n_out, n_cl, n_eq, n_le, n_lt, n_add, n_mul, n_sub, n_nle, n_yle, n_nlt, n_ylt, n_neN, z_lay, z_sz, z_str, z_stI, z_stL, z_stR, eq_self, ↓reduceIte, true_and, and_true, and_self, false_and, and_false, or_self, false_or, or_false, true_or, or_true, not_true_eq_false, not_false_eq_true, Nat.reduceLeDiff, Nat.reduceLT, Nat.reduceAdd, Nat.reduceEqDiff, Nat.reduceMul, Nat.reduceSub, Value.category, Nat.zero_le, beq_self_eq_true]
  have fr4 : frm (pRf M (1 - lv)) (z_up (cpT I (z_up I M 4 (nI n)) M n) M 2 (nI 0)) J4 := by
    intro a k hn'
    unfold pRf at hn'
    by_cases g : a = M
    · rw [g]
      exact b2.2 k (fun z => hn' (Or.inr (Or.inl ⟨g, by omega⟩)))
    · rw [b2.1 a g (fun z => hn' (Or.inr (Or.inr (Or.inr (Or.inl z))))) (fun z => hn' (Or.inr (Or.inr (Or.inr (Or.inr (Or.inl z)))))) (fun z => hn' (Or.inr (Or.inr (Or.inr (Or.inr (Or.inr z))))))]
  have w18' : J4 M 18 = nI lv := by rw [b2.2 18 (by decide)]; exact w18
  have w2' : J4 M 2 = nI 0 := by rw [b2.2 2 (by decide)]; exact w2
  have fr0 := fr2.trans fr4
  -- the fields that begin anew
  have sb : nI 1 - nI lv = nI (1 - lv) := n_sub (by omega)
  have x19 : ∀ v : Int32, z_up (z_up (z_up (z_up (z_up (z_up J4 M 11 (nI 0)) M 12 (nI 0)) M 13 (nI 0)) M 15 (nI 0)) M 19 (nI (1 - lv))) M 20 v M 19 = nI (1 - lv) := fun v => by rw [zup_ne (by omega), zup_at]
  have x18 : z_up (z_up (z_up (z_up J4 M 11 (nI 0)) M 12 (nI 0)) M 13 (nI 0)) M 15 (nI 0) M 18 = nI lv := by rw [zup_ne (by omega), zup_ne (by omega), zup_ne (by omega), zup_ne (by omega)]; exact w18'
  obtain ⟨J7, p1, p2, p3, p4, p5, p6, p7, p8, p9⟩ := r_plain (I := z_up (z_up (z_up (z_up (z_up (z_up J4 M 11 (nI 0)) M 12 (nI 0)) M 13 (nI 0)) M 15 (nI 0)) M 19 (nI (1 - lv))) M 20 (nI 0)) (L := L4) (sd := 1 - lv) h (by omega)
  have y19 : J7 M 19 = nI (1 - lv) := by rw [p9 _ _ (by unfold pPl; omega)]; exact x19 _
  have y11 : J7 M 11 = nI 0 := by rw [p9 _ _ (by unfold pPl; omega), zup_ne (by omega), zup_ne (by omega), zup_ne (by omega), zup_ne (by omega), zup_ne (by omega), zup_at]
  have y12 : J7 M 12 = nI 0 := by rw [p9 _ _ (by unfold pPl; omega), zup_ne (by omega), zup_ne (by omega), zup_ne (by omega), zup_ne (by omega), zup_at]
  have y13 : J7 M 13 = nI 0 := by rw [p9 _ _ (by unfold pPl; omega), zup_ne (by omega), zup_ne (by omega), zup_ne (by omega), zup_at]
  have y15 : J7 M 15 = nI 0 := by rw [p9 _ _ (by unfold pPl; omega), zup_ne (by omega), zup_ne (by omega), zup_at]
  have y20 : J7 M 20 = nI 0 := by rw [p9 _ _ (by unfold pPl; omega), zup_at]
  have y2 : J7 M 2 = nI 0 := by rw [p9 _ _ (by unfold pPl; omega), zup_ne (by omega), zup_ne (by omega), zup_ne (by omega), zup_ne (by omega), zup_ne (by omega), zup_ne (by omega)]; exact w2'
  have u19 : z_up J7 M 32 (nI (130 * (1 - lv))) M 19 = nI (1 - lv) := by rw [zup_ne (by omega)]; exact y19
  have fr7 : frm (pRf M (1 - lv)) J4 J7 := by
    refine frm.trans (J := z_up (z_up (z_up (z_up (z_up (z_up J4 M 11 (nI 0)) M 12 (nI 0)) M 13 (nI 0)) M 15 (nI 0)) M 19 (nI (1 - lv))) M 20 (nI 0)) ?_ (p9.weak fun a k z => ?_)
    · exact ((((((frm.refl _ _).up (Or.inl (pT_M (by omega)))).up (Or.inl (pT_M (by omega)))).up (Or.inl (pT_M (by omega)))).up (Or.inl (pT_M (by omega)))).up (Or.inr (Or.inl ⟨rfl, by omega⟩))).up (Or.inl (pT_M (by omega)))
    · rcases z with ⟨z1, z2⟩ | ⟨z1, z2, z3⟩ | ⟨z1, z2, z3⟩
      · rw [z2]; exact Or.inl (pT_1 z1)
      · rw [z1]; exact Or.inl (pT_11 z2 z3)
      · exact Or.inl (pT_4 (Or.inr z1) z2 z3)
  have fr8 : frm (pRf M (1 - lv)) J7 (z_up (z_up J7 M 32 (nI (130 * (1 - lv)))) M 38 (nI (420 * (1 - lv)))) := ((frm.refl _ _).up (Or.inl (pT_M (by omega)))).up (Or.inl (pT_M (by omega)))
  have tk7 : tokR J7 M (kK T n) (kW T n) (lxS T n) (lxN T n) := fun i hi => by
    have e : ∀ a, a = M + 3 ∨ a = M + 4 ∨ a = M + 5 → J7 a = J4 a := fun a ha => funext fun k => by
      rw [p9 _ _ (by unfold pPl; omega), zup_off (by omega), zup_off (by omega), zup_off (by omega), zup_off (by omega), zup_off (by omega), zup_off (by omega)]
    rw [e _ (Or.inl rfl), e _ (Or.inr (Or.inl rfl)), e _ (Or.inr (Or.inr rfl))]
    exact tokR_of b4 i hi
  have tk8 : tokR (z_up (z_up J7 M 32 (nI (130 * (1 - lv)))) M 38 (nI (420 * (1 - lv)))) M (kK T n) (kW T n) (lxS T n) (lxN T n) := tk7.kept (P := pM M) (fr_M (fr_M (frm.refl _ _))) (fun a k z => by unfold pM at z; omega)
  have offM : ∀ a, a ≠ M → z_up (z_up J7 M 32 (nI (130 * (1 - lv)))) M 38 (nI (420 * (1 - lv))) a = J7 a := fun a ha => by rw [zup_off ha, zup_off ha]
  have ti : TI (z_up (z_up J7 M 32 (nI (130 * (1 - lv)))) M 38 (nI (420 * (1 - lv)))) L4 M (lxS T n) (1 - lv) (kK T n) (kW T n) 0 0 0 (130 * (1 - lv)) (420 * (1 - lv)) ((0, 0), mA0) := by
    refine ⟨⟨by rw [zup_ne (by omega), zup_ne (by omega)]; exact y13, by rw [zup_ne (by omega), zup_ne (by omega)]; exact y11⟩, ⟨by rw [zup_ne (by omega)]; exact u19, by omega, by rw [zup_ne (by omega), zup_ne (by omega)]; exact y12, by rw [offM _ (by omega)]; exact p3, by decide, by rw [offM _ (by omega)]; exact p6, by decide, by rw [zup_ne (by omega), zup_ne (by omega)]; exact y20, ⟨0, by decide, by rw [offM _ (by omega)]; exact p5⟩, by rw [zup_ne (by omega), zup_at], Nat.le_refl _, by omega, zup_at, Nat.le_refl _, by omega⟩, ⟨by rw [zup_ne (by omega), zup_ne (by omega)]; exact y15, by show 0 < 8; decide, fun z => absurd rfl z⟩, fun z => absurd rfl z, fun _ => ?_⟩
    show rrA _ L4 M (1 - lv) (kK T n) (kW T n) _ _ mA0
    refine ⟨by rw [offM _ (by omega)]; exact p2, by rw [offM _ (by omega)]; exact p5, by rw [offM _ (by omega)]; exact p7, fun k hk => ?_, fun r hr => ?_, fun r i hr hi => ?_, fun r hr => ?_, fun k hk => ?_⟩
    · rw [offM _ (by omega), mA0_0 (by omega)]; exact p4 k hk
    · rw [mA0_0 (by omega)] at hr
      exact absurd hr (Nat.not_lt_zero _)
    · rw [mA0_0 (by omega)] at hr
      exact absurd hr (Nat.not_lt_zero _)
    · rw [mA0_0 (by omega)] at hr
      exact absurd hr (Nat.not_lt_zero _)
    · rw [mA0_0 (by omega)]
      exact Or.inl ⟨rfl, by rw [offM _ (by omega)]; exact (p8 k hk).1, by rw [offM _ (by omega)]; exact (p8 k hk).2⟩
  obtain ⟨J9, L9, r1, r2, r3, r4, r5⟩ := r_tells (N := kN T n) (y := some (.int (nI n))) h hS 400 0 0 0 ((0, 0), mA0) _ L4 _ _ (by decide) tk8 (lxN_spec T n).1 ti (fun _ => mOK_0) (fun _ => ⟨rfl, fun o ho => absurd ho (Nat.not_lt_zero _), fun o ho => absurd ho (Nat.not_lt_zero _)⟩) (namR_of b4)
  have ef : fnl (kK T n) (kW T n) (kN T n) 400 0 0 0 ((0, 0), mA0) = (((rdM T n).1, (rdM T n).2.1), (rdM T n).2.2) := by
    rw [fnl_y rfl, rdM_def]
  rw [ef] at r3
  rw [← rdQ_def] at r2 r3
  dsimp only at r3
  refine ⟨J9, L9, to36 _ ?_, r2, r3, tk8.kept r4 pT_t, ?_, ?_, ((fr0.trans fr7).trans fr8).trans (r4.weak fun a k => Or.inl), fun a h1 h2' => ?_⟩
  · rw [← r1]
    generalize hX : q_lp bX12_read_112 = X
    have eX : kX12_read_112 = X := hX
    generalize cpT I (z_up I M 4 (nI n)) M n = I2 at b1 ⊢
    simp (disch := omega) only [kX12_read_36, eX, h.1, b1, x18, sb, x19, p1, y19, u19, e_push, e_pushl, e_iload, e_lload, e_aload, e_istore, e_astore, e_lstore, e_iinc, e_iadd, e_isub, e_imul, e_iand, e_ior, e_ixor, e_ishl, e_ishr, e_iushr, e_idiv, e_irem, e_ladd, e_lsub, e_lmul, e_lcmp, e_mmax, e_mmin, e_i2l, e_l2i, e_i2b, e_i2c, e_dup, e_dup2, e_pop, e_icmp_eq, e_icmp_ne, e_icmp_lt, e_icmp_ge, e_icmp_gt, e_icmp_le, e_if_eq, e_if_ne, e_if_lt, e_if_ge, e_if_gt, e_if_le, e_getI, e_getR, e_putI, e_putZ, e_putR, e_iald, e_bald, e_zald, e_lald, e_aald, e_alen, e_iast, e_bast, e_zast, e_last, e_aast, e_iret, e_zret, e_lret, e_vret, e_obj, e_callV, e_callS, e_callT, e_acpy, e_ldcS, e_dn, e_ag, z_pop, List.getElem?_cons_zero, List.getElem?_cons_succ, List.set_cons_zero, List.set_cons_succ, List.length_cons, List.length_nil, z_nol, Option.map_some, Option.toList_some, Option.toList_none, List.cons_append, List.nil_append, n_lit, n_m1, n_m2, n_m1lt, n_m1le, n_rem, n_div, n_out, n_cl, n_eq, n_le, n_lt, n_add, n_mul, n_sub, n_nle, n_yle, n_nlt, n_ylt, n_neN, z_lay, z_sz, z_str, z_stI, z_stL, z_stR, eq_self, ↓reduceIte, true_and, and_true, and_self, false_and, and_false, or_self, false_or, or_false, true_or, or_true, not_true_eq_false, not_false_eq_true, Nat.reduceLeDiff, Nat.reduceLT, Nat.reduceAdd, Nat.reduceEqDiff, Nat.reduceMul, Nat.reduceSub, Value.category, Nat.zero_le, beq_self_eq_true]
  · rw [r4 _ _ (pT_n (by decide)), zup_ne (by omega), zup_ne (by omega)]; exact y2
  · rw [r4 _ _ (pT_n (by decide)), zup_ne (by omega)]; exact u19
  · rw [r5 a h2', b3 a h1]
