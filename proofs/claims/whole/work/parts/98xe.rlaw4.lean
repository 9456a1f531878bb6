/-! read: the reference's laws, whole -/
def pL2 (M u c v b x a k : Nat) : Prop := pLw M u c v b a k ∨ ((a = M + 17 ∨ a = M + 18) ∧ k = x)
theorem pL2_L {M u c v b x a k : Nat} (h : pLw M u c v b a k) : pL2 M u c v b x a k := Or.inl h
theorem pL2_L2 {M u c d v b e x a k : Nat} (hd : c ≤ d) (hb : b ≤ e) (h : pL2 M u d v e x a k) : pL2 M u c v b x a k := h.elim (fun z => Or.inl (pL_L hd hb z)) Or.inr
/-- what a law leaves: its branches from b on, its code from c on -/
def lawP (I J : Nat → Nat → Int32) (M : Nat) (S : Nat → Nat) (lim u v c b x ff : Nat) (q : Nat × Nat) (bs : List sB) : Prop := pqs J M S q ∧ (q.1 = 0 → J M 12 = nI 0 ∧ J M 32 = nI (b + bs.length) ∧ (∃ d, c ≤ d ∧ d ≤ lim + q.2 ∧ J M 38 = nI d ∧ ∀ y r, bs[y]? = some r → brW J M (b + y) r c d) ∧ J (M + 17) x = nI ff ∧ J (M + 18) x = nI (b + bs.length)) ∧ frm (pL2 M u c v b x) I J
theorem r_129 {I : Nat → Nat → Int32} {L : Nat → Nat → Int64} {Z : zZ} {M sz lim u v c b sd kk ff : Nat} {K W S : Nat → Nat} {q : Nat × Nat} {y3 : Option Value} (h : isMod Z M) (hS : tkS K W S sz) (hl : lim + 420 ≤ u) (hu : u ≤ 840) (hv : v ≤ 260) (hT : tokR I M K W S sz) (hq : lq I M S q c b) (hi : q.2 < sz) (hc : q.1 = 0 → c ≤ lim + q.2) (hb : b < v) (h19 : I M 19 = nI sd) (hsd : sd < 2) (hk : kk < 4) : ∃ J, kX12_tellLaw_129 [some (.ref M), some (.int (nI kk)), some (.int (nI ff)), y3] [] (I, L, Z) = some (none, (J, L, Z)) ∧ lawP I J M S lim u v c b (4 * sd + kk) ff (thn (thn q (xe2 K)) (must2 K 59)) [(none, (sE K W q.2).2.2)] := by
  have sz4 := hS.2.1
  have f0 : frm (pLw M u c v b) I (z_up I (M + 19) b (nI 0)) := (frm.refl _ _).up (by unfold pLw; omega)
  have w32 := hq.1
  have q0 : lq (z_up I (M + 19) b (nI 0)) M S q c b := ⟨by rw [zup_off (by omega)]; exact hq.1, fun z => ⟨⟨by rw [zup_off (by omega)]; exact (hq.2.1 z).1.1, by rw [zup_off (by omega)]; exact (hq.2.1 z).1.2⟩, by rw [zup_off (by omega)]; exact (hq.2.1 z).2.1, by rw [zup_off (by omega)]; exact (hq.2.1 z).2.2⟩, fun z => (hq.2.2 z).kept (P := fun a _ => a = M + 19) ((frm.refl _ _).up rfl) (by omega) (by omega) (by omega)⟩
  have u19 : z_up I (M + 19) b (nI 0) (M + 19) b = nI 0 := zup_at
  have t0 := hT.kept f0 pL_t
  obtain ⟨J1, a1, a2, a3, a4, a5⟩ := r_term (L := L) h hS hl hu hv t0 q0 hi hc hb
  have t1 := t0.kept a4 pL_t
  have p1 := thn_lt hS hi (sp_e (K := K))
  obtain ⟨J2, b1, b2, b3⟩ := r_must (L := L) h hS t1 a2.pq p1 (show 59 < 64 by decide) (show rk 59 = 4 from rfl) (by decide)
  have l2 := a2.step b2 b3 thn_0of
  have fr2 : frm (pL2 M u c v b (4 * sd + kk)) I J2 := ((f0.trans a4).trans (b3.weak fun a k => pP_L)).weak fun a k => pL2_L
  have k19 : J2 M 19 = nI sd := by rw [fr2 _ _ (by unfold pL2 pLw; omega)]; exact h19
  by_cases g : (thn (thn q (xe2 K)) (must2 K 59)).1 = 0
  · obtain ⟨kO, k12, k38⟩ := l2.2.1 g
    have k32 := l2.1
    have g1 := thn_0of g
    have g0 := thn_0of g1
    obtain ⟨c1, c2, c3⟩ := a3 g1
    have k13 := kO.1
    have e1 : z_up J2 (M + 17) (4 * sd + kk) (nI ff) M 19 = nI sd := by rw [zup_off (by omega)]; exact k19
    have e2 : z_up J2 (M + 17) (4 * sd + kk) (nI ff) M 32 = nI (b + 1) := by rw [zup_off (by omega)]; exact k32
    obtain ⟨o1, o2, o3⟩ := thn_ok g
    have pos : (thn (thn q (xe2 K)) (must2 K 59)).2 = (sE K W q.2).2.1 + 1 := by
      rw [o3, (must_ok o2).2.1, thn_yes g0, ← pr_e (W := W)]
      rfl
    have ge : (sE K W q.2).1 = 0 := by
      rw [thn_yes g0, ← pr_e (W := W)] at g1
      exact g1
    have le := len_e (K := K) (W := W) q.2 ge
    have hc := hc g0
    have f3 : frm (fun a _ => a = M + 17 ∨ a = M + 18) J2 (z_up (z_up J2 (M + 17) (4 * sd + kk) (nI ff)) (M + 18) (4 * sd + kk) (nI (b + 1))) := ((frm.refl _ _).up (Or.inl rfl)).up (Or.inr rfl)
    refine ⟨z_up (z_up J2 (M + 17) (4 * sd + kk) (nI ff)) (M + 18) (4 * sd + kk) (nI (b + 1)), ?_, ⟨fun _ => kO.kept f3 (by omega) (by omega), fun z => absurd g z⟩, fun _ => ⟨?_, ?_, ⟨c + (sE K W q.2).2.2.length, by omega, ?_, ?_, fun y r hr => ?_⟩, ?_, zup_at⟩, (fr2.up (by unfold pL2; omega)).up (by unfold pL2; omega)⟩
    · simp (disch := omega) only [kX12_tellLaw_129, h.1, mr_hasTest h, ml_hasTest h, mr_lawFirst h, ml_lawFirst h, mr_lawLast h, ml_lawLast h, w32, a1, b1, k13, k19, k32, e1, e2, e_push, e_pushl, e_iload, e_lload, e_aload, e_istore, e_astore, e_lstore, e_iinc, e_iadd, e_isub, e_imul, e_iand, e_ior, e_ixor, e_ishl, e_ishr, e_iushr, e_idiv, e_irem, e_ladd, e_lsub, e_lmul, e_lcmp, e_mmax, e_mmin, e_i2l, e_l2i, e_i2b, e_i2c, e_dup, e_dup2, e_pop, e_icmp_eq, e_icmp_ne, e_icmp_lt, e_icmp_ge, e_icmp_gt, e_icmp_le, e_if_eq, e_if_ne, e_if_lt, e_if_ge, e_if_gt, e_if_le, e_getI, e_getR, e_putI, e_putZ, e_putR, e_iald, e_bald, e_zald, e_lald, e_aald, e_alen, e_iast, e_bast, e_zast, e_last, e_aast, e_iret, e_zret, e_lret, e_vret, e_obj, e_callV, e_callS, e_callT, e_acpy, e_ldcS, e_dn, e_ag, z_pop, List.getElem?_cons_zero, List.getElem?_cons_succ, List.set_cons_zero, List.set_cons_succ, List.length_cons, List.length_nil, z_nol, Option.map_some, Option.toList_some, Option.toList_none, List.cons_append, List.nil_append, n_lit, n_m1, n_m2, n_m1lt, n_m1le, n_rem, n_div, n_out, n_cl, n_eq, n_le, n_lt, n_add, n_mul, n_sub, n_nle, n_yle, n_nlt, n_ylt, n_neN, z_lay, z_sz, z_str, z_stI, z_stL, z_stR, eq_self, ↓reduceIte, true_and, and_true, and_self, false_and, and_false, or_self, false_or, or_false, true_or, or_true, not_true_eq_false, not_false_eq_true, Nat.reduceLeDiff, Nat.reduceLT, Nat.reduceAdd, Nat.reduceEqDiff, Nat.reduceMul, Nat.reduceSub, Value.category, Nat.zero_le, beq_self_eq_true]
    · rw [f3 _ _ (by omega)]; exact k12
    · rw [f3 _ _ (by omega)]; exact k32
    · rw [pos]; omega
    · rw [f3 _ _ (by omega)]; exact k38
    · cases y with
      | zero =>
        cases hr
        have w : brW J2 M b (none, (sE K W q.2).2.2) c (c + (sE K W q.2).2.2.length) := by
          refine ⟨c, Nat.le_refl _, Nat.le_refl _, ?_, ?_, seg_frm c3 b3 (fun k _ => by unfold pP; omega), ?_⟩
          · rw [b3 _ _ (by unfold pP; omega)]; exact c1
          · rw [b3 _ _ (by unfold pP; omega)]; exact c2
          · show J2 (M + 19) b = nI 0
            rw [b3 _ _ (by unfold pP; omega), a5 _ (Or.inl rfl)]
            exact u19
        exact w.kept f3 (fun k _ => by omega) (fun a _ _ => by omega)
      | succ y => cases hr
    · rw [zup_off (by omega), zup_at]
  · have fl := l2.2.2 g
    obtain ⟨f1, f2, f3, f4, t, f5, f6⟩ := id fl
    refine ⟨J2, ?_, ⟨fun z => absurd z g, fun _ => fl⟩, fun z => absurd z g, fr2⟩
    simp (disch := omega) only [kX12_tellLaw_129, h.1, mr_hasTest h, ml_hasTest h, w32, a1, b1, f1, f2, e_push, e_pushl, e_iload, e_lload, e_aload, e_istore, e_astore, e_lstore, e_iinc, e_iadd, e_isub, e_imul, e_iand, e_ior, e_ixor, e_ishl, e_ishr, e_iushr, e_idiv, e_irem, e_ladd, e_lsub, e_lmul, e_lcmp, e_mmax, e_mmin, e_i2l, e_l2i, e_i2b, e_i2c, e_dup, e_dup2, e_pop, e_icmp_eq, e_icmp_ne, e_icmp_lt, e_icmp_ge, e_icmp_gt, e_icmp_le, e_if_eq, e_if_ne, e_if_lt, e_if_ge, e_if_gt, e_if_le, e_getI, e_getR, e_putI, e_putZ, e_putR, e_iald, e_bald, e_zald, e_lald, e_aald, e_alen, e_iast, e_bast, e_zast, e_last, e_aast, e_iret, e_zret, e_lret, e_vret, e_obj, e_callV, e_callS, e_callT, e_acpy, e_ldcS, e_dn, e_ag, z_pop, List.getElem?_cons_zero, List.getElem?_cons_succ, List.set_cons_zero, List.set_cons_succ, List.length_cons, List.length_nil, z_nol, Option.map_some, Option.toList_some, Option.toList_none, List.cons_append, List.nil_append, n_lit, n_m1, n_m2, n_m1lt, n_m1le, n_rem, n_div, n_out, n_cl, n_eq, n_le, n_lt, n_add, n_mul, n_sub, n_nle, n_yle, n_nlt, n_ylt, n_neN, z_lay, z_sz, z_str, z_stI, z_stL, z_stR, eq_self, ↓reduceIte, true_and, and_true, and_self, false_and, and_false, or_self, false_or, or_false, true_or, or_true, not_true_eq_false, not_false_eq_true, Nat.reduceLeDiff, Nat.reduceLT, Nat.reduceAdd, Nat.reduceEqDiff, Nat.reduceMul, Nat.reduceSub, Value.category, Nat.zero_le, beq_self_eq_true]
theorem sLw_0 {K W : Nat → Nat} {n i : Nat} (h : K i ≠ 8) : sLw K W n i = sBind [] (sE K W i) fun j c => (0, j, [(none, c)]) := by
  cases n with
  | zero => rw [sLw, if_neg h]
  | succ n => rw [sLw, if_neg h]
theorem lw2_0 {K : Nat → Nat} {n i : Nat} (h : K i ≠ 8) : lw2 K n i = xe2 K i := by
  cases n with
  | zero => rw [lw2, if_neg h]
  | succ n => rw [lw2, if_neg h]
theorem r_lawlp {L : Nat → Nat → Int64} {Z : zZ} {M sz lim u v sd kk ff : Nat} {K W S : Nat → Nat} (h : isMod Z M) (hS : tkS K W S sz) (hl : lim + 420 ≤ u) (hu : u ≤ 840) (hv : v ≤ 260) (hsd : sd < 2) (hk : kk < 4) : ∀ n i m b c (I : Nat → Nat → Int32), m + n = 4 → tokR I M K W S sz → lq I M S (0, i) c b → i < sz → c ≤ lim + i → b + n + 2 < v → I M 19 = nI sd → ∃ J, q_lp bX12_tellLaw_12 [some (Value.ref (M)), some (Value.int (nI (kk))), some (Value.int (nI (ff))), some (Value.int (nI (m)))] [] (I, L, Z) = some (none, (J, L, Z)) ∧ lawP I J M S lim u v c b (4 * sd + kk) ff (thn (lw2 K n i) (must2 K 59)) (sLw K W n i).2.2 := by
  have sz4 := hS.2.1
  have last : ∀ n i m b c (I : Nat → Nat → Int32), m + n = 4 → tokR I M K W S sz → lq I M S (0, i) c b → i < sz → c ≤ lim + i → b + n + 2 < v → I M 19 = nI sd → K i ≠ 8 → ∃ J, q_lp bX12_tellLaw_12 [some (Value.ref (M)), some (Value.int (nI (kk))), some (Value.int (nI (ff))), some (Value.int (nI (m)))] [] (I, L, Z) = some (none, (J, L, Z)) ∧ lawP I J M S lim u v c b (4 * sd + kk) ff (thn (lw2 K n i) (must2 K 59)) (sLw K W n i).2.2 := by
    intro n i m b c I hm hT hq hi hc hb h19 g
    obtain ⟨hO, h12, h38⟩ := hq.2.1 rfl
    have hO : okQ I M i := hO
    have is := r_isY (L := L) h hS hT hO hi (show 8 < 64 by decide) (show rk 8 = 28 from rfl) (by decide)
    rw [if_neg g] at is
    have o13 := hO.1
    obtain ⟨J, j1, j2⟩ := r_129 (L := L) (ff := ff) (kk := kk) (y3 := some (.int (nI m))) h hS hl hu hv hT hq hi (fun _ => hc) (by omega) h19 hsd hk
    rw [thn_0] at j2
    refine ⟨J, ?_, ?_⟩
    · rw [q_lp_eq, show bX12_tellLaw_12 [some (Value.ref (M)), some (Value.int (nI (kk))), some (Value.int (nI (ff))), some (Value.int (nI (m)))] [] (I, L, Z) = some (.inr (none, (J, L, Z))) by simp (disch := omega) only [bX12_tellLaw_12, h.1, o13, is, j1, Option.map_some, e_push, e_pushl, e_iload, e_lload, e_aload, e_istore, e_astore, e_lstore, e_iinc, e_iadd, e_isub, e_imul, e_iand, e_ior, e_ixor, e_ishl, e_ishr, e_iushr, e_idiv, e_irem, e_ladd, e_lsub, e_lmul, e_lcmp, e_mmax, e_mmin, e_i2l, e_l2i, e_i2b, e_i2c, e_dup, e_dup2, e_pop, e_icmp_eq, e_icmp_ne, e_icmp_lt, e_icmp_ge, e_icmp_gt, e_icmp_le, e_if_eq, e_if_ne, e_if_lt, e_if_ge, e_if_gt, e_if_le, e_getI, e_getR, e_putI, e_putZ, e_putR, e_iald, e_bald, e_zald, e_lald, e_aald, e_alen, e_iast, e_bast, e_zast, e_last, e_aast, e_iret, e_zret, e_lret, e_vret, e_obj, e_callV, e_callS, e_callT, e_acpy, e_ldcS, e_dn, e_ag, z_pop, List.getElem?_cons_zero, List.getElem?_cons_succ, List.set_cons_zero, List.set_cons_succ, List.length_cons, List.length_nil, z_nol, Option.map_some, Option.toList_some, Option.toList_none, List.cons_append, List.nil_append, n_lit, n_m1, n_m2, n_m1lt, n_m1le, n_rem, n_div, n_out, n_cl, n_eq, n_le, n_lt, n_add, n_mul, n_sub, n_nle, n_yle, n_nlt, n_ylt, n_neN, z_lay, z_sz, z_str, z_stI, z_stL, z_stR, eq_self, ↓reduceIte, true_and, and_true, and_self, false_and, and_false, or_self, false_or, or_false, true_or, or_true, not_true_eq_false, not_false_eq_true, Nat.reduceLeDiff, Nat.reduceLT, Nat.reduceAdd, Nat.reduceEqDiff, Nat.reduceMul, Nat.reduceSub, Value.category, Nat.zero_le, beq_self_eq_true]]
    · rw [lw2_0 g, sLw_0 g]
      by_cases ge : (sE K W i).1 = 0
      · rw [sBind_yes ge]
        exact j2
      · rw [sBind_no ge]
        have gx : (xe2 K i).1 ≠ 0 := by rw [← pr_e (W := W)]; exact ge
        rw [thn_no gx] at j2 ⊢
        exact ⟨j2.1, fun z => absurd z gx, j2.2.2⟩
  intro n
  induction n with
  | zero =>
    intro i m b c I hm hT hq hi hc hb h19
    by_cases g : K i = 8
    · obtain ⟨hO, h12, h38⟩ := hq.2.1 rfl
      have hO : okQ I M i := hO
      have is := r_isY (L := L) h hS hT hO hi (show 8 < 64 by decide) (show rk 8 = 28 from rfl) (by decide)
      rw [if_pos g] at is
      have o13 := hO.1
      have fa := r_failO (L := L) (f := 2) h hS hT hO hi
      have fl := fl_fail (S := S) hO (show i ≤ 400 by omega) (show 2 ≠ 0 by decide) (by decide)
      have ff' : frm (pP M) I (z_up (z_up I M 13 (nI 2)) M 14 (nI (S i))) := fr_fail
      generalize z_up (z_up I M 13 (nI 2)) M 14 (nI (S i)) = J1 at fa fl ff'
      obtain ⟨f1, f2, f3, f4, t, f5, f6⟩ := id fl
      obtain rfl : m = 4 := by omega
      have e : lw2 K 0 i = (2, i) := by rw [lw2, if_pos g]
      rw [e, thn_no (by show 2 ≠ 0; decide)]
      refine ⟨J1, ?_, pqs_fl fl, fun z => absurd z (by show ¬ 2 = 0; decide), ff'.weak fun a k z => pL2_L (pP_L z)⟩
      rw [q_lp_eq, show bX12_tellLaw_12 [some (Value.ref (M)), some (Value.int (nI (kk))), some (Value.int (nI (ff))), some (Value.int (nI (4)))] [] (I, L, Z) = some (.inr (none, (J1, L, Z))) by simp (disch := omega) only [bX12_tellLaw_12, kX12_tellLaw_38, kX12_tellLaw_45, h.1, o13, is, fa, f1, Option.map_some, e_push, e_pushl, e_iload, e_lload, e_aload, e_istore, e_astore, e_lstore, e_iinc, e_iadd, e_isub, e_imul, e_iand, e_ior, e_ixor, e_ishl, e_ishr, e_iushr, e_idiv, e_irem, e_ladd, e_lsub, e_lmul, e_lcmp, e_mmax, e_mmin, e_i2l, e_l2i, e_i2b, e_i2c, e_dup, e_dup2, e_pop, e_icmp_eq, e_icmp_ne, e_icmp_lt, e_icmp_ge, e_icmp_gt, e_icmp_le, e_if_eq, e_if_ne, e_if_lt, e_if_ge, e_if_gt, e_if_le, e_getI, e_getR, e_putI, e_putZ, e_putR, e_iald, e_bald, e_zald, e_lald, e_aald, e_alen, e_iast, e_bast, e_zast, e_last, e_aast, e_iret, e_zret, e_lret, e_vret, e_obj, e_callV, e_callS, e_callT, e_acpy, e_ldcS, e_dn, e_ag, z_pop, List.getElem?_cons_zero, List.getElem?_cons_succ, List.set_cons_zero, List.set_cons_succ, List.length_cons, List.length_nil, z_nol, Option.map_some, Option.toList_some, Option.toList_none, List.cons_append, List.nil_append, n_lit, n_m1, n_m2, n_m1lt, n_m1le, n_rem, n_div, n_out, n_cl, n_eq, n_le, n_lt, n_add, n_mul, n_sub, n_nle, n_yle, n_nlt, n_ylt, n_neN, z_lay, z_sz, z_str, z_stI, z_stL, z_stR, eq_self, ↓reduceIte, true_and, and_true, and_self, false_and, and_false, or_self, false_or, or_false, true_or, or_true, not_true_eq_false, not_false_eq_true, Nat.reduceLeDiff, Nat.reduceLT, Nat.reduceAdd, Nat.reduceEqDiff, Nat.reduceMul, Nat.reduceSub, Value.category, Nat.zero_le, beq_self_eq_true]]
    · exact last 0 i m b c I hm hT hq hi hc hb h19 g
  | succ n ih =>
    intro i m b c I hm hT hq hi hc hb h19
    by_cases g : K i = 8
    · obtain ⟨hO, h12, h38⟩ := hq.2.1 rfl
      have hO : okQ I M i := hO
      have is := r_isY (L := L) h hS hT hO hi (show 8 < 64 by decide) (show rk 8 = 28 from rfl) (by decide)
      rw [if_pos g] at is
      have o13 := hO.1
      obtain ⟨J1, j1, j2, j3, j4⟩ := r_if (L := L) (y1 := some (.int (nI kk))) (x2 := nI ff) h hS hl hu hv hT hq hi g hc (by omega) (show m < 4 by omega)
      have nm : (m = 4) = False := eq_false (by omega)
      have st : q_lp bX12_tellLaw_12 [some (Value.ref (M)), some (Value.int (nI (kk))), some (Value.int (nI (ff))), some (Value.int (nI (m)))] [] (I, L, Z) = q_lp bX12_tellLaw_12 [some (Value.ref (M)), some (Value.int (nI (kk))), some (Value.int (nI (ff))), some (Value.int (nI (m + 1)))] [] (J1, L, Z) := by
        rw [q_lp_eq, show bX12_tellLaw_12 [some (Value.ref (M)), some (Value.int (nI (kk))), some (Value.int (nI (ff))), some (Value.int (nI (m)))] [] (I, L, Z) = some (.inl ([some (Value.ref (M)), some (Value.int (nI (kk))), some (Value.int (nI (ff))), some (Value.int (nI (m + 1)))], (J1, L, Z))) by simp (disch := omega) only [bX12_tellLaw_12, h.1, o13, is, nm, j1, e_push, e_pushl, e_iload, e_lload, e_aload, e_istore, e_astore, e_lstore, e_iinc, e_iadd, e_isub, e_imul, e_iand, e_ior, e_ixor, e_ishl, e_ishr, e_iushr, e_idiv, e_irem, e_ladd, e_lsub, e_lmul, e_lcmp, e_mmax, e_mmin, e_i2l, e_l2i, e_i2b, e_i2c, e_dup, e_dup2, e_pop, e_icmp_eq, e_icmp_ne, e_icmp_lt, e_icmp_ge, e_icmp_gt, e_icmp_le, e_if_eq, e_if_ne, e_if_lt, e_if_ge, e_if_gt, e_if_le, e_getI, e_getR, e_putI, e_putZ, e_putR, e_iald, e_bald, e_zald, e_lald, e_aald, e_alen, e_iast, e_bast, e_zast, e_last, e_aast, e_iret, e_zret, e_lret, e_vret, e_obj, e_callV, e_callS, e_callT, e_acpy, e_ldcS, e_dn, e_ag, z_pop, List.getElem?_cons_zero, List.getElem?_cons_succ, List.set_cons_zero, List.set_cons_succ, List.length_cons, List.length_nil, z_nol, Option.map_some, Option.toList_some, Option.toList_none, List.cons_append, List.nil_append, n_lit, n_m1, n_m2, n_m1lt, n_m1le, n_rem, n_div, n_out, n_cl, n_eq, n_le, n_lt, n_add, n_mul, n_sub, n_nle, n_yle, n_nlt, n_ylt, n_neN, z_lay, z_sz, z_str, z_stI, z_stL, z_stR, eq_self, ↓reduceIte, true_and, and_true, and_self, false_and, and_false, or_self, false_or, or_false, true_or, or_true, not_true_eq_false, not_false_eq_true, Nat.reduceLeDiff, Nat.reduceLT, Nat.reduceAdd, Nat.reduceEqDiff, Nat.reduceMul, Nat.reduceSub, Value.category, Nat.zero_le, beq_self_eq_true]]
      have e2 : (sIf K W i).1 < 3 ∧ i ≤ (sIf K W i).2.1 ∧ (sIf K W i).2.1 ≤ 400 ∧ (sIf K W i).2.1 < sz := by
        have s : spn inn K i (if2 K i) := spn_thn (spn_adv (by unfold inn; omega) (by omega)) fun j hj => spn_thn (spn_e j hj) fun j hj => spn_thn (spn_must (by unfold inn; omega) j hj) fun j hj => spn_thn (spn_e j hj) fun j hj => spn_thn (spn_must (by unfold inn; omega) j hj) fun j hj => spn_thn (spn_e j hj) (spn_must (by unfold inn; omega))
        rw [← pr_if (W := W)] at s
        exact ⟨s.1, s.2.1, s.2.2.1, (s.weak (fun k hk => ⟨hk.1, hk.2.1⟩)).lt hS.2.2.2.1 hi⟩
      rw [lw2, if_pos g, sLw, if_pos g, ← pr_if (W := W)]
      have t1 := hT.kept j4 pL_t
      have k19 : J1 M 19 = nI sd := by rw [j4 _ _ (by unfold pLw; omega)]; exact h19
      by_cases gi : (sIf K W i).1 = 0
      · obtain ⟨j3a, j3b⟩ := j3 gi
        have j2' : lq J1 M S (0, (sIf K W i).2.1) (c + brL (sIf K W i).2.2) (b + 1) := by
          have e : pr (sIf K W i) = (0, (sIf K W i).2.1) := Prod.ext gi rfl
          rw [← e]
          exact j2
        obtain ⟨J, r1, r2, r3, r4⟩ := ih (sIf K W i).2.1 (m + 1) (b + 1) (c + brL (sIf K W i).2.2) J1 (by omega) t1 j2' e2.2.2.2 j3b (by omega) k19
        rw [thn_yes (q := pr (sIf K W i)) gi, sBind_yes gi]
        refine ⟨J, st.trans r1, r2, fun z => ?_, (j4.weak fun a k => pL2_L).trans (r4.weak fun a k => pL2_L2 (by omega) (by omega))⟩
        obtain ⟨s1, s2, ⟨d, s3, s4, s5, s6⟩, s7, s8⟩ := r3 z
        have gl : (sLw K W n (sIf K W i).2.1).1 = 0 := by
          have := thn_0of z
          have : (lw2 K n (pr (sIf K W i)).2).1 = 0 := this
          rw [← pr_lw (W := W)] at this
          exact this
        rw [sBind_yes gl]
        have lc : ((sIf K W i).2.2 :: (sLw K W n (sIf K W i).2.1).2.2).length = (sLw K W n (sIf K W i).2.1).2.2.length + 1 := rfl
        refine ⟨s1, ?_, ⟨d, by omega, s4, s5, fun y r hr => ?_⟩, s7, ?_⟩
        · rw [s2]
          congr 1
          show b + 1 + (sLw K W n (sIf K W i).2.1).2.2.length = b + ((sLw K W n (sIf K W i).2.1).2.2.length + 1)
          omega
        · cases y with
          | zero =>
            cases hr
            exact (j3a.kept r4 (fun k hk => by unfold pL2 pLw; omega) (fun a h1 h2 => by unfold pL2 pLw; omega)).weak (Nat.le_refl _) s3
          | succ y =>
            have w := s6 y r hr
            rw [show b + 1 + y = b + (y + 1) by omega] at w
            exact w.weak (by omega) (Nat.le_refl _)
        · rw [s8]
          congr 1
          show b + 1 + (sLw K W n (sIf K W i).2.1).2.2.length = b + ((sLw K W n (sIf K W i).2.1).2.2.length + 1)
          omega
      · rw [thn_no (q := pr (sIf K W i)) gi, thn_no (q := pr (sIf K W i)) gi, sBind_no gi]
        have fl := j2.2.2 gi
        obtain ⟨f1, f2, f3, f4, t, f5, f6⟩ := id fl
        have f1 : J1 M 13 = nI (sIf K W i).1 := f1
        have f2 : (sIf K W i).1 ≠ 0 := f2
        obtain ⟨J, r1, r2, r3, r4⟩ := r_129 (L := L) (q := pr (sIf K W i)) (ff := ff) (kk := kk) (y3 := some (.int (nI (m + 1)))) h hS hl hu hv t1 j2 e2.2.2.2 (fun z => absurd z gi) (by omega) k19 hsd hk
        rw [thn_no (q := pr (sIf K W i)) gi, thn_no (q := pr (sIf K W i)) gi] at r2
        refine ⟨J, st.trans ?_, r2, fun z => absurd z gi, (j4.weak fun a k => pL2_L).trans (r4.weak fun a k => pL2_L2 (by omega) (by omega))⟩
        have e28 := e2.1
        rw [q_lp_eq, show bX12_tellLaw_12 [some (Value.ref (M)), some (Value.int (nI (kk))), some (Value.int (nI (ff))), some (Value.int (nI (m + 1)))] [] (J1, L, Z) = some (.inr (none, (J, L, Z))) by simp (disch := omega) only [bX12_tellLaw_12, h.1, f1, f2, r1, Option.map_some, e_push, e_pushl, e_iload, e_lload, e_aload, e_istore, e_astore, e_lstore, e_iinc, e_iadd, e_isub, e_imul, e_iand, e_ior, e_ixor, e_ishl, e_ishr, e_iushr, e_idiv, e_irem, e_ladd, e_lsub, e_lmul, e_lcmp, e_mmax, e_mmin, e_i2l, e_l2i, e_i2b, e_i2c, e_dup, e_dup2, e_pop, e_icmp_eq, e_icmp_ne, e_icmp_lt, e_icmp_ge, e_icmp_gt, e_icmp_le, e_if_eq, e_if_ne, e_if_lt, e_if_ge, e_if_gt, e_if_le, e_getI, e_getR, e_putI, e_putZ, e_putR, e_iald, e_bald, e_zald, e_lald, e_aald, e_alen, e_iast, e_bast, e_zast, e_last, e_aast, e_iret, e_zret, e_lret, e_vret, e_obj, e_callV, e_callS, e_callT, e_acpy, e_ldcS, e_dn, e_ag, z_pop, List.getElem?_cons_zero, List.getElem?_cons_succ, List.set_cons_zero, List.set_cons_succ, List.length_cons, List.length_nil, z_nol, Option.map_some, Option.toList_some, Option.toList_none, List.cons_append, List.nil_append, n_lit, n_m1, n_m2, n_m1lt, n_m1le, n_rem, n_div, n_out, n_cl, n_eq, n_le, n_lt, n_add, n_mul, n_sub, n_nle, n_yle, n_nlt, n_ylt, n_neN, z_lay, z_sz, z_str, z_stI, z_stL, z_stR, eq_self, ↓reduceIte, true_and, and_true, and_self, false_and, and_false, or_self, false_or, or_false, true_or, or_true, not_true_eq_false, not_false_eq_true, Nat.reduceLeDiff, Nat.reduceLT, Nat.reduceAdd, Nat.reduceEqDiff, Nat.reduceMul, Nat.reduceSub, Value.category, Nat.zero_le, beq_self_eq_true]]
    · exact last (n + 1) i m b c I hm hT hq hi hc hb h19 g
theorem r_tellLaw {I : Nat → Nat → Int32} {L : Nat → Nat → Int64} {Z : zZ} {M sz lim u v c b sd kk : Nat} {K W S : Nat → Nat} {q : Nat × Nat} (h : isMod Z M) (hS : tkS K W S sz) (hl : lim + 420 ≤ u) (hu : u ≤ 840) (hv : v ≤ 260) (hT : tokR I M K W S sz) (hq : lq I M S q c b) (hi : q.2 < sz) (hc : q.1 = 0 → c ≤ lim + q.2) (hb : b + 6 < v) (h19 : I M 19 = nI sd) (hsd : sd < 2) (hk : kk < 4) : ∃ J, fX12_tellLaw [.ref M, .int (nI kk)] (I, L, Z) = some (none, (J, L, Z)) ∧ lawP I J M S lim u v c b (4 * sd + kk) b (thn (thn (thn q (must2 K 61)) (lw2 K 4)) (must2 K 59)) (sLw K W 4 (q.2 + 1)).2.2 := by
  obtain ⟨J1, a1, a2, a3⟩ := r_must (L := L) h hS hT hq.pq hi (show 61 < 64 by decide) (show rk 61 = 5 from rfl) (by decide)
  have l1 := hq.step a2 a3 thn_0of
  have t1 := hT.kept a3 pP_t
  have p1 := thn_lt hS hi (sp_must (K := K) (inn0_of (k := 61) (by decide) (by decide)))
  have k19 : J1 M 19 = nI sd := by rw [a3 _ _ (by unfold pP; omega)]; exact h19
  have k32 := l1.1
  have run : ∀ J, q_lp bX12_tellLaw_12 [some (Value.ref (M)), some (Value.int (nI (kk))), some (Value.int (nI (b))), some (Value.int (nI (0)))] [] (J1, L, Z) = some (none, (J, L, Z)) → fX12_tellLaw [.ref M, .int (nI kk)] (I, L, Z) = some (none, (J, L, Z)) := fun J e => by
    show kX12_tellLaw_0 [some (Value.ref (M)), some (Value.int (nI (kk))), none, none] [] (I, L, Z) = _
    simp (disch := omega) only [kX12_tellLaw_0, kX12_tellLaw_12, h.1, a1, k32, e, e_push, e_pushl, e_iload, e_lload, e_aload, e_istore, e_astore, e_lstore, e_iinc, e_iadd, e_isub, e_imul, e_iand, e_ior, e_ixor, e_ishl, e_ishr, e_iushr, e_idiv, e_irem, e_ladd, e_lsub, e_lmul, e_lcmp, e_mmax, e_mmin, e_i2l, e_l2i, e_i2b, e_i2c, e_dup, e_dup2, e_pop, e_icmp_eq, e_icmp_ne, e_icmp_lt, e_icmp_ge, e_icmp_gt, e_icmp_le, e_if_eq, e_if_ne, e_if_lt, e_if_ge, e_if_gt, e_if_le, e_getI, e_getR, e_putI, e_putZ, e_putR, e_iald, e_bald, e_zald, e_lald, e_aald, e_alen, e_iast, e_bast, e_zast, e_last, e_aast, e_iret, e_zret, e_lret, e_vret, e_obj, e_callV, e_callS, e_callT, e_acpy, e_ldcS, e_dn, e_ag, z_pop, List.getElem?_cons_zero, List.getElem?_cons_succ, List.set_cons_zero, List.set_cons_succ, List.length_cons, List.length_nil, z_nol, Option.map_some, Option.toList_some, Option.toList_none, List.cons_append, List.nil_append, n_lit, n_m1, n_m2, n_m1lt, n_m1le, n_rem, n_div, n_out, n_cl, n_eq, n_le, n_lt, n_add, n_mul, n_sub, n_nle, n_yle, n_nlt, n_ylt, n_neN, z_lay, z_sz, z_str, z_stI, z_stL, z_stR, eq_self, ↓reduceIte, true_and, and_true, and_self, false_and, and_false, or_self, false_or, or_false, true_or, or_true, not_true_eq_false, not_false_eq_true, Nat.reduceLeDiff, Nat.reduceLT, Nat.reduceAdd, Nat.reduceEqDiff, Nat.reduceMul, Nat.reduceSub, Value.category, Nat.zero_le, beq_self_eq_true]
  by_cases g : (thn q (must2 K 61)).1 = 0
  · obtain ⟨b1, b2, b3⟩ := thn_ok g
    have e : thn q (must2 K 61) = (0, q.2 + 1) := by rw [b3]; exact (must_ok b2).2.2.2
    rw [e] at l1 p1 ⊢
    obtain ⟨J, r1, r2, r3, r4⟩ := r_lawlp (L := L) (ff := b) (kk := kk) h hS hl hu hv hsd hk 4 (q.2 + 1) 0 b c J1 rfl t1 l1 p1 (by have := hc b1; omega) (by omega) k19
    rw [thn_0]
    exact ⟨J, run J r1, r2, r3, (a3.weak fun a k z => pL2_L (pP_L z)).trans r4⟩
  · rw [thn_no g, thn_no g]
    obtain ⟨J, r1, r2, r3, r4⟩ := r_129 (L := L) (ff := b) (kk := kk) (y3 := some (.int (nI 0))) h hS hl hu hv t1 l1 p1 (fun z => absurd z g) (by omega) k19 hsd hk
    rw [thn_no g, thn_no g] at r2
    refine ⟨J, run J ?_, r2, fun z => absurd z g, (a3.weak fun a k z => pL2_L (pP_L z)).trans r4⟩
    obtain ⟨f1, f2, f3, f4, t, f5, f6⟩ := l1.2.2 g
    rw [q_lp_eq, show bX12_tellLaw_12 [some (Value.ref (M)), some (Value.int (nI (kk))), some (Value.int (nI (b))), some (Value.int (nI (0)))] [] (J1, L, Z) = some (.inr (none, (J, L, Z))) by simp (disch := omega) only [bX12_tellLaw_12, h.1, f1, f2, r1, Option.map_some, e_push, e_pushl, e_iload, e_lload, e_aload, e_istore, e_astore, e_lstore, e_iinc, e_iadd, e_isub, e_imul, e_iand, e_ior, e_ixor, e_ishl, e_ishr, e_iushr, e_idiv, e_irem, e_ladd, e_lsub, e_lmul, e_lcmp, e_mmax, e_mmin, e_i2l, e_l2i, e_i2b, e_i2c, e_dup, e_dup2, e_pop, e_icmp_eq, e_icmp_ne, e_icmp_lt, e_icmp_ge, e_icmp_gt, e_icmp_le, e_if_eq, e_if_ne, e_if_lt, e_if_ge, e_if_gt, e_if_le, e_getI, e_getR, e_putI, e_putZ, e_putR, e_iald, e_bald, e_zald, e_lald, e_aald, e_alen, e_iast, e_bast, e_zast, e_last, e_aast, e_iret, e_zret, e_lret, e_vret, e_obj, e_callV, e_callS, e_callT, e_acpy, e_ldcS, e_dn, e_ag, z_pop, List.getElem?_cons_zero, List.getElem?_cons_succ, List.set_cons_zero, List.set_cons_succ, List.length_cons, List.length_nil, z_nol, Option.map_some, Option.toList_some, Option.toList_none, List.cons_append, List.nil_append, n_lit, n_m1, n_m2, n_m1lt, n_m1le, n_rem, n_div, n_out, n_cl, n_eq, n_le, n_lt, n_add, n_mul, n_sub, n_nle, n_yle, n_nlt, n_ylt, n_neN, z_lay, z_sz, z_str, z_stI, z_stL, z_stR, eq_self, ↓reduceIte, true_and, and_true, and_self, false_and, and_false, or_self, false_or, or_false, true_or, or_true, not_true_eq_false, not_false_eq_true, Nat.reduceLeDiff, Nat.reduceLT, Nat.reduceAdd, Nat.reduceEqDiff, Nat.reduceMul, Nat.reduceSub, Value.category, Nat.zero_le, beq_self_eq_true]]
