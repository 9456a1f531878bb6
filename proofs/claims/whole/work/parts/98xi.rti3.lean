/-! read: the reference's children as tells -/
theorem r_room {I : Nat → Nat → Int32} {L : Nat → Nat → Int64} {Z : zZ} {M i sz x m : Nat} {K W S : Nat → Nat} (h : isMod Z M) (hS : tkS K W S sz) (hT : tokR I M K W S sz) (hO : okQ I M i) (hi : i < sz) (hx : x < 100) (hm : m < 100) : ∃ J, fX12_roomFor [.ref M, .int (nI x), .int (nI m)] (I, L, Z) = some (none, (J, L, Z)) ∧ pqs J M S (if x = m then (2, i) else adv i) ∧ frm (pP M) I J := by
  have sz4 := hS.2.1
  by_cases g : x = m
  · rw [if_pos g]
    have f := r_failO (L := L) (f := 2) h hS hT hO hi
    have fl := fl_fail (S := S) hO (show i ≤ 400 by omega) (show 2 ≠ 0 by decide) (by decide)
    have ff : frm (pP M) I (z_up (z_up I M 13 (nI 2)) M 14 (nI (S i))) := fr_fail
    generalize z_up (z_up I M 13 (nI 2)) M 14 (nI (S i)) = J1 at f fl ff
    have f1 := fl.1
    refine ⟨J1, ?_, pqs_fl fl, ff⟩
    show kX12_roomFor_0 [some (Value.ref (M)), some (Value.int (nI (x))), some (Value.int (nI (m)))] [] (I, L, Z) = _
    simp (disch := omega) only [kX12_roomFor_21, kX12_roomFor_10, kX12_roomFor_0, h.1, g, f, f1, e_push, e_pushl, e_iload, e_lload, e_aload, e_istore, e_astore, e_lstore, e_iinc, e_iadd, e_isub, e_imul, e_iand, e_ior, e_ixor, e_ishl, e_ishr, e_iushr, e_idiv, e_irem, e_ladd, e_lsub, e_lmul, e_lcmp, e_mmax, e_mmin, e_i2l, e_l2i, e_i2b, e_i2c, e_dup, e_dup2, e_pop, e_icmp_eq, e_icmp_ne, e_icmp_lt, e_icmp_ge, e_icmp_gt, e_icmp_le, e_if_eq, e_if_ne, e_if_lt, e_if_ge, e_if_gt, e_if_le, e_getI, e_getR, e_putI, e_putZ, e_putR, e_iald, e_bald, e_zald, e_lald, e_aald, e_alen, e_iast, e_bast, e_zast, e_last, e_aast, e_iret, e_zret, e_lret, e_vret, e_obj, e_callV, e_callS, e_callT, e_acpy, e_ldcS, e_dn, e_ag, z_pop, List.getElem?_cons_zero, List.getElem?_cons_succ, List.set_cons_zero, List.set_cons_succ, List.length_cons, List.length_nil, z_nol, Option.map_some, Option.toList_some, Option.toList_none, List.cons_append, List.nil_append, n_lit, n_m1, n_m2, n_m1lt, n_m1le, n_rem, n_div, n_out, n_cl, n_eq, n_le, n_lt, n_add, n_mul, n_sub, n_nle, n_yle, n_nlt, n_ylt, n_neN, z_lay, z_sz, z_str, z_stI, z_stL, z_stR, eq_self, ↓reduceIte, true_and, and_true, and_self, false_and, and_false, or_self, false_or, or_false, true_or, or_true, not_true_eq_false, not_false_eq_true, Nat.reduceLeDiff, Nat.reduceLT, Nat.reduceAdd, Nat.reduceEqDiff, Nat.reduceMul, Nat.reduceSub, Value.category, Nat.zero_le, beq_self_eq_true]
  · rw [if_neg g]
    obtain ⟨J, j1, j2, j3⟩ := r_goes (L := L) (q := (0, i)) h hS hT (pqs_ok hO) hi
    rw [thn_0] at j2
    have o13 := hO.1
    refine ⟨J, ?_, j2, j3⟩
    show kX12_roomFor_0 [some (Value.ref (M)), some (Value.int (nI (x))), some (Value.int (nI (m)))] [] (I, L, Z) = _
    simp (disch := omega) only [kX12_roomFor_21, kX12_roomFor_10, kX12_roomFor_0, h.1, g, o13, j1, e_push, e_pushl, e_iload, e_lload, e_aload, e_istore, e_astore, e_lstore, e_iinc, e_iadd, e_isub, e_imul, e_iand, e_ior, e_ixor, e_ishl, e_ishr, e_iushr, e_idiv, e_irem, e_ladd, e_lsub, e_lmul, e_lcmp, e_mmax, e_mmin, e_i2l, e_l2i, e_i2b, e_i2c, e_dup, e_dup2, e_pop, e_icmp_eq, e_icmp_ne, e_icmp_lt, e_icmp_ge, e_icmp_gt, e_icmp_le, e_if_eq, e_if_ne, e_if_lt, e_if_ge, e_if_gt, e_if_le, e_getI, e_getR, e_putI, e_putZ, e_putR, e_iald, e_bald, e_zald, e_lald, e_aald, e_alen, e_iast, e_bast, e_zast, e_last, e_aast, e_iret, e_zret, e_lret, e_vret, e_obj, e_callV, e_callS, e_callT, e_acpy, e_ldcS, e_dn, e_ag, z_pop, List.getElem?_cons_zero, List.getElem?_cons_succ, List.set_cons_zero, List.set_cons_succ, List.length_cons, List.length_nil, z_nol, Option.map_some, Option.toList_some, Option.toList_none, List.cons_append, List.nil_append, n_lit, n_m1, n_m2, n_m1lt, n_m1le, n_rem, n_div, n_out, n_cl, n_eq, n_le, n_lt, n_add, n_mul, n_sub, n_nle, n_yle, n_nlt, n_ylt, n_neN, z_lay, z_sz, z_str, z_stI, z_stL, z_stR, eq_self, ↓reduceIte, true_and, and_true, and_self, false_and, and_false, or_self, false_or, or_false, true_or, or_true, not_true_eq_false, not_false_eq_true, Nat.reduceLeDiff, Nat.reduceLT, Nat.reduceAdd, Nat.reduceEqDiff, Nat.reduceMul, Nat.reduceSub, Value.category, Nat.zero_le, beq_self_eq_true]
/-- a colour's place among the wrong ones -/
def wc (W : Nat → Nat) (w : Nat × Nat) (i : Nat) : Nat × Nat := if W i ≤ 3 then w else wAdd w 5 i
theorem wc_lt {W : Nat → Nat} {w : Nat × Nat} {i : Nat} (h : w.1 ≠ 0 → w.2 < i) : (wc W w i).1 ≠ 0 → (wc W w i).2 < i + 1 := by
  unfold wc wAdd
  split
  · intro z; have := h z; omega
  · split
    · intro _; show i < i + 1; omega
    · intro z; have := h z; omega
theorem TI.g {J : Nat → Nat → Int32} {L : Nat → Nat → Int64} {M sd i nch nrow b c : Nat} {K W S : Nat → Nat} {p : (Nat × Nat) × (Nat → Nat)} (h : TI J L M S sd K W i nch nrow b c p) (hA : p.1.1 = 0 → mOK p.2) : ∃ g, g < 10000 ∧ J (M + 12) sd = nI g ∧ (p.1.1 = 0 → g = p.2 1) := by
  by_cases y : p.1.1 = 0
  · exact ⟨p.2 1, by have := (hA y).2.2.1; omega, (h.2.2.2.2 y).2.1, fun _ => rfl⟩
  · obtain ⟨g, g1, g2⟩ := h.2.1.2.2.2.2.2.2.2.2.1
    exact ⟨g, g1, g2, fun z => absurd z y⟩
theorem r_tellCh {I : Nat → Nat → Int32} {L : Nat → Nat → Int64} {Z : zZ} {M sz sd i nch nrow b c : Nat} {K W S : Nat → Nat} {N : Nat → Nat → Prop} {p : (Nat × Nat) × (Nat → Nat)} (h : isMod Z M) (hS : tkS K W S sz) (hT : tokR I M K W S sz) (hi : i < sz) (hI : TI I L M S sd K W i nch nrow b c p) (hA : p.1.1 = 0 → mOK p.2) (hk : K i = 1) : ∃ J, fX12_tellOne [.ref M] (I, L, Z) = some (none, (J, L, Z)) ∧ tlR I L J L M S sd K W N i nch nrow p := by
  have sz4 := hS.2.1
  obtain ⟨g, g1, g2, g3⟩ := hI.g hA
  obtain ⟨hO, ⟨b1, b2, b3, b4, b5, b6, b7, b8, -, b10, b11, b12, b13, b14, b15⟩, hw, hlt, hr⟩ := hI
  have o11 := hO.2
  have tk := (hT i hi).1
  rw [hk] at tk
  have tk : I (M + 3) i = nI 21 := tk
  obtain ⟨J1, a1, a2, a3⟩ := r_room (L := L) (x := nch) (m := 20) h hS hT hO hi (by omega) (by decide)
  have t1 := hT.kept a3 pP_t
  by_cases gn : nch = 20
  · rw [if_pos gn] at a2
    have et : tell2 K nch nrow i = (2, i) := by rw [tell2, if_pos (Or.inl ⟨hk, by omega⟩)]
    obtain ⟨f1, f2, f3, f4, t, f5, f6⟩ := a2.2 (by show 2 ≠ 0; decide)
    have f1 : J1 M 13 = nI 2 := f1
    refine ⟨J1, ?_, by rw [et]; exact a2, fun z => absurd z (by rw [et]; show ¬ 2 = 0; decide), a3.weak fun a k => pP_T, fun _ _ => rfl⟩
    show kX12_tellOne_0 [some (Value.ref (M)), none] [] (I, L, Z) = _
    simp (disch := omega) only [kX12_tellOne_0, kX12_tellOne_222, e_sw20_1, h.1, mr_tKind h, ml_tKind h, mr_childMany h, ml_childMany h, o11, tk, b1, b4, a1, f1, e_push, e_pushl, e_iload, e_lload, e_aload, e_istore, e_astore, e_lstore, e_iinc, e_iadd, e_isub, e_imul, e_iand, e_ior, e_ixor, e_ishl, e_ishr, e_iushr, e_idiv, e_irem, e_ladd, e_lsub, e_lmul, e_lcmp, e_mmax, e_mmin, e_i2l, e_l2i, e_i2b, e_i2c, e_dup, e_dup2, e_pop, e_icmp_eq, e_icmp_ne, e_icmp_lt, e_icmp_ge, e_icmp_gt, e_icmp_le, e_if_eq, e_if_ne, e_if_lt, e_if_ge, e_if_gt, e_if_le, e_getI, e_getR, e_putI, e_putZ, e_putR, e_iald, e_bald, e_zald, e_lald, e_aald, e_alen, e_iast, e_bast, e_zast, e_last, e_aast, e_iret, e_zret, e_lret, e_vret, e_obj, e_callV, e_callS, e_callT, e_acpy, e_ldcS, e_dn, e_ag, z_pop, List.getElem?_cons_zero, List.getElem?_cons_succ, List.set_cons_zero, List.set_cons_succ, List.length_cons, List.length_nil, z_nol, Option.map_some, Option.toList_some, Option.toList_none, List.cons_append, List.nil_append, n_lit, n_m1, n_m2, n_m1lt, n_m1le, n_rem, n_div, n_out, n_cl, n_eq, n_le, n_lt, n_add, n_mul, n_sub, n_nle, n_yle, n_nlt, n_ylt, n_neN, z_lay, z_sz, z_str, z_stI, z_stL, z_stR, eq_self, ↓reduceIte, true_and, and_true, and_self, false_and, and_false, or_self, false_or, or_false, true_or, or_true, not_true_eq_false, not_false_eq_true, Nat.reduceLeDiff, Nat.reduceLT, Nat.reduceAdd, Nat.reduceEqDiff, Nat.reduceMul, Nat.reduceSub, Value.category, Nat.zero_le, beq_self_eq_true]
  · rw [if_neg gn] at a2
    have et : tell2 K nch nrow i = thn (thn (thn (thn (adv i) (must2 K 21)) (must2 K 21)) (must2 K 21)) (must2 K 59) := by
      rw [tell2, if_neg (by omega), if_neg (by omega), num_3, thn_assoc]
      congr 1
      funext j
      have eb : body2 K (K i) j = num2 K 3 j := by unfold body2; rw [hk]; rfl
      rw [eb]
    by_cases ga : (adv i).1 = 0
    · obtain ⟨ap, ap4⟩ := adv_lt ga
      have ea : adv i = (0, i + 1) := Prod.ext ga ap
      rw [ea] at a2 et
      rw [thn_0] at et
      have k13 := (a2.1 rfl).1
      have p1 : i + 1 < sz := hS.2.2.2.1 i hi (by omega) (by rw [hk]; unfold inn0; decide)
      have m21 := sp_must (K := K) (inn0_of (k := 21) (by decide) (by decide))
      have w1 := hw.kept a3 (by unfold pP; omega) (by unfold pP; omega)
      have c19 : J1 M 19 = nI sd := by rw [a3 _ _ (by unfold pP; omega)]; exact b1
      have c12 : J1 (M + 12) sd = nI g := by rw [a3 _ _ (by unfold pP; omega)]; exact g2
      obtain ⟨J2, x1, gr1, v1, d1, d2, d3, d4, d5, d0, d6, d7⟩ := r_col (L := L) h hS t1 a2 p1 w1 (fun _ z => by have := hlt z; show _ < i + 1; omega) c19 b2 c12 g1
      rw [thn_0] at d5 d6
      have d6 : (must2 K 21 (i + 1)).1 = 0 → v1 = wc W p.1 (i + 1) ∧ (W (i + 1) ≤ 3 → x1 = W (i + 1) ∧ gr1 = max g (W (i + 1))) := d6
      have t2 := t1.kept d7 pC_t
      have p2 := (m21 (i + 1) (by omega)).lt hS.2.2.2.1 p1
      have e19 : J2 M 19 = nI sd := by rw [d7 _ _ (by unfold pC pB; omega)]; exact c19
      have n2 : (must2 K 21 (i + 1)).1 = 0 → (must2 K 21 (i + 1)).2 = i + 2 := fun z => (must_ok z).2.1
      have l1 : (must2 K 21 (i + 1)).1 = 0 → v1.1 ≠ 0 → v1.2 < i + 2 := fun z => by
        rw [(d6 z).1]
        exact wc_lt (fun y => by have := hlt y; omega)
      obtain ⟨J3, x2, gr2, v2, k1, k2, k3, k4, k5, k0, k6, k7⟩ := r_col (L := L) h hS t2 d5 p2 d0 (fun z y => by rw [n2 z]; exact l1 z y) e19 b2 d3 d4
      have t3 := t2.kept k7 pC_t
      have p3 := thn_lt hS p2 m21
      have h19 : J3 M 19 = nI sd := by rw [k7 _ _ (by unfold pC pB; omega)]; exact e19
      have n3 : (thn (must2 K 21 (i + 1)) (must2 K 21)).1 = 0 → (thn (must2 K 21 (i + 1)) (must2 K 21)).2 = i + 3 := fun z => by
        obtain ⟨y1, y2, y3⟩ := thn_ok z
        rw [y3, (must_ok y2).2.1, n2 y1]
      have l2 : (thn (must2 K 21 (i + 1)) (must2 K 21)).1 = 0 → v2 = wc W v1 (i + 2) ∧ (W (i + 2) ≤ 3 → x2 = W (i + 2) ∧ gr2 = max gr1 (W (i + 2))) := fun z => by
        have y := k6 z
        rw [n2 (thn_0of z)] at y
        exact y
      obtain ⟨J4, x3, gr3, v3, m1, m2, m3, m4, m5, m0, m6, m7⟩ := r_col (L := L) h hS t3 k5 p3 k0 (fun z y => by
        rw [n3 z]
        have := (l2 z).1
        rw [this] at y ⊢
        exact wc_lt (l1 (thn_0of z)) y) h19 b2 k3 k4
      have t4 := t3.kept m7 pC_t
      have p4 := thn_lt hS p3 m21
      have l3 : (thn (thn (must2 K 21 (i + 1)) (must2 K 21)) (must2 K 21)).1 = 0 → v3 = wc W v2 (i + 3) ∧ (W (i + 3) ≤ 3 → x3 = W (i + 3) ∧ gr3 = max gr2 (W (i + 3))) := fun z => by
        have y := m6 z
        rw [n3 (thn_0of z)] at y
        exact y
      obtain ⟨J5, q1, q2, q3⟩ := r_must (L := L) h hS t4 m5 p4 (show 59 < 64 by decide) (show rk 59 = 4 from rfl) (by decide)
      rw [← et] at q2
      have fC5 : frm (pC M sd) J1 J5 := ((d7.trans k7).trans m7).trans (q3.weak fun a k z => Or.inl (pP_B z))
      have f5 : frm (pTl M sd) I J5 := (a3.weak fun a k => pP_T).trans (fC5.weak fun a k => pC_T)
      have s19 : J5 M 19 = nI sd := by rw [f5 _ _ (pT_n (by decide))]; exact b1
      have s10 : J5 (M + 10) sd = nI nch := by rw [fC5 _ _ (by unfold pC pB; omega), a3 _ _ (by unfold pP; omega)]; exact b4
      have go : ∀ J, fX12_tellChild [.ref M] (J1, L, Z) = some (none, (J, L, Z)) → fX12_tellOne [.ref M] (I, L, Z) = some (none, (J, L, Z)) := fun J e => by
        show kX12_tellOne_0 [some (Value.ref (M)), none] [] (I, L, Z) = _
        simp (disch := omega) only [kX12_tellOne_0, kX12_tellOne_222, e_sw20_1, h.1, mr_tKind h, ml_tKind h, mr_childMany h, ml_childMany h, o11, tk, b1, b4, a1, k13, e, e_push, e_pushl, e_iload, e_lload, e_aload, e_istore, e_astore, e_lstore, e_iinc, e_iadd, e_isub, e_imul, e_iand, e_ior, e_ixor, e_ishl, e_ishr, e_iushr, e_idiv, e_irem, e_ladd, e_lsub, e_lmul, e_lcmp, e_mmax, e_mmin, e_i2l, e_l2i, e_i2b, e_i2c, e_dup, e_dup2, e_pop, e_icmp_eq, e_icmp_ne, e_icmp_lt, e_icmp_ge, e_icmp_gt, e_icmp_le, e_if_eq, e_if_ne, e_if_lt, e_if_ge, e_if_gt, e_if_le, e_getI, e_getR, e_putI, e_putZ, e_putR, e_iald, e_bald, e_zald, e_lald, e_aald, e_alen, e_iast, e_bast, e_zast, e_last, e_aast, e_iret, e_zret, e_lret, e_vret, e_obj, e_callV, e_callS, e_callT, e_acpy, e_ldcS, e_dn, e_ag, z_pop, List.getElem?_cons_zero, List.getElem?_cons_succ, List.set_cons_zero, List.set_cons_succ, List.length_cons, List.length_nil, z_nol, Option.map_some, Option.toList_some, Option.toList_none, List.cons_append, List.nil_append, n_lit, n_m1, n_m2, n_m1lt, n_m1le, n_rem, n_div, n_out, n_cl, n_eq, n_le, n_lt, n_add, n_mul, n_sub, n_nle, n_yle, n_nlt, n_ylt, n_neN, z_lay, z_sz, z_str, z_stI, z_stL, z_stR, eq_self, ↓reduceIte, true_and, and_true, and_self, false_and, and_false, or_self, false_or, or_false, true_or, or_true, not_true_eq_false, not_false_eq_true, Nat.reduceLeDiff, Nat.reduceLT, Nat.reduceAdd, Nat.reduceEqDiff, Nat.reduceMul, Nat.reduceSub, Value.category, Nat.zero_le, beq_self_eq_true]
      by_cases gz : (tell2 K nch nrow i).1 = 0
      · have z5 := gz
        rw [et] at z5
        have z4 := thn_0of z5
        have z3 := thn_0of z4
        have z2 := thn_0of z3
        have oo := q2.1 gz
        have s13 := oo.1
        have u19 : z_up J5 (M + 10) sd (nI (nch + 1)) M 19 = nI sd := by rw [zup_off (by omega)]; exact s19
        obtain ⟨s, y1, hF⟩ := tell_form gz
        have hs := hF.2.2.2.1
        rw [y1] at oo
        have oo : okQ J5 M (s + 1) := oo
        have f7 : frm (fun a k => (a = M + 10 ∧ k = sd) ∨ (a = M + 11 ∧ k = 16 * sd + (x1 * 4 + x2))) J5 (z_up (z_up J5 (M + 10) sd (nI (nch + 1))) (M + 11) (16 * sd + (x1 * 4 + x2)) (nI x3)) := ((frm.refl _ _).up (Or.inl ⟨rfl, rfl⟩)).up (Or.inr ⟨rfl, rfl⟩)
        have ex : 16 * sd + 4 * x1 + x2 = 16 * sd + (x1 * 4 + x2) := by omega
        refine ⟨z_up (z_up J5 (M + 10) sd (nI (nch + 1))) (M + 11) (16 * sd + (x1 * 4 + x2)) (nI x3), go _ ?_, ?_, fun _ => ?_, (f5.up (pT_1 (by omega))).up (pT_11 (by omega) (by omega)), fun _ _ => rfl⟩
        · show kX12_tellChild_0 [some (Value.ref (M)), none, none, none] [] (J1, L, Z) = _
          simp (disch := omega) only [kX12_tellChild_0, h.1, mr_childMany h, ml_childMany h, mr_childTold h, ml_childTold h, d1, k1, m1, q1, s13, s19, s10, u19, ex, e_push, e_pushl, e_iload, e_lload, e_aload, e_istore, e_astore, e_lstore, e_iinc, e_iadd, e_isub, e_imul, e_iand, e_ior, e_ixor, e_ishl, e_ishr, e_iushr, e_idiv, e_irem, e_ladd, e_lsub, e_lmul, e_lcmp, e_mmax, e_mmin, e_i2l, e_l2i, e_i2b, e_i2c, e_dup, e_dup2, e_pop, e_icmp_eq, e_icmp_ne, e_icmp_lt, e_icmp_ge, e_icmp_gt, e_icmp_le, e_if_eq, e_if_ne, e_if_lt, e_if_ge, e_if_gt, e_if_le, e_getI, e_getR, e_putI, e_putZ, e_putR, e_iald, e_bald, e_zald, e_lald, e_aald, e_alen, e_iast, e_bast, e_zast, e_last, e_aast, e_iret, e_zret, e_lret, e_vret, e_obj, e_callV, e_callS, e_callT, e_acpy, e_ldcS, e_dn, e_ag, z_pop, List.getElem?_cons_zero, List.getElem?_cons_succ, List.set_cons_zero, List.set_cons_succ, List.length_cons, List.length_nil, z_nol, Option.map_some, Option.toList_some, Option.toList_none, List.cons_append, List.nil_append, n_lit, n_m1, n_m2, n_m1lt, n_m1le, n_rem, n_div, n_out, n_cl, n_eq, n_le, n_lt, n_add, n_mul, n_sub, n_nle, n_yle, n_nlt, n_ylt, n_neN, z_lay, z_sz, z_str, z_stI, z_stL, z_stR, eq_self, ↓reduceIte, true_and, and_true, and_self, false_and, and_false, or_self, false_or, or_false, true_or, or_true, not_true_eq_false, not_false_eq_true, Nat.reduceLeDiff, Nat.reduceLT, Nat.reduceAdd, Nat.reduceEqDiff, Nat.reduceMul, Nat.reduceSub, Value.category, Nat.zero_le, beq_self_eq_true]
        · rw [y1]
          exact pqs_ok (oo.kept f7 (by omega) (by omega))
        · rw [y1]
          have W1 := (d6 z2).1
          have W2 := (l2 z3).1
          have W3 := (l3 z4).1
          have mF : ∀ k, k ≠ 11 → k ≠ 13 → k ≠ 14 → k ≠ 15 → k ≠ 16 → z_up (z_up J5 (M + 10) sd (nI (nch + 1))) (M + 11) (16 * sd + (x1 * 4 + x2)) (nI x3) M k = I M k := fun k u1 u2 u3 u4 u5 => by
            rw [f7 _ _ (by omega), fC5 _ _ (by unfold pC pB; omega), a3 _ _ (by unfold pP; omega)]
          have g12 : z_up (z_up J5 (M + 10) sd (nI (nch + 1))) (M + 11) (16 * sd + (x1 * 4 + x2)) (nI x3) (M + 12) sd = nI gr3 := by
            rw [f7 _ _ (by omega), q3 _ _ (by unfold pP; omega)]
            exact m3
          refine ⟨b, c, oo.kept f7 (by omega) (by omega), ?_, ?_, ?_, ?_⟩
          · rw [if_pos hk, if_neg (by omega)]
            exact ⟨by rw [mF _ (by decide) (by decide) (by decide) (by decide) (by decide)]; exact b1, b2, by rw [mF _ (by decide) (by decide) (by decide) (by decide) (by decide)]; exact b3, by rw [zup_off (by omega), zup_at], by omega, by rw [f7 _ _ (by omega), fC5 _ _ (by unfold pC pB; omega), a3 _ _ (by unfold pP; omega)]; exact b6, b7, by rw [mF _ (by decide) (by decide) (by decide) (by decide) (by decide)]; exact b8, ⟨gr3, m4, g12⟩, by rw [mF _ (by decide) (by decide) (by decide) (by decide) (by decide)]; exact b10, b11, by omega, by rw [mF _ (by decide) (by decide) (by decide) (by decide) (by decide)]; exact b13, b14, by omega⟩
          · have wf : wrS (z_up (z_up J5 (M + 10) sd (nI (nch + 1))) (M + 11) (16 * sd + (x1 * 4 + x2)) (nI x3)) M S v3 := (m0.kept q3 (by unfold pP; omega) (by unfold pP; omega)).kept f7 (by omega) (by omega)
            rw [W3, W2, W1] at wf
            by_cases y : p.1.1 = 0
            · rw [stp_y y]
              have em : mTell K W N i p.2 = mChild W (i + 1) p.2 := by rw [mTell, if_neg (by omega), if_pos hk]
              rw [em]
              unfold mChild
              unfold wc at wf
              by_cases c1 : W (i + 1) ≤ 3
              · rw [mCol_y c1, sBind_yes rfl]
                rw [if_pos c1] at wf
                show wrS _ M S ((sBind p.2 (mCol W (i + 1 + 1) _) _).1, (sBind p.2 (mCol W (i + 1 + 1) _) _).2.1)
                by_cases c2 : W (i + 2) ≤ 3
                · rw [mCol_y (i := i + 1 + 1) c2, sBind_yes rfl]
                  rw [if_pos c2] at wf
                  show wrS _ M S ((sBind p.2 (mCol W (i + 1 + 1 + 1) _) _).1, (sBind p.2 (mCol W (i + 1 + 1 + 1) _) _).2.1)
                  by_cases c3 : W (i + 3) ≤ 3
                  · rw [mCol_y (i := i + 1 + 1 + 1) c3, sBind_yes rfl]
                    rw [if_pos c3] at wf
                    exact ⟨by rw [wf.1, y], by show 0 < 8; decide, fun z => absurd rfl z⟩
                  · rw [mCol_n (i := i + 1 + 1 + 1) c3, sBind_no (by show 5 ≠ 0; decide)]
                    rw [if_neg c3, wAdd, if_pos y] at wf
                    exact wf
                · rw [mCol_n (i := i + 1 + 1) c2, sBind_no (by show 5 ≠ 0; decide)]
                  rw [if_neg c2, wAdd, if_pos y] at wf
                  have e5 : (if W (i + 3) ≤ 3 then (5, i + 2) else wAdd (5, i + 2) 5 (i + 3)) = (5, i + 2) := by
                    split
                    · rfl
                    · exact if_neg (by show ¬ 5 = 0; decide)
                  rw [e5] at wf
                  exact wf
              · rw [mCol_n c1, sBind_no (by show 5 ≠ 0; decide)]
                rw [if_neg c1, wAdd, if_pos y] at wf
                have e4 : (if W (i + 2) ≤ 3 then (5, i + 1) else wAdd (5, i + 1) 5 (i + 2)) = (5, i + 1) := by
                  split
                  · rfl
                  · exact if_neg (by show ¬ 5 = 0; decide)
                have e5 : (if W (i + 3) ≤ 3 then (5, i + 1) else wAdd (5, i + 1) 5 (i + 3)) = (5, i + 1) := by
                  split
                  · rfl
                  · exact if_neg (by show ¬ 5 = 0; decide)
                rw [e4, e5] at wf
                exact wf
            · rw [stp_n y]
              have e1 : ∀ j, wc W p.1 j = p.1 := fun j => by
                unfold wc wAdd
                rw [if_neg y]
                split <;> rfl
              rw [e1, e1, e1] at wf
              exact wf
          · by_cases y : p.1.1 = 0
            · rw [stp_y y]
              intro y2
              have bb := mTell_bad hF y2
              have : (mTell K W N i p.2).2.1 < s := bb.2.2.2
              show (mTell K W N i p.2).2.1 < s + 1
              omega
            · rw [stp_n y]
              intro _
              have := hlt y
              omega
          · by_cases y : p.1.1 = 0
            · rw [stp_y y]
              have em : mTell K W N i p.2 = mChild W (i + 1) p.2 := by rw [mTell, if_neg (by omega), if_pos hk]
              rw [em]
              unfold mChild
              have hA0 := hA y
              have r0 := (hr y).kept (a3.weak fun a k z => (show pM M a k from z.1)) (fun a k z => Or.inl z)
              have eg := g3 y
              by_cases c1 : W (i + 1) ≤ 3
              · rw [mCol_y c1, sBind_yes rfl]
                show (sBind p.2 (mCol W (i + 1 + 1) (fUp p.2 1 (max (p.2 1) (W (i + 1))))) _).1 = 0 → rrA _ L M sd K W b c (sBind p.2 (mCol W (i + 1 + 1) (fUp p.2 1 (max (p.2 1) (W (i + 1))))) _).2.2
                obtain ⟨u1, u2⟩ := (d6 z2).2 c1
                have hA1 := mOK_col hA0 c1
                rw [eg] at u2
                have r1 := r0.col hA0 d7 (by rw [d3, u2])
                have A1 : fUp p.2 1 (max (p.2 1) (W (i + 1))) 1 = gr1 := by rw [fUp_at, u2]
                generalize fUp p.2 1 (max (p.2 1) (W (i + 1))) = B1 at hA1 r1 A1 ⊢
                by_cases c2 : W (i + 2) ≤ 3
                · rw [mCol_y (i := i + 1 + 1) c2, sBind_yes rfl]
                  show (sBind p.2 (mCol W (i + 1 + 1 + 1) (fUp B1 1 (max (B1 1) (W (i + 1 + 1))))) _).1 = 0 → rrA _ L M sd K W b c (sBind p.2 (mCol W (i + 1 + 1 + 1) (fUp B1 1 (max (B1 1) (W (i + 1 + 1))))) _).2.2
                  obtain ⟨u3, u4⟩ := (l2 z3).2 c2
                  have hA2 := mOK_col (i := i + 1 + 1) hA1 c2
                  have r2 : rrA J3 L M sd K W b c (fUp B1 1 (max (B1 1) (W (i + 1 + 1)))) := r1.col hA1 k7 (by rw [k3, u4, A1])
                  have A2 : fUp B1 1 (max (B1 1) (W (i + 1 + 1))) 1 = gr2 := by rw [fUp_at, u4, A1]
                  generalize fUp B1 1 (max (B1 1) (W (i + 1 + 1))) = B2 at hA2 r2 A2 ⊢
                  by_cases c3 : W (i + 3) ≤ 3
                  · rw [mCol_y (i := i + 1 + 1 + 1) c3, sBind_yes rfl]
                    intro _
                    obtain ⟨u5, u6⟩ := (l3 z4).2 c3
                    have hA3 := mOK_col (i := i + 1 + 1 + 1) hA2 c3
                    have r3 : rrA J4 L M sd K W b c (fUp B2 1 (max (B2 1) (W (i + 1 + 1 + 1)))) := r2.col hA2 m7 (by rw [m3, u6, A2])
                    have r4 := r3.kept (q3.weak fun a k z => (show pM M a k from z.1)) (fun a k z => Or.inl z)
                    have r5 : rrA (z_up J5 (M + 10) sd (nI (nch + 1))) L M sd K W b c (fUp B2 1 (max (B2 1) (W (i + 1 + 1 + 1)))) := r4.kept (P := fun a _ => a = M + 10) ((frm.refl _ _).up rfl) (fun a k z => Or.inr (Or.inr z))
                    have r6 := r5.child (x := x3) (j := x1 * 4 + x2) hA3 (by omega)
                    show rrA _ L M sd K W b c (fUp (fUp B2 1 (max (B2 1) (W (i + 1 + 1 + 1)))) (10 + (W (i + 1) * 4 + W (i + 1 + 1))) (W (i + 1 + 2) + 1))
                    rw [u1, u3, u5] at r6 ⊢
                    exact r6
                  · rw [mCol_n (i := i + 1 + 1 + 1) c3, sBind_no (by show 5 ≠ 0; decide)]
                    intro z
                    cases z
                · rw [mCol_n (i := i + 1 + 1) c2, sBind_no (by show 5 ≠ 0; decide)]
                  intro z
                  cases z
              · rw [mCol_n c1, sBind_no (by show 5 ≠ 0; decide)]
                intro z
                cases z
            · rw [stp_n y]
              intro y2
              exact absurd y2 y
      · have fl := q2.2 gz
        obtain ⟨f1, f2, f3, f4, t, f5', f6⟩ := id fl
        refine ⟨J5, go _ ?_, q2, fun z => absurd z gz, f5, fun _ _ => rfl⟩
        show kX12_tellChild_0 [some (Value.ref (M)), none, none, none] [] (J1, L, Z) = _
        simp (disch := omega) only [kX12_tellChild_0, h.1, mr_childMany h, ml_childMany h, mr_childTold h, ml_childTold h, d1, k1, m1, q1, f1, f2, e_push, e_pushl, e_iload, e_lload, e_aload, e_istore, e_astore, e_lstore, e_iinc, e_iadd, e_isub, e_imul, e_iand, e_ior, e_ixor, e_ishl, e_ishr, e_iushr, e_idiv, e_irem, e_ladd, e_lsub, e_lmul, e_lcmp, e_mmax, e_mmin, e_i2l, e_l2i, e_i2b, e_i2c, e_dup, e_dup2, e_pop, e_icmp_eq, e_icmp_ne, e_icmp_lt, e_icmp_ge, e_icmp_gt, e_icmp_le, e_if_eq, e_if_ne, e_if_lt, e_if_ge, e_if_gt, e_if_le, e_getI, e_getR, e_putI, e_putZ, e_putR, e_iald, e_bald, e_zald, e_lald, e_aald, e_alen, e_iast, e_bast, e_zast, e_last, e_aast, e_iret, e_zret, e_lret, e_vret, e_obj, e_callV, e_callS, e_callT, e_acpy, e_ldcS, e_dn, e_ag, z_pop, List.getElem?_cons_zero, List.getElem?_cons_succ, List.set_cons_zero, List.set_cons_succ, List.length_cons, List.length_nil, z_nol, Option.map_some, Option.toList_some, Option.toList_none, List.cons_append, List.nil_append, n_lit, n_m1, n_m2, n_m1lt, n_m1le, n_rem, n_div, n_out, n_cl, n_eq, n_le, n_lt, n_add, n_mul, n_sub, n_nle, n_yle, n_nlt, n_ylt, n_neN, z_lay, z_sz, z_str, z_stI, z_stL, z_stR, eq_self, ↓reduceIte, true_and, and_true, and_self, false_and, and_false, or_self, false_or, or_false, true_or, or_true, not_true_eq_false, not_false_eq_true, Nat.reduceLeDiff, Nat.reduceLT, Nat.reduceAdd, Nat.reduceEqDiff, Nat.reduceMul, Nat.reduceSub, Value.category, Nat.zero_le, beq_self_eq_true]
    · have fl := a2.2 ga
      have et2 : tell2 K nch nrow i = adv i := by rw [et, thn_no ga, thn_no ga, thn_no ga, thn_no ga]
      obtain ⟨f1, f2, f3, f4, t, f5, f6⟩ := id fl
      refine ⟨J1, ?_, by rw [et2]; exact a2, fun z => absurd z (by rw [et2]; exact ga), a3.weak fun a k => pP_T, fun _ _ => rfl⟩
      show kX12_tellOne_0 [some (Value.ref (M)), none] [] (I, L, Z) = _
      simp (disch := omega) only [kX12_tellOne_0, kX12_tellOne_222, e_sw20_1, h.1, mr_tKind h, ml_tKind h, mr_childMany h, ml_childMany h, o11, tk, b1, b4, a1, f1, f2, e_push, e_pushl, e_iload, e_lload, e_aload, e_istore, e_astore, e_lstore, e_iinc, e_iadd, e_isub, e_imul, e_iand, e_ior, e_ixor, e_ishl, e_ishr, e_iushr, e_idiv, e_irem, e_ladd, e_lsub, e_lmul, e_lcmp, e_mmax, e_mmin, e_i2l, e_l2i, e_i2b, e_i2c, e_dup, e_dup2, e_pop, e_icmp_eq, e_icmp_ne, e_icmp_lt, e_icmp_ge, e_icmp_gt, e_icmp_le, e_if_eq, e_if_ne, e_if_lt, e_if_ge, e_if_gt, e_if_le, e_getI, e_getR, e_putI, e_putZ, e_putR, e_iald, e_bald, e_zald, e_lald, e_aald, e_alen, e_iast, e_bast, e_zast, e_last, e_aast, e_iret, e_zret, e_lret, e_vret, e_obj, e_callV, e_callS, e_callT, e_acpy, e_ldcS, e_dn, e_ag, z_pop, List.getElem?_cons_zero, List.getElem?_cons_succ, List.set_cons_zero, List.set_cons_succ, List.length_cons, List.length_nil, z_nol, Option.map_some, Option.toList_some, Option.toList_none, List.cons_append, List.nil_append, n_lit, n_m1, n_m2, n_m1lt, n_m1le, n_rem, n_div, n_out, n_cl, n_eq, n_le, n_lt, n_add, n_mul, n_sub, n_nle, n_yle, n_nlt, n_ylt, n_neN, z_lay, z_sz, z_str, z_stI, z_stL, z_stR, eq_self, ↓reduceIte, true_and, and_true, and_self, false_and, and_false, or_self, false_or, or_false, true_or, or_true, not_true_eq_false, not_false_eq_true, Nat.reduceLeDiff, Nat.reduceLT, Nat.reduceAdd, Nat.reduceEqDiff, Nat.reduceMul, Nat.reduceSub, Value.category, Nat.zero_le, beq_self_eq_true]
