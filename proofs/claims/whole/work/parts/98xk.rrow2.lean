/-! read: the reference's rows as tells -/
noncomputable def wnm (L : Nat → Nat → Int64) (M tk o n : Nat) (w : Nat × Nat) : Nat × Nat := if w.1 ≠ 0 then w else ifP (∃ x, o ≤ x ∧ x < n ∧ L (M + 8) x = L (M + 6) tk) (3, tk) w
theorem r_names {L : Nat → Nat → Int64} {Z : zZ} {M sz nrow tk i kx : Nat} {K W S : Nat → Nat} (h : isMod Z M) (hS : tkS K W S sz) (htk : tk < sz) (hn : nrow ≤ 4) : ∀ m o (I : Nat → Nat → Int32) (w : Nat × Nat), o + m = nrow → tokR I M K W S sz → okQ I M i → wrS I M S w → (w.1 ≠ 0 → w.2 < tk ∨ (w.2 = tk ∧ w.1 ≤ 3)) → I M 20 = nI nrow → ∃ J, q_lp bX12_tellRow_29 [some (Value.ref (M)), some (Value.int (nI (kx))), some (Value.int (nI (tk))), some (Value.int (nI (o)))] [] (I, L, Z) = kX12_tellRow_72 [some (Value.ref (M)), some (Value.int (nI (kx))), some (Value.int (nI (tk))), some (Value.int (nI (nrow)))] [] (J, L, Z) ∧ okQ J M i ∧ wrS J M S (wnm L M tk o nrow w) ∧ frm (fun a f => a = M ∧ (f = 15 ∨ f = 16)) I J := by
  have sz4 := hS.2.1
  intro m
  induction m with
  | zero =>
    intro o I w hm hT hO hw hlt h20
    obtain rfl : o = nrow := by omega
    have e : wnm L M tk o o w = w := by
      unfold wnm
      by_cases z : w.1 ≠ 0
      · rw [if_pos z]
      · rw [if_neg z, ifP_neg (fun ⟨x, x1, x2, _⟩ => by omega)]
    rw [e]
    refine ⟨I, q_lp_dn ?_, hO, hw, frm.refl _ _⟩
    simp (disch := omega) only [bX12_tellRow_29, h.1, h20, e_push, e_pushl, e_iload, e_lload, e_aload, e_istore, e_astore, e_lstore, e_iinc, e_iadd, e_isub, e_imul, e_iand, e_ior, e_ixor, e_ishl, e_ishr, e_iushr, e_idiv, e_irem, e_ladd, e_lsub, e_lmul, e_lcmp, e_mmax, e_mmin, e_i2l, e_l2i, e_i2b, e_i2c, e_dup, e_dup2, e_pop, e_icmp_eq, e_icmp_ne, e_icmp_lt, e_icmp_ge, e_icmp_gt, e_icmp_le, e_if_eq, e_if_ne, e_if_lt, e_if_ge, e_if_gt, e_if_le, e_getI, e_getR, e_putI, e_putZ, e_putR, e_iald, e_bald, e_zald, e_lald, e_aald, e_alen, e_iast, e_bast, e_zast, e_last, e_aast, e_iret, e_zret, e_lret, e_vret, e_obj, e_callV, e_callS, e_callT, e_acpy, e_ldcS, e_dn, e_ag, z_pop, List.getElem?_cons_zero, List.getElem?_cons_succ, List.set_cons_zero, List.set_cons_succ, List.length_cons, List.length_nil, z_nol, Option.map_some, Option.toList_some, Option.toList_none, List.cons_append, List.nil_append, n_lit, n_m1, n_m2, n_m1lt, n_m1le, n_rem, n_div, n_out, n_cl, n_eq, n_le, n_lt, n_add, n_mul, n_sub, n_nle, n_yle, n_nlt, n_ylt, n_neN, z_lay, z_sz, z_str, z_stI, z_stL, z_stR, eq_self, ↓reduceIte, true_and, and_true, and_self, false_and, and_false, or_self, false_or, or_false, true_or, or_true, not_true_eq_false, not_false_eq_true, Nat.reduceLeDiff, Nat.reduceLT, Nat.reduceAdd, Nat.reduceEqDiff, Nat.reduceMul, Nat.reduceSub, Value.category, Nat.zero_le, beq_self_eq_true]
  | succ m ih =>
    intro o I w hm hT hO hw hlt h20
    have o13 := hO.1
    by_cases g : L (M + 8) o = L (M + 6) tk
    · obtain ⟨J1, k1, k2, k3, k4⟩ := r_wrong (L := L) (k := 3) h hS hT hO htk hw (by decide) (by decide) hlt
      have t1 := hT.kept k4 (fun a k z => by omega)
      obtain ⟨J, j1, j2, j3, j4⟩ := ih (o + 1) J1 (wAdd w 3 tk) (by omega) t1 k2 k3 (by
        unfold wAdd
        split
        · exact fun _ => Or.inr ⟨rfl, Nat.le_refl _⟩
        · exact hlt) (by rw [k4 _ _ (by omega)]; exact h20)
      have e : wnm L M tk (o + 1) nrow (wAdd w 3 tk) = wnm L M tk o nrow w := by
        unfold wnm wAdd
        by_cases z : w.1 = 0
        · rw [if_pos z, if_pos (by show 3 ≠ 0; decide), if_neg (fun y => y z), ifP_pos ⟨o, Nat.le_refl _, by omega, g⟩]
        · rw [if_neg z, if_pos z, if_pos z]
      rw [e] at j3
      refine ⟨J, ?_, j2, j3, k4.trans j4⟩
      rw [← j1, q_lp_eq, show bX12_tellRow_29 [some (Value.ref (M)), some (Value.int (nI (kx))), some (Value.int (nI (tk))), some (Value.int (nI (o)))] [] (I, L, Z) = some (.inl ([some (Value.ref (M)), some (Value.int (nI (kx))), some (Value.int (nI (tk))), some (Value.int (nI (o + 1)))], (J1, L, Z))) by simp (disch := omega) only [bX12_tellRow_29, kX12_tellRow_66, h.1, mr_nameOf h, ml_nameOf h, mr_tName h, ml_tName h, h20, o13, lc_eq, g, k1, e_push, e_pushl, e_iload, e_lload, e_aload, e_istore, e_astore, e_lstore, e_iinc, e_iadd, e_isub, e_imul, e_iand, e_ior, e_ixor, e_ishl, e_ishr, e_iushr, e_idiv, e_irem, e_ladd, e_lsub, e_lmul, e_lcmp, e_mmax, e_mmin, e_i2l, e_l2i, e_i2b, e_i2c, e_dup, e_dup2, e_pop, e_icmp_eq, e_icmp_ne, e_icmp_lt, e_icmp_ge, e_icmp_gt, e_icmp_le, e_if_eq, e_if_ne, e_if_lt, e_if_ge, e_if_gt, e_if_le, e_getI, e_getR, e_putI, e_putZ, e_putR, e_iald, e_bald, e_zald, e_lald, e_aald, e_alen, e_iast, e_bast, e_zast, e_last, e_aast, e_iret, e_zret, e_lret, e_vret, e_obj, e_callV, e_callS, e_callT, e_acpy, e_ldcS, e_dn, e_ag, z_pop, List.getElem?_cons_zero, List.getElem?_cons_succ, List.set_cons_zero, List.set_cons_succ, List.length_cons, List.length_nil, z_nol, Option.map_some, Option.toList_some, Option.toList_none, List.cons_append, List.nil_append, n_lit, n_m1, n_m2, n_m1lt, n_m1le, n_rem, n_div, n_out, n_cl, n_eq, n_le, n_lt, n_add, n_mul, n_sub, n_nle, n_yle, n_nlt, n_ylt, n_neN, z_lay, z_sz, z_str, z_stI, z_stL, z_stR, eq_self, ↓reduceIte, true_and, and_true, and_self, false_and, and_false, or_self, false_or, or_false, true_or, or_true, not_true_eq_false, not_false_eq_true, Nat.reduceLeDiff, Nat.reduceLT, Nat.reduceAdd, Nat.reduceEqDiff, Nat.reduceMul, Nat.reduceSub, Value.category, Nat.zero_le, beq_self_eq_true]]
    · obtain ⟨J, j1, j2, j3, j4⟩ := ih (o + 1) I w (by omega) hT hO hw hlt h20
      have e : wnm L M tk (o + 1) nrow w = wnm L M tk o nrow w := by
        unfold wnm
        congr 1
        refine ifP_congr ⟨fun ⟨x, x1, x2, x3⟩ => ⟨x, by omega, x2, x3⟩, fun ⟨x, x1, x2, x3⟩ => ⟨x, ?_, x2, x3⟩⟩
        rcases Nat.eq_or_lt_of_le x1 with y | y
        · rw [← y] at x3
          exact absurd x3 g
        · exact y
      rw [e] at j3
      refine ⟨J, ?_, j2, j3, j4⟩
      rw [← j1, q_lp_eq, show bX12_tellRow_29 [some (Value.ref (M)), some (Value.int (nI (kx))), some (Value.int (nI (tk))), some (Value.int (nI (o)))] [] (I, L, Z) = some (.inl ([some (Value.ref (M)), some (Value.int (nI (kx))), some (Value.int (nI (tk))), some (Value.int (nI (o + 1)))], (I, L, Z))) by simp (disch := omega) only [bX12_tellRow_29, kX12_tellRow_66, h.1, mr_nameOf h, ml_nameOf h, mr_tName h, ml_tName h, h20, o13, lc_eq, g, e_push, e_pushl, e_iload, e_lload, e_aload, e_istore, e_astore, e_lstore, e_iinc, e_iadd, e_isub, e_imul, e_iand, e_ior, e_ixor, e_ishl, e_ishr, e_iushr, e_idiv, e_irem, e_ladd, e_lsub, e_lmul, e_lcmp, e_mmax, e_mmin, e_i2l, e_l2i, e_i2b, e_i2c, e_dup, e_dup2, e_pop, e_icmp_eq, e_icmp_ne, e_icmp_lt, e_icmp_ge, e_icmp_gt, e_icmp_le, e_if_eq, e_if_ne, e_if_lt, e_if_ge, e_if_gt, e_if_le, e_getI, e_getR, e_putI, e_putZ, e_putR, e_iald, e_bald, e_zald, e_lald, e_aald, e_alen, e_iast, e_bast, e_zast, e_last, e_aast, e_iret, e_zret, e_lret, e_vret, e_obj, e_callV, e_callS, e_callT, e_acpy, e_ldcS, e_dn, e_ag, z_pop, List.getElem?_cons_zero, List.getElem?_cons_succ, List.set_cons_zero, List.set_cons_succ, List.length_cons, List.length_nil, z_nol, Option.map_some, Option.toList_some, Option.toList_none, List.cons_append, List.nil_append, n_lit, n_m1, n_m2, n_m1lt, n_m1le, n_rem, n_div, n_out, n_cl, n_eq, n_le, n_lt, n_add, n_mul, n_sub, n_nle, n_yle, n_nlt, n_ylt, n_neN, z_lay, z_sz, z_str, z_stI, z_stL, z_stR, eq_self, ↓reduceIte, true_and, and_true, and_self, false_and, and_false, or_self, false_or, or_false, true_or, or_true, not_true_eq_false, not_false_eq_true, Nat.reduceLeDiff, Nat.reduceLT, Nat.reduceAdd, Nat.reduceEqDiff, Nat.reduceMul, Nat.reduceSub, Value.category, Nat.zero_le, beq_self_eq_true]]
theorem r_tellRw {I : Nat → Nat → Int32} {L : Nat → Nat → Int64} {Z : zZ} {M sz sd i nch nrow b c : Nat} {K W S : Nat → Nat} {N : Nat → Nat → Prop} {p : (Nat × Nat) × (Nat → Nat)} (h : isMod Z M) (hS : tkS K W S sz) (hT : tokR I M K W S sz) (hi : i < sz) (hI : TI I L M S sd K W i nch nrow b c p) (hA : p.1.1 = 0 → mOK p.2) (hA2 : p.1.1 = 0 → p.2 2 = nrow ∧ nmOK K sz p.2) (hN : ∀ a d, a < sz → d < sz → K a = 20 → K d = 20 → (L (M + 6) a = L (M + 6) d ↔ N a d)) (hk : K i = 2) : ∃ J L', fX12_tellOne [.ref M] (I, L, Z) = some (none, (J, L', Z)) ∧ tlR I L J L' M S sd K W N i nch nrow p := by
  have sz4 := hS.2.1
  obtain ⟨g, g1, g2, g3⟩ := hI.g hA
  obtain ⟨hO, ⟨b1, b2, b3, b4, b5, b6, b7, b8, -, b10, b11, b12, b13, b14, b15⟩, hw, hlt, hr⟩ := hI
  have o11 := hO.2
  have tk := (hT i hi).1
  rw [hk] at tk
  have tk : I (M + 3) i = nI 22 := tk
  obtain ⟨J1, a1, a2, a3⟩ := r_room (L := L) (x := nrow) (m := 4) h hS hT hO hi (by omega) (by decide)
  have t1 := hT.kept a3 pP_t
  by_cases gn : nrow = 4
  · rw [if_pos gn] at a2
    have et : tell2 K nch nrow i = (2, i) := by rw [tell2, if_pos (Or.inr ⟨hk, by omega⟩)]
    obtain ⟨f1, f2, f3, f4, t, f5, f6⟩ := a2.2 (by show 2 ≠ 0; decide)
    have f1 : J1 M 13 = nI 2 := f1
    refine ⟨J1, L, ?_, by rw [et]; exact a2, fun z => absurd z (by rw [et]; show ¬ 2 = 0; decide), a3.weak fun a k => pP_T, fun _ _ => rfl⟩
    show kX12_tellOne_0 [some (Value.ref (M)), none] [] (I, L, Z) = _
    simp (disch := omega) only [kX12_tellOne_0, kX12_tellOne_222, e_sw20_2, h.1, mr_tKind h, ml_tKind h, mr_rowMany h, ml_rowMany h, o11, tk, b1, b6, a1, f1, e_push, e_pushl, e_iload, e_lload, e_aload, e_istore, e_astore, e_lstore, e_iinc, e_iadd, e_isub, e_imul, e_iand, e_ior, e_ixor, e_ishl, e_ishr, e_iushr, e_idiv, e_irem, e_ladd, e_lsub, e_lmul, e_lcmp, e_mmax, e_mmin, e_i2l, e_l2i, e_i2b, e_i2c, e_dup, e_dup2, e_pop, e_icmp_eq, e_icmp_ne, e_icmp_lt, e_icmp_ge, e_icmp_gt, e_icmp_le, e_if_eq, e_if_ne, e_if_lt, e_if_ge, e_if_gt, e_if_le, e_getI, e_getR, e_putI, e_putZ, e_putR, e_iald, e_bald, e_zald, e_lald, e_aald, e_alen, e_iast, e_bast, e_zast, e_last, e_aast, e_iret, e_zret, e_lret, e_vret, e_obj, e_callV, e_callS, e_callT, e_acpy, e_ldcS, e_dn, e_ag, z_pop, List.getElem?_cons_zero, List.getElem?_cons_succ, List.set_cons_zero, List.set_cons_succ, List.length_cons, List.length_nil, z_nol, Option.map_some, Option.toList_some, Option.toList_none, List.cons_append, List.nil_append, n_lit, n_m1, n_m2, n_m1lt, n_m1le, n_rem, n_div, n_out, n_cl, n_eq, n_le, n_lt, n_add, n_mul, n_sub, n_nle, n_yle, n_nlt, n_ylt, n_neN, z_lay, z_sz, z_str, z_stI, z_stL, z_stR, eq_self, ↓reduceIte, true_and, and_true, and_self, false_and, and_false, or_self, false_or, or_false, true_or, or_true, not_true_eq_false, not_false_eq_true, Nat.reduceLeDiff, Nat.reduceLT, Nat.reduceAdd, Nat.reduceEqDiff, Nat.reduceMul, Nat.reduceSub, Value.category, Nat.zero_le, beq_self_eq_true]
  · have nr4 : nrow < 4 := by omega
    rw [if_neg gn] at a2
    have et : tell2 K nch nrow i = thn (thn (thn (thn (adv i) (must2 K 20)) (must2 K 21)) (seats2 K 7)) (must2 K 59) := by
      rw [tell2, if_neg (by omega), if_neg (by omega), thn_assoc, thn_assoc, thn_assoc]
      congr 1
      funext j
      have eb : body2 K (K i) j = row2 K j := by unfold body2; rw [hk]; rfl
      rw [eb]
      unfold row2
      rw [thn_assoc]
      congr 1
      funext j
      rw [thn_assoc]
    by_cases ga : (adv i).1 = 0
    · obtain ⟨ap, ap4⟩ := adv_lt ga
      have ea : adv i = (0, i + 1) := Prod.ext ga ap
      rw [ea] at a2 et
      rw [thn_0] at et
      have a2 := a2.1 rfl
      have a2 : okQ J1 M (i + 1) := a2
      have k13 := a2.1
      have k11 := a2.2
      have p1 : i + 1 < sz := hS.2.2.2.1 i hi (by omega) (by rw [hk]; unfold inn0; decide)
      have w1 := hw.kept a3 (by unfold pP; omega) (by unfold pP; omega)
      have c19 : J1 M 19 = nI sd := by rw [a3 _ _ (by unfold pP; omega)]; exact b1
      have c12 : J1 (M + 12) sd = nI g := by rw [a3 _ _ (by unfold pP; omega)]; exact g2
      have c13 : J1 (M + 13) sd = nI nrow := by rw [a3 _ _ (by unfold pP; omega)]; exact b6
      have c20 : J1 M 20 = nI nrow := by rw [a3 _ _ (by unfold pP; omega)]; exact b8
      obtain ⟨J2, d1, d2, d3⟩ := r_must (L := L) (q := (0, i + 1)) h hS t1 (pqs_ok a2) p1 (show 20 < 64 by decide) (show rk 20 = 1 from rfl) (by decide)
      rw [thn_0] at d2
      have t2 := t1.kept d3 pP_t
      have go : ∀ J L', fX12_tellRow [.ref M] (J1, L, Z) = some (none, (J, L', Z)) → fX12_tellOne [.ref M] (I, L, Z) = some (none, (J, L', Z)) := fun J L' e => by
        show kX12_tellOne_0 [some (Value.ref (M)), none] [] (I, L, Z) = _
        simp (disch := omega) only [kX12_tellOne_0, kX12_tellOne_222, e_sw20_2, h.1, mr_tKind h, ml_tKind h, mr_rowMany h, ml_rowMany h, o11, tk, b1, b6, a1, k13, e, e_push, e_pushl, e_iload, e_lload, e_aload, e_istore, e_astore, e_lstore, e_iinc, e_iadd, e_isub, e_imul, e_iand, e_ior, e_ixor, e_ishl, e_ishr, e_iushr, e_idiv, e_irem, e_ladd, e_lsub, e_lmul, e_lcmp, e_mmax, e_mmin, e_i2l, e_l2i, e_i2b, e_i2c, e_dup, e_dup2, e_pop, e_icmp_eq, e_icmp_ne, e_icmp_lt, e_icmp_ge, e_icmp_gt, e_icmp_le, e_if_eq, e_if_ne, e_if_lt, e_if_ge, e_if_gt, e_if_le, e_getI, e_getR, e_putI, e_putZ, e_putR, e_iald, e_bald, e_zald, e_lald, e_aald, e_alen, e_iast, e_bast, e_zast, e_last, e_aast, e_iret, e_zret, e_lret, e_vret, e_obj, e_callV, e_callS, e_callT, e_acpy, e_ldcS, e_dn, e_ag, z_pop, List.getElem?_cons_zero, List.getElem?_cons_succ, List.set_cons_zero, List.set_cons_succ, List.length_cons, List.length_nil, z_nol, Option.map_some, Option.toList_some, Option.toList_none, List.cons_append, List.nil_append, n_lit, n_m1, n_m2, n_m1lt, n_m1le, n_rem, n_div, n_out, n_cl, n_eq, n_le, n_lt, n_add, n_mul, n_sub, n_nle, n_yle, n_nlt, n_ylt, n_neN, z_lay, z_sz, z_str, z_stI, z_stL, z_stR, eq_self, ↓reduceIte, true_and, and_true, and_self, false_and, and_false, or_self, false_or, or_false, true_or, or_true, not_true_eq_false, not_false_eq_true, Nat.reduceLeDiff, Nat.reduceLT, Nat.reduceAdd, Nat.reduceEqDiff, Nat.reduceMul, Nat.reduceSub, Value.category, Nat.zero_le, beq_self_eq_true]
      have go2 : ∀ J L', q_lp bX12_tellRow_29 [some (Value.ref (M)), some (Value.int (nI (4 * sd + nrow))), some (Value.int (nI (i + 1))), some (Value.int (nI (0)))] [] (J2, L, Z) = some (none, (J, L', Z)) → fX12_tellRow [.ref M] (J1, L, Z) = some (none, (J, L', Z)) := fun J L' e => by
        show kX12_tellRow_0 [some (Value.ref (M)), none, none, none] [] (J1, L, Z) = _
        simp (disch := omega) only [kX12_tellRow_0, kX12_tellRow_29, h.1, mr_rowMany h, ml_rowMany h, c19, c13, k11, d1, e, e_push, e_pushl, e_iload, e_lload, e_aload, e_istore, e_astore, e_lstore, e_iinc, e_iadd, e_isub, e_imul, e_iand, e_ior, e_ixor, e_ishl, e_ishr, e_iushr, e_idiv, e_irem, e_ladd, e_lsub, e_lmul, e_lcmp, e_mmax, e_mmin, e_i2l, e_l2i, e_i2b, e_i2c, e_dup, e_dup2, e_pop, e_icmp_eq, e_icmp_ne, e_icmp_lt, e_icmp_ge, e_icmp_gt, e_icmp_le, e_if_eq, e_if_ne, e_if_lt, e_if_ge, e_if_gt, e_if_le, e_getI, e_getR, e_putI, e_putZ, e_putR, e_iald, e_bald, e_zald, e_lald, e_aald, e_alen, e_iast, e_bast, e_zast, e_last, e_aast, e_iret, e_zret, e_lret, e_vret, e_obj, e_callV, e_callS, e_callT, e_acpy, e_ldcS, e_dn, e_ag, z_pop, List.getElem?_cons_zero, List.getElem?_cons_succ, List.set_cons_zero, List.set_cons_succ, List.length_cons, List.length_nil, z_nol, Option.map_some, Option.toList_some, Option.toList_none, List.cons_append, List.nil_append, n_lit, n_m1, n_m2, n_m1lt, n_m1le, n_rem, n_div, n_out, n_cl, n_eq, n_le, n_lt, n_add, n_mul, n_sub, n_nle, n_yle, n_nlt, n_ylt, n_neN, z_lay, z_sz, z_str, z_stI, z_stL, z_stR, eq_self, ↓reduceIte, true_and, and_true, and_self, false_and, and_false, or_self, false_or, or_false, true_or, or_true, not_true_eq_false, not_false_eq_true, Nat.reduceLeDiff, Nat.reduceLT, Nat.reduceAdd, Nat.reduceEqDiff, Nat.reduceMul, Nat.reduceSub, Value.category, Nat.zero_le, beq_self_eq_true]
      by_cases gm : (must2 K 20 (i + 1)).1 = 0
      · obtain ⟨m1, m2, m3, m4⟩ := must_ok gm
        rw [m4] at d2 et
        rw [thn_0] at et
        have d2 := d2.1 rfl
        have d2 : okQ J2 M (i + 2) := d2
        have p2 : i + 2 < sz := hS.2.2.2.1 (i + 1) p1 (by omega) (by rw [m1]; unfold inn0; decide)
        obtain ⟨J3, e1, e2, e3, e4⟩ := r_names (L := L) (kx := 4 * sd + nrow) (tk := i + 1) (i := i + 2) h hS p1 b7 nrow 0 J2 p.1 (by omega) t2 d2 (w1.kept d3 (by unfold pP; omega) (by unfold pP; omega)) (fun z => Or.inl (by have := hlt z; omega)) (by rw [d3 _ _ (by unfold pP; omega)]; exact c20)
        have t3 := t2.kept e4 (fun a k z => by omega)
        have f13 : frm (pB M) J1 J3 := (d3.weak fun a k => pP_B).trans (e4.weak fun a k z => ⟨z.1, by omega⟩)
        have h19 : J3 M 19 = nI sd := by rw [f13 _ _ (by unfold pB; omega)]; exact c19
        have h12 : J3 (M + 12) sd = nI g := by rw [f13 _ _ (by unfold pB; omega)]; exact c12
        have wl : (wnm L M (i + 1) 0 nrow p.1).1 ≠ 0 → (wnm L M (i + 1) 0 nrow p.1).2 < i + 2 := by
          unfold wnm
          by_cases z : p.1.1 ≠ 0
          · rw [if_pos z]
            intro _
            have := hlt z
            omega
          · rw [if_neg z]
            by_cases y : ∃ x, 0 ≤ x ∧ x < nrow ∧ L (M + 8) x = L (M + 6) (i + 1)
            · rw [ifP_pos y]
              intro _
              show i + 1 < i + 2
              omega
            · rw [ifP_neg y]
              exact fun q => absurd q z
        generalize hwn : wnm L M (i + 1) 0 nrow p.1 = wn at e3 wl
        obtain ⟨J4, x, gr1, w4, q2, q3, q4, q5, q6, q7, q8, q9⟩ := r_seat1 (L := L) (n := 0) (r := nrow) h hS t3 e2 p2 e3 wl h19 b2 h12 g1 (by decide) (by omega) (Or.inl rfl)
        have e72 : kX12_tellRow_72 [some (Value.ref (M)), some (Value.int (nI (4 * sd + nrow))), some (Value.int (nI (i + 1))), some (Value.int (nI (nrow)))] [] (J3, L, Z) = q_lp bX12_tellRow_74 [some (Value.ref (M)), some (Value.int (nI (4 * sd + nrow))), some (Value.int (nI (i + 1))), some (Value.int (nI (0)))] [] (J3, L, Z) := by
          generalize hX : q_lp bX12_tellRow_74 = X
          have eX : kX12_tellRow_74 = X := hX
          simp (disch := omega) only [kX12_tellRow_72, eX, e_push, e_pushl, e_iload, e_lload, e_aload, e_istore, e_astore, e_lstore, e_iinc, e_iadd, e_isub, e_imul, e_iand, e_ior, e_ixor, e_ishl, e_ishr, e_iushr, e_idiv, e_irem, e_ladd, e_lsub, e_lmul, e_lcmp, e_mmax, e_mmin, e_i2l, e_l2i, e_i2b, e_i2c, e_dup, e_dup2, e_pop, e_icmp_eq, e_icmp_ne, e_icmp_lt, e_icmp_ge, e_icmp_gt, e_icmp_le, e_if_eq, e_if_ne, e_if_lt, e_if_ge, e_if_gt, e_if_le, e_getI, e_getR, e_putI, e_putZ, e_putR, e_iald, e_bald, e_zald, e_lald, e_aald, e_alen, e_iast, e_bast, e_zast, e_last, e_aast, e_iret, e_zret, e_lret, e_vret, e_obj, e_callV, e_callS, e_callT, e_acpy, e_ldcS, e_dn, e_ag, z_pop, List.getElem?_cons_zero, List.getElem?_cons_succ, List.set_cons_zero, List.set_cons_succ, List.length_cons, List.length_nil, z_nol, Option.map_some, Option.toList_some, Option.toList_none, List.cons_append, List.nil_append, n_lit, n_m1, n_m2, n_m1lt, n_m1le, n_rem, n_div, n_out, n_cl, n_eq, n_le, n_lt, n_add, n_mul, n_sub, n_nle, n_yle, n_nlt, n_ylt, n_neN, z_lay, z_sz, z_str, z_stI, z_stL, z_stR, eq_self, ↓reduceIte, true_and, and_true, and_self, false_and, and_false, or_self, false_or, or_false, true_or, or_true, not_true_eq_false, not_false_eq_true, Nat.reduceLeDiff, Nat.reduceLT, Nat.reduceAdd, Nat.reduceEqDiff, Nat.reduceMul, Nat.reduceSub, Value.category, Nat.zero_le, beq_self_eq_true]
        have st : q_lp bX12_tellRow_29 [some (Value.ref (M)), some (Value.int (nI (4 * sd + nrow))), some (Value.int (nI (i + 1))), some (Value.int (nI (0)))] [] (J2, L, Z) = q_lp bX12_tellRow_74 [some (Value.ref (M)), some (Value.int (nI (4 * sd + nrow))), some (Value.int (nI (i + 1))), some (Value.int (nI (1)))] [] (z_up J4 (M + 15) (8 * (4 * sd + nrow) + 0) (nI x), L, Z) := by
          rw [e1, e72, q_lp_eq, q2 (i + 1)]
        have f2 : frm (fun a _ => a = M + 15) J4 (z_up J4 (M + 15) (8 * (4 * sd + nrow) + 0) (nI x)) := (frm.refl _ _).up rfl
        have fr3 : frm (pR M sd (4 * sd + nrow)) J3 (z_up J4 (M + 15) (8 * (4 * sd + nrow) + 0) (nI x)) := (q9.weak fun a k => Or.inl).up (Or.inr ⟨rfl, by omega, by omega⟩)
        have fr1 : frm (pR M sd (4 * sd + nrow)) J1 (z_up J4 (M + 15) (8 * (4 * sd + nrow) + 0) (nI x)) := (f13.weak fun a k z => Or.inl (Or.inl z)).trans fr3
        have toT : ∀ J, frm (pR M sd (4 * sd + nrow)) J1 J → frm (pTl M sd) I J := fun J hf => (a3.weak fun a k => pP_T).trans (hf.weak fun a k z => z.elim pC_T (fun y => by rw [y.1]; exact pT_15 (by omega) (by omega)))
        by_cases gs : (must2 K 21 (i + 2)).1 = 0
        · obtain ⟨n1, n2, n3, n4⟩ := must_ok gs
          rw [n4] at q6 q8 et
          rw [thn_0] at et
          have oo := q6.1 rfl
          obtain ⟨s1', s2'⟩ := q8 rfl
          have p3 : i + 3 < sz := hS.2.2.2.1 (i + 2) p2 (by omega) (by rw [n1]; unfold inn0; decide)
          obtain ⟨r1, r2⟩ := r_seatlp (L := L) (tk := i + 1) (r := nrow) h hS b2 (by omega) 7 1 (i + 3) (z_up J4 (M + 15) (8 * (4 * sd + nrow) + 0) (nI x)) w4 gr1 rfl (by decide) (t3.kept fr3 pR_t) (oo.kept f2 (by omega) (by omega)) p3 (q7.kept f2 (by omega) (by omega)) (by rw [s1']; exact wc_lt wl) (by rw [fr3 _ _ (by unfold pR pC pB; omega)]; exact h19) (by rw [zup_off (by omega)]; exact q4) q5
          by_cases gq : (seats2 K 7 (i + 3)).1 = 0
          · obtain ⟨J5, n2', g2', w5, k1, k2, k3, k4, k5, k6, k7, k8, k9⟩ := r1 gq
            clear r1 r2
            have st5 : stR W K J3 J5 M sd nrow 0 8 (i + 2) n2' g g2' wn w5 := stR.step nr4 n1 (by decide) q9 s1' s2' k8
            have fr5 : frm (pR M sd (4 * sd + nrow)) J1 J5 := fr1.trans k9
            have t5 := t1.kept fr5 pR_t
            have sp := spn_seats (K := K) 7 (i + 3) (by omega)
            have p5 : (seats2 K 7 (i + 3)).2 < sz := (sp.weak (fun k hk => ⟨hk.1, hk.2.1⟩)).lt hS.2.2.2.1 p3
            obtain ⟨so1, so2, so3, so4⟩ := seats_ok 7 (i + 3) gq
            obtain ⟨J6, l1, l2, l3⟩ := r_must (L := L) (q := (0, (seats2 K 7 (i + 3)).2)) h hS t5 (pqs_ok k2) p5 (show 59 < 64 by decide) (show rk 59 = 4 from rfl) (by decide)
            have eq0 : thn (0, (seats2 K 7 (i + 3)).2) (must2 K 59) = tell2 K nch nrow i := by
              rw [et]
              congr 1
              exact Prod.ext gq.symm rfl
            rw [eq0] at l2
            have fr6 : frm (pR M sd (4 * sd + nrow)) J1 J6 := fr5.trans (l3.weak fun a k z => Or.inl (Or.inl (pP_B z)))
            have u20 : J6 M 20 = nI nrow := by rw [fr6 _ _ (by unfold pR pC pB; omega)]; exact c20
            have u19 : J6 M 19 = nI sd := by rw [fr6 _ _ (by unfold pR pC pB; omega)]; exact c19
            have u13 : J6 (M + 13) sd = nI nrow := by rw [fr6 _ _ (by unfold pR pC pB; omega)]; exact c13
            by_cases gz : (tell2 K nch nrow i).1 = 0
            · obtain ⟨s, y1, hF⟩ := tell_form gz
              have hs := hF.2.2.2.1
              have oz := l2.1 gz
              rw [y1] at oz
              have oz : okQ J6 M (s + 1) := oz
              have o6 := oz.1
              have n8 : n2' ≤ 8 := by omega
              have v20 : z_up J6 (M + 14) (4 * sd + nrow) (nI n2') M 20 = nI nrow := by rw [zup_off (by omega)]; exact u20
              have v19 : z_up (z_up J6 (M + 14) (4 * sd + nrow) (nI n2')) M 20 (nI (nrow + 1)) M 19 = nI sd := by rw [zup_ne (by omega), zup_off (by omega)]; exact u19
              have v13 : z_up (z_up J6 (M + 14) (4 * sd + nrow) (nI n2')) M 20 (nI (nrow + 1)) (M + 13) sd = nI nrow := by rw [zup_off (by omega), zup_off (by omega)]; exact u13
              have f7 : frm (fun a k => (a = M + 14 ∧ k = 4 * sd + nrow) ∨ (a = M ∧ k = 20) ∨ (a = M + 13 ∧ k = sd)) J6 (z_up (z_up (z_up J6 (M + 14) (4 * sd + nrow) (nI n2')) M 20 (nI (nrow + 1))) (M + 13) sd (nI (nrow + 1))) := (((frm.refl _ _).up (Or.inl ⟨rfl, rfl⟩)).up (Or.inr (Or.inl ⟨rfl, rfl⟩))).up (Or.inr (Or.inr ⟨rfl, rfl⟩))
              have w14 : z_up (z_up (z_up J6 (M + 14) (4 * sd + nrow) (nI n2')) M 20 (nI (nrow + 1))) (M + 13) sd (nI (nrow + 1)) (M + 14) (4 * sd + nrow) = nI n2' := by rw [zup_off (by omega), zup_off (by omega), zup_at]
              have w20 : z_up (z_up (z_up J6 (M + 14) (4 * sd + nrow) (nI n2')) M 20 (nI (nrow + 1))) (M + 13) sd (nI (nrow + 1)) M 20 = nI (nrow + 1) := by rw [zup_off (by omega), zup_at]
              have w13 : z_up (z_up (z_up J6 (M + 14) (4 * sd + nrow) (nI n2')) M 20 (nI (nrow + 1))) (M + 13) sd (nI (nrow + 1)) (M + 13) sd = nI (nrow + 1) := zup_at
              have run : kX12_tellRow_133 [some (Value.ref (M)), some (Value.int (nI (4 * sd + nrow))), some (Value.int (nI (i + 1))), some (Value.int (nI (n2')))] [] (J5, L, Z) = some (none, (z_up (z_up (z_up J6 (M + 14) (4 * sd + nrow) (nI n2')) M 20 (nI (nrow + 1))) (M + 13) sd (nI (nrow + 1)), z_up L (M + 8) nrow (L (M + 6) (i + 1)), Z)) := by
                simp (disch := omega) only [kX12_tellRow_133, h.1, mr_firstLong h, ml_firstLong h, mr_nameOf h, ml_nameOf h, mr_tName h, ml_tName h, mr_rowMany h, ml_rowMany h, l1, o6, u20, v20, v19, v13, e_push, e_pushl, e_iload, e_lload, e_aload, e_istore, e_astore, e_lstore, e_iinc, e_iadd, e_isub, e_imul, e_iand, e_ior, e_ixor, e_ishl, e_ishr, e_iushr, e_idiv, e_irem, e_ladd, e_lsub, e_lmul, e_lcmp, e_mmax, e_mmin, e_i2l, e_l2i, e_i2b, e_i2c, e_dup, e_dup2, e_pop, e_icmp_eq, e_icmp_ne, e_icmp_lt, e_icmp_ge, e_icmp_gt, e_icmp_le, e_if_eq, e_if_ne, e_if_lt, e_if_ge, e_if_gt, e_if_le, e_getI, e_getR, e_putI, e_putZ, e_putR, e_iald, e_bald, e_zald, e_lald, e_aald, e_alen, e_iast, e_bast, e_zast, e_last, e_aast, e_iret, e_zret, e_lret, e_vret, e_obj, e_callV, e_callS, e_callT, e_acpy, e_ldcS, e_dn, e_ag, z_pop, List.getElem?_cons_zero, List.getElem?_cons_succ, List.set_cons_zero, List.set_cons_succ, List.length_cons, List.length_nil, z_nol, Option.map_some, Option.toList_some, Option.toList_none, List.cons_append, List.nil_append, n_lit, n_m1, n_m2, n_m1lt, n_m1le, n_rem, n_div, n_out, n_cl, n_eq, n_le, n_lt, n_add, n_mul, n_sub, n_nle, n_yle, n_nlt, n_ylt, n_neN, z_lay, z_sz, z_str, z_stI, z_stL, z_stR, eq_self, ↓reduceIte, true_and, and_true, and_self, false_and, and_false, or_self, false_or, or_false, true_or, or_true, not_true_eq_false, not_false_eq_true, Nat.reduceLeDiff, Nat.reduceLT, Nat.reduceAdd, Nat.reduceEqDiff, Nat.reduceMul, Nat.reduceSub, Value.category, Nat.zero_le, beq_self_eq_true]
              generalize z_up (z_up (z_up J6 (M + 14) (4 * sd + nrow) (nI n2')) M 20 (nI (nrow + 1))) (M + 13) sd (nI (nrow + 1)) = J7 at f7 w14 w20 w13 run
              have fr7 : frm (pTl M sd) I J7 := (toT J6 fr6).trans (f7.weak fun a k z => by
                rcases z with ⟨z1, z2⟩ | ⟨z1, z2⟩ | ⟨z1, z2⟩
                · exact pT_4 (Or.inl z1) (by omega) (by omega)
                · rw [z1]; exact pT_M (by omega)
                · rw [z2]; exact pT_1 (by omega))
              have L8 : ∀ a, a ≠ M + 8 → z_up L (M + 8) nrow (L (M + 6) (i + 1)) a = L a := fun a ha => lup_off ha
              refine ⟨J7, z_up L (M + 8) nrow (L (M + 6) (i + 1)), go _ _ (go2 _ _ ((st.trans k1).trans run)), ?_, fun _ => ?_, fr7, L8⟩
              · rw [y1]
                exact pqs_ok (oz.kept f7 (by omega) (by omega))
              · rw [y1]
                have mF : ∀ k, k ≠ 11 → k ≠ 13 → k ≠ 14 → k ≠ 15 → k ≠ 16 → k ≠ 20 → J7 M k = I M k := fun k u1 u2 u3 u4 u5 u6 => by
                  rw [f7 _ _ (by omega), fr6 _ _ (by unfold pR pC pB; omega), a3 _ _ (by unfold pP; omega)]
                have g12 : J7 (M + 12) sd = nI g2' := by
                  rw [f7 _ _ (by omega), l3 _ _ (by unfold pP; omega)]
                  exact k4
                have wf : wrS J7 M S w5 := (k6.kept l3 (by unfold pP; omega) (by unfold pP; omega)).kept f7 (by omega) (by omega)
                have dat : p.1.1 = 0 → (mTell K W N i p.2 = (3, i + 1, p.2) ∧ w5 = (3, i + 1)) ∨ (mTell K W N i p.2 = mSeats K W nrow 8 (i + 2) (fUp (fUp p.2 (40 + nrow) (i + 1)) 2 (nrow + 1)) ∧ ((mSeats K W nrow 8 (i + 2) (fUp (fUp p.2 (40 + nrow) (i + 1)) 2 (nrow + 1))).1 = 0 → w5.1 = 0 ∧ g2' = (mSeats K W nrow 8 (i + 2) (fUp (fUp p.2 (40 + nrow) (i + 1)) 2 (nrow + 1))).2.2 1 ∧ (mSeats K W nrow 8 (i + 2) (fUp (fUp p.2 (40 + nrow) (i + 1)) 2 (nrow + 1))).2.2 (30 + nrow) = n2' ∧ ∀ x, x < n2' → J5 (M + 15) (8 * (4 * sd + nrow) + x) = nI ((mSeats K W nrow 8 (i + 2) (fUp (fUp p.2 (40 + nrow) (i + 1)) 2 (nrow + 1))).2.2 (50 + (nrow * 8 + x)))) ∧ ((mSeats K W nrow 8 (i + 2) (fUp (fUp p.2 (40 + nrow) (i + 1)) 2 (nrow + 1))).1 ≠ 0 → w5 = ((mSeats K W nrow 8 (i + 2) (fUp (fUp p.2 (40 + nrow) (i + 1)) 2 (nrow + 1))).1, (mSeats K W nrow 8 (i + 2) (fUp (fUp p.2 (40 + nrow) (i + 1)) 2 (nrow + 1))).2.1))) := by
                  intro y
                  obtain ⟨A2, nm⟩ := hA2 y
                  have hA0 := hA y
                  have em : mTell K W N i p.2 = mRow K W N (i + 1) p.2 := by rw [mTell, if_neg (by omega), if_neg (by omega), if_pos hk]
                  have eqv : (∃ x, 0 ≤ x ∧ x < nrow ∧ L (M + 8) x = L (M + 6) (i + 1)) ↔ (∃ o, o < p.2 2 ∧ N (p.2 (40 + o)) (i + 1)) := by
                    have one : ∀ o, o < nrow → (L (M + 8) o = L (M + 6) (i + 1) ↔ N (p.2 (40 + o)) (i + 1)) := fun o ho => by
                      obtain ⟨u1, u2⟩ := nm o (by omega)
                      rw [(hr y).2.2.2.2.2.2.1 o (by omega)]
                      exact hN _ _ u1 p1 u2 m1
                    exact ⟨fun ⟨x, _, x2, x3⟩ => ⟨x, by omega, (one x x2).mp x3⟩, fun ⟨x, x2, x3⟩ => ⟨x, Nat.zero_le _, by omega, (one x (by omega)).mpr x3⟩⟩
                  rw [em]
                  unfold mRow
                  unfold wnm at hwn
                  rw [if_neg (fun z => z y)] at hwn
                  by_cases dp : ∃ o, o < p.2 2 ∧ N (p.2 (40 + o)) (i + 1)
                  · rw [ifP_pos (eqv.mpr dp)] at hwn
                    rw [ifP_pos dp]
                    exact Or.inl ⟨rfl, by rw [st5.1 (by rw [← hwn]; show 3 ≠ 0; decide), ← hwn]⟩
                  · rw [ifP_neg (fun z => dp (eqv.mp z))] at hwn
                    rw [ifP_neg dp, A2]
                    refine Or.inr ⟨rfl, ?_⟩
                    have hA1 := mOK_name (i := i + 1) hA0 (by omega)
                    rw [A2] at hA1
                    exact st5.2 _ (by rw [← hwn]; exact y) hA1 (by rw [fUp_at]; omega) (by rw [fUp_ne (by omega), fUp_ne (by omega)]; exact hA0.2.2.2.2.2.2.2.2 _ (by omega) nr4) (by rw [fUp_ne (by omega), fUp_ne (by omega)]; exact g3 y) (fun x hx => absurd hx (Nat.not_lt_zero _))
                have datn : p.1.1 ≠ 0 → w5 = p.1 := fun y => by
                  unfold wnm at hwn
                  rw [if_pos y] at hwn
                  have e := st5.1 (by rw [← hwn]; exact y)
                  rw [e, hwn]
                refine ⟨b, c, oz.kept f7 (by omega) (by omega), ?_, ?_, ?_, ?_⟩
                · rw [if_neg (by omega), if_pos hk]
                  exact ⟨by rw [mF _ (by decide) (by decide) (by decide) (by decide) (by decide) (by decide)]; exact b1, b2, by rw [mF _ (by decide) (by decide) (by decide) (by decide) (by decide) (by decide)]; exact b3, by rw [f7 _ _ (by omega), fr6 _ _ (by unfold pR pC pB; omega), a3 _ _ (by unfold pP; omega)]; exact b4, b5, w13, by omega, w20, ⟨g2', k5, g12⟩, by rw [mF _ (by decide) (by decide) (by decide) (by decide) (by decide) (by decide)]; exact b10, b11, by omega, by rw [mF _ (by decide) (by decide) (by decide) (by decide) (by decide) (by decide)]; exact b13, b14, by omega⟩
                · by_cases y : p.1.1 = 0
                  · rw [stp_y y]
                    rcases dat y with ⟨d1', d2'⟩ | ⟨d1', d2', d3'⟩
                    · rw [d1']
                      rw [d2'] at wf
                      exact wf
                    · rw [d1']
                      by_cases q : (mSeats K W nrow 8 (i + 2) (fUp (fUp p.2 (40 + nrow) (i + 1)) 2 (nrow + 1))).1 = 0
                      · obtain ⟨v1, -⟩ := d2' q
                        rw [q]
                        exact ⟨by rw [wf.1, v1], by show 0 < 8; decide, fun z => absurd rfl z⟩
                      · rw [d3' q] at wf
                        exact wf
                  · rw [stp_n y]
                    rw [datn y] at wf
                    exact wf
                · by_cases y : p.1.1 = 0
                  · rw [stp_y y]
                    intro y2
                    have bb := mTell_bad hF y2
                    have : (mTell K W N i p.2).2.1 < s := bb.2.2.2
                    show (mTell K W N i p.2).2.1 < s + 1
                    omega
                  · rw [stp_n y]
                    intro _
                    have := hlt y
                    omega
                · by_cases y : p.1.1 = 0
                  · rw [stp_y y]
                    rcases dat y with ⟨d1', d2'⟩ | ⟨d1', d2', d3'⟩
                    · rw [d1']
                      intro z
                      cases z
                    · rw [d1']
                      intro z
                      obtain ⟨v1, v2, v3, v4⟩ := d2' z
                      obtain ⟨A2, nm⟩ := hA2 y
                      have hA0 := hA y
                      have l0 : fUp (fUp p.2 (40 + nrow) (i + 1)) 2 (nrow + 1) (30 + nrow) = 0 := by rw [fUp_ne (by omega), fUp_ne (by omega)]; exact hA0.2.2.2.2.2.2.2.2 _ (by omega) nr4
                      have fx := mSeats_fix (K := K) (W := W) (r := nrow) 8 (i + 2) (fUp (fUp p.2 (40 + nrow) (i + 1)) 2 (nrow + 1)) (by rw [l0]; decide) nr4
                      show rrA J7 (z_up L (M + 8) nrow (L (M + 6) (i + 1))) M sd K W b c (mSeats K W nrow 8 (i + 2) (fUp (fUp p.2 (40 + nrow) (i + 1)) 2 (nrow + 1))).2.2
                      generalize (mSeats K W nrow 8 (i + 2) (fUp (fUp p.2 (40 + nrow) (i + 1)) 2 (nrow + 1))).2.2 = R at v2 v3 v4 fx ⊢
                      have R2 : R 2 = nrow + 1 := by rw [fx 2 (by decide) (by omega) (by omega), fUp_at]
                      have Rk : ∀ k, k ≠ 1 → k ≠ 2 → k ≠ 30 + nrow → k ≠ 40 + nrow → (k < 50 + nrow * 8 ∨ 50 + nrow * 8 + 8 ≤ k) → R k = p.2 k := fun k k1 k2 k3 k4 k5 => by rw [fx k k1 k3 k5, fUp_ne k2, fUp_ne k4]
                      have cel : ∀ a k, a ≠ M → a ≠ M + 12 → a ≠ M + 13 → (a ≠ M + 14 ∨ k ≠ 4 * sd + nrow) → (a ≠ M + 15 ∨ k < 8 * (4 * sd + nrow) ∨ 8 * (4 * sd + nrow) + 8 ≤ k) → J7 a k = I a k := fun a k u1 u2 u3 u4 u5 => by
                        rw [f7 _ _ (by omega), fr6 _ _ (by unfold pR pC pB; omega), a3 _ _ (by unfold pP; omega)]
                      have l8 := hA0.2.2.2.2.2.2.1
                      obtain ⟨r0, r1, r2, r3, r4, r5, r6, r7⟩ := hr y
                      refine ⟨?_, by rw [g12, v2], ?_, fun k hk' => ?_, fun r hr' => ?_, fun r x hr' hx' => ?_, fun r hr' => ?_, fun k hk' => ?_⟩
                      · rw [cel _ _ (by omega) (by omega) (by omega) (by omega) (by omega), Rk 0 (by omega) (by omega) (by omega) (by omega) (by omega)]; exact r0
                      · rw [cel _ _ (by omega) (by omega) (by omega) (by omega) (by omega), Rk 3 (by omega) (by omega) (by omega) (by omega) (by omega)]; exact r2
                      · rw [cel _ _ (by omega) (by omega) (by omega) (by omega) (by omega), Rk _ (by omega) (by omega) (by omega) (by omega) (by omega)]; exact r3 k hk'
                      · rw [R2] at hr'
                        by_cases q : r = nrow
                        · subst q
                          rw [w14, v3]
                        · rw [cel _ _ (by omega) (by omega) (by omega) (by omega) (by omega), Rk _ (by omega) (by omega) (by omega) (by omega) (by omega)]; exact r4 r (by omega)
                      · rw [R2] at hr'
                        by_cases q : r = nrow
                        · subst q
                          rw [v3] at hx'
                          rw [f7 _ _ (by omega), l3 _ _ (by unfold pP; omega)]
                          exact v4 x hx'
                        · rw [Rk (30 + r) (by omega) (by omega) (by omega) (by omega) (by omega)] at hx'
                          have := l8 r (by omega)
                          rw [cel _ _ (by omega) (by omega) (by omega) (by omega) (by omega), Rk _ (by omega) (by omega) (by omega) (by omega) (by omega)]; exact r5 r x (by omega) hx'
                      · rw [R2] at hr'
                        rw [L8 (M + 6) (by omega)]
                        by_cases q : r = nrow
                        · subst q
                          rw [lup_at, fx _ (by omega) (by omega) (by omega), fUp_ne (by omega), fUp_at]
                        · rw [lup_ne q, Rk _ (by omega) (by omega) (by omega) (by omega) (by omega)]
                          exact r6 r (by omega)
                      · rw [Rk _ (by omega) (by omega) (by omega) (by omega) (by omega)]
                        exact (r7 k hk').kept (P := fun a _ => ¬ (M + 17 ≤ a ∧ a ≤ M + 25)) (fun a x nx => cel a x (by omega) (by omega) (by omega) (by omega) (by omega)) (by omega) (by omega) (fun x _ => by omega) (fun a x _ _ _ => by omega) (Nat.le_refl _) (Nat.le_refl _)
                  · rw [stp_n y]
                    intro y2
                    exact absurd y2 y
            · have fl := l2.2 gz
              obtain ⟨f1, f2', f3, f4, t, f5, f6⟩ := id fl
              refine ⟨J6, L, go _ _ (go2 _ _ ((st.trans k1).trans ?_)), l2, fun z => absurd z gz, toT _ fr6, fun _ _ => rfl⟩
              simp (disch := omega) only [kX12_tellRow_133, h.1, l1, f1, f2', e_push, e_pushl, e_iload, e_lload, e_aload, e_istore, e_astore, e_lstore, e_iinc, e_iadd, e_isub, e_imul, e_iand, e_ior, e_ixor, e_ishl, e_ishr, e_iushr, e_idiv, e_irem, e_ladd, e_lsub, e_lmul, e_lcmp, e_mmax, e_mmin, e_i2l, e_l2i, e_i2b, e_i2c, e_dup, e_dup2, e_pop, e_icmp_eq, e_icmp_ne, e_icmp_lt, e_icmp_ge, e_icmp_gt, e_icmp_le, e_if_eq, e_if_ne, e_if_lt, e_if_ge, e_if_gt, e_if_le, e_getI, e_getR, e_putI, e_putZ, e_putR, e_iald, e_bald, e_zald, e_lald, e_aald, e_alen, e_iast, e_bast, e_zast, e_last, e_aast, e_iret, e_zret, e_lret, e_vret, e_obj, e_callV, e_callS, e_callT, e_acpy, e_ldcS, e_dn, e_ag, z_pop, List.getElem?_cons_zero, List.getElem?_cons_succ, List.set_cons_zero, List.set_cons_succ, List.length_cons, List.length_nil, z_nol, Option.map_some, Option.toList_some, Option.toList_none, List.cons_append, List.nil_append, n_lit, n_m1, n_m2, n_m1lt, n_m1le, n_rem, n_div, n_out, n_cl, n_eq, n_le, n_lt, n_add, n_mul, n_sub, n_nle, n_yle, n_nlt, n_ylt, n_neN, z_lay, z_sz, z_str, z_stI, z_stL, z_stR, eq_self, ↓reduceIte, true_and, and_true, and_self, false_and, and_false, or_self, false_or, or_false, true_or, or_true, not_true_eq_false, not_false_eq_true, Nat.reduceLeDiff, Nat.reduceLT, Nat.reduceAdd, Nat.reduceEqDiff, Nat.reduceMul, Nat.reduceSub, Value.category, Nat.zero_le, beq_self_eq_true]
          · obtain ⟨J5, k1, k2, k3⟩ := r2 gq
            clear r1 r2
            have et2 : tell2 K nch nrow i = seats2 K 7 (i + 3) := by rw [et, thn_no gq]
            refine ⟨J5, L, go _ _ (go2 _ _ (st.trans k1)), by rw [et2]; exact ⟨fun z => absurd z gq, fun _ => k2⟩, fun z => absurd z (by rw [et2]; exact gq), toT _ (fr1.trans k3), fun _ _ => rfl⟩
        · have fl := (q6.2 gs).kept f2 (by omega) (by omega) (by omega)
          have et2 : tell2 K nch nrow i = must2 K 21 (i + 2) := by rw [et, thn_no gs, thn_no gs]
          refine ⟨_, L, go _ _ (go2 _ _ (st.trans (r_74F h fl))), by rw [et2]; exact ⟨fun z => absurd z gs, fun _ => fl⟩, fun z => absurd z (by rw [et2]; exact gs), toT _ fr1, fun _ _ => rfl⟩
      · have fl := d2.2 gm
        have et2 : tell2 K nch nrow i = must2 K 20 (i + 1) := by rw [et, thn_no gm, thn_no gm, thn_no gm]
        have e72 : kX12_tellRow_72 [some (Value.ref (M)), some (Value.int (nI (4 * sd + nrow))), some (Value.int (nI (i + 1))), some (Value.int (nI (0)))] [] (J2, L, Z) = some (none, (J2, L, Z)) := by
          have z := r_74F (L := L) (n := 0) (y1 := some (.int (nI (4 * sd + nrow)))) (y2 := some (.int (nI (i + 1)))) h fl
          have eX : kX12_tellRow_74 = q_lp bX12_tellRow_74 := rfl
          simp (disch := omega) only [kX12_tellRow_72, eX, z, e_push, e_pushl, e_iload, e_lload, e_aload, e_istore, e_astore, e_lstore, e_iinc, e_iadd, e_isub, e_imul, e_iand, e_ior, e_ixor, e_ishl, e_ishr, e_iushr, e_idiv, e_irem, e_ladd, e_lsub, e_lmul, e_lcmp, e_mmax, e_mmin, e_i2l, e_l2i, e_i2b, e_i2c, e_dup, e_dup2, e_pop, e_icmp_eq, e_icmp_ne, e_icmp_lt, e_icmp_ge, e_icmp_gt, e_icmp_le, e_if_eq, e_if_ne, e_if_lt, e_if_ge, e_if_gt, e_if_le, e_getI, e_getR, e_putI, e_putZ, e_putR, e_iald, e_bald, e_zald, e_lald, e_aald, e_alen, e_iast, e_bast, e_zast, e_last, e_aast, e_iret, e_zret, e_lret, e_vret, e_obj, e_callV, e_callS, e_callT, e_acpy, e_ldcS, e_dn, e_ag, z_pop, List.getElem?_cons_zero, List.getElem?_cons_succ, List.set_cons_zero, List.set_cons_succ, List.length_cons, List.length_nil, z_nol, Option.map_some, Option.toList_some, Option.toList_none, List.cons_append, List.nil_append, n_lit, n_m1, n_m2, n_m1lt, n_m1le, n_rem, n_div, n_out, n_cl, n_eq, n_le, n_lt, n_add, n_mul, n_sub, n_nle, n_yle, n_nlt, n_ylt, n_neN, z_lay, z_sz, z_str, z_stI, z_stL, z_stR, eq_self, ↓reduceIte, true_and, and_true, and_self, false_and, and_false, or_self, false_or, or_false, true_or, or_true, not_true_eq_false, not_false_eq_true, Nat.reduceLeDiff, Nat.reduceLT, Nat.reduceAdd, Nat.reduceEqDiff, Nat.reduceMul, Nat.reduceSub, Value.category, Nat.zero_le, beq_self_eq_true]
        obtain ⟨f1, f2', f3, f4, t, f5, f6⟩ := id fl
        have v20 : J2 M 20 = nI nrow := by rw [d3 _ _ (by unfold pP; omega)]; exact c20
        refine ⟨J2, L, go _ _ (go2 _ _ (q_lp_dn (X := some (none, (J2, L, Z))) ?_)), by rw [et2]; exact d2, fun z => absurd z (by rw [et2]; exact gm), (a3.trans d3).weak fun a k => pP_T, fun _ _ => rfl⟩
        by_cases z : nrow = 0
        · simp (disch := omega) only [bX12_tellRow_29, h.1, v20, e72, Option.map_some, e_push, e_pushl, e_iload, e_lload, e_aload, e_istore, e_astore, e_lstore, e_iinc, e_iadd, e_isub, e_imul, e_iand, e_ior, e_ixor, e_ishl, e_ishr, e_iushr, e_idiv, e_irem, e_ladd, e_lsub, e_lmul, e_lcmp, e_mmax, e_mmin, e_i2l, e_l2i, e_i2b, e_i2c, e_dup, e_dup2, e_pop, e_icmp_eq, e_icmp_ne, e_icmp_lt, e_icmp_ge, e_icmp_gt, e_icmp_le, e_if_eq, e_if_ne, e_if_lt, e_if_ge, e_if_gt, e_if_le, e_getI, e_getR, e_putI, e_putZ, e_putR, e_iald, e_bald, e_zald, e_lald, e_aald, e_alen, e_iast, e_bast, e_zast, e_last, e_aast, e_iret, e_zret, e_lret, e_vret, e_obj, e_callV, e_callS, e_callT, e_acpy, e_ldcS, e_dn, e_ag, z_pop, List.getElem?_cons_zero, List.getElem?_cons_succ, List.set_cons_zero, List.set_cons_succ, List.length_cons, List.length_nil, z_nol, Option.map_some, Option.toList_some, Option.toList_none, List.cons_append, List.nil_append, n_lit, n_m1, n_m2, n_m1lt, n_m1le, n_rem, n_div, n_out, n_cl, n_eq, n_le, n_lt, n_add, n_mul, n_sub, n_nle, n_yle, n_nlt, n_ylt, n_neN, z_lay, z_sz, z_str, z_stI, z_stL, z_stR, eq_self, ↓reduceIte, true_and, and_true, and_self, false_and, and_false, or_self, false_or, or_false, true_or, or_true, not_true_eq_false, not_false_eq_true, Nat.reduceLeDiff, Nat.reduceLT, Nat.reduceAdd, Nat.reduceEqDiff, Nat.reduceMul, Nat.reduceSub, Value.category, Nat.zero_le, beq_self_eq_true]
        · have z1 : 0 < nrow := by omega
          simp (disch := omega) only [bX12_tellRow_29, h.1, v20, z1, f1, f2', e72, Option.map_some, e_push, e_pushl, e_iload, e_lload, e_aload, e_istore, e_astore, e_lstore, e_iinc, e_iadd, e_isub, e_imul, e_iand, e_ior, e_ixor, e_ishl, e_ishr, e_iushr, e_idiv, e_irem, e_ladd, e_lsub, e_lmul, e_lcmp, e_mmax, e_mmin, e_i2l, e_l2i, e_i2b, e_i2c, e_dup, e_dup2, e_pop, e_icmp_eq, e_icmp_ne, e_icmp_lt, e_icmp_ge, e_icmp_gt, e_icmp_le, e_if_eq, e_if_ne, e_if_lt, e_if_ge, e_if_gt, e_if_le, e_getI, e_getR, e_putI, e_putZ, e_putR, e_iald, e_bald, e_zald, e_lald, e_aald, e_alen, e_iast, e_bast, e_zast, e_last, e_aast, e_iret, e_zret, e_lret, e_vret, e_obj, e_callV, e_callS, e_callT, e_acpy, e_ldcS, e_dn, e_ag, z_pop, List.getElem?_cons_zero, List.getElem?_cons_succ, List.set_cons_zero, List.set_cons_succ, List.length_cons, List.length_nil, z_nol, Option.map_some, Option.toList_some, Option.toList_none, List.cons_append, List.nil_append, n_lit, n_m1, n_m2, n_m1lt, n_m1le, n_rem, n_div, n_out, n_cl, n_eq, n_le, n_lt, n_add, n_mul, n_sub, n_nle, n_yle, n_nlt, n_ylt, n_neN, z_lay, z_sz, z_str, z_stI, z_stL, z_stR, eq_self, ↓reduceIte, true_and, and_true, and_self, false_and, and_false, or_self, false_or, or_false, true_or, or_true, not_true_eq_false, not_false_eq_true, Nat.reduceLeDiff, Nat.reduceLT, Nat.reduceAdd, Nat.reduceEqDiff, Nat.reduceMul, Nat.reduceSub, Value.category, Nat.zero_le, beq_self_eq_true]
    · have fl := a2.2 ga
      have et2 : tell2 K nch nrow i = adv i := by rw [et, thn_no ga, thn_no ga, thn_no ga, thn_no ga]
      obtain ⟨f1, f2, f3, f4, t, f5, f6⟩ := id fl
      refine ⟨J1, L, ?_, by rw [et2]; exact a2, fun z => absurd z (by rw [et2]; exact ga), a3.weak fun a k => pP_T, fun _ _ => rfl⟩
      show kX12_tellOne_0 [some (Value.ref (M)), none] [] (I, L, Z) = _
      simp (disch := omega) only [kX12_tellOne_0, kX12_tellOne_222, e_sw20_2, h.1, mr_tKind h, ml_tKind h, mr_rowMany h, ml_rowMany h, o11, tk, b1, b6, a1, f1, f2, e_push, e_pushl, e_iload, e_lload, e_aload, e_istore, e_astore, e_lstore, e_iinc, e_iadd, e_isub, e_imul, e_iand, e_ior, e_ixor, e_ishl, e_ishr, e_iushr, e_idiv, e_irem, e_ladd, e_lsub, e_lmul, e_lcmp, e_mmax, e_mmin, e_i2l, e_l2i, e_i2b, e_i2c, e_dup, e_dup2, e_pop, e_icmp_eq, e_icmp_ne, e_icmp_lt, e_icmp_ge, e_icmp_gt, e_icmp_le, e_if_eq, e_if_ne, e_if_lt, e_if_ge, e_if_gt, e_if_le, e_getI, e_getR, e_putI, e_putZ, e_putR, e_iald, e_bald, e_zald, e_lald, e_aald, e_alen, e_iast, e_bast, e_zast, e_last, e_aast, e_iret, e_zret, e_lret, e_vret, e_obj, e_callV, e_callS, e_callT, e_acpy, e_ldcS, e_dn, e_ag, z_pop, List.getElem?_cons_zero, List.getElem?_cons_succ, List.set_cons_zero, List.set_cons_succ, List.length_cons, List.length_nil, z_nol, Option.map_some, Option.toList_some, Option.toList_none, List.cons_append, List.nil_append, n_lit, n_m1, n_m2, n_m1lt, n_m1le, n_rem, n_div, n_out, n_cl, n_eq, n_le, n_lt, n_add, n_mul, n_sub, n_nle, n_yle, n_nlt, n_ylt, n_neN, z_lay, z_sz, z_str, z_stI, z_stL, z_stR, eq_self, ↓reduceIte, true_and, and_true, and_self, false_and, and_false, or_self, false_or, or_false, true_or, or_true, not_true_eq_false, not_false_eq_true, Nat.reduceLeDiff, Nat.reduceLT, Nat.reduceAdd, Nat.reduceEqDiff, Nat.reduceMul, Nat.reduceSub, Value.category, Nat.zero_le, beq_self_eq_true]
