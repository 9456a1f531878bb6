/-! read: the reference tells all -/
theorem rk_out : ∀ k, k < 64 → 7 < k → rk k < 20 ∨ 28 ≤ rk k := by decide +kernel
theorem n_neg23 : ∀ x, x < 20 → nI x - nI 23 < nI 0 := by decide +kernel
theorem r_tellNo {I : Nat → Nat → Int32} {L : Nat → Nat → Int64} {Z : zZ} {M sz sd i nch nrow b c : Nat} {K W S : Nat → Nat} {N : Nat → Nat → Prop} {p : (Nat × Nat) × (Nat → Nat)} (h : isMod Z M) (hS : tkS K W S sz) (hT : tokR I M K W S sz) (hi : i < sz) (hI : TI I L M S sd K W i nch nrow b c p) (hk : 7 < K i) : ∃ J, fX12_tellOne [.ref M] (I, L, Z) = some (none, (J, L, Z)) ∧ tlR I L J L M S sd K W N i nch nrow p := by
  have sz4 := hS.2.1
  have hO := hI.1
  have o11 := hO.2
  have o13 := hO.1
  have tk := (hT i hi).1
  have bx := rk_lt (K i) (hS.1 i)
  have ox := rk_out (K i) (hS.1 i) hk
  have f := r_failO (L := L) (f := 1) h hS hT hO hi
  have fl := fl_fail (S := S) hO (show i ≤ 400 by omega) (show 1 ≠ 0 by decide) (by decide)
  have ff : frm (pP M) I (z_up (z_up I M 13 (nI 1)) M 14 (nI (S i))) := fr_fail
  generalize z_up (z_up I M 13 (nI 1)) M 14 (nI (S i)) = J1 at f fl ff
  have f1 := fl.1
  have et : tell2 K nch nrow i = (1, i) := by rw [tell2, if_neg (by omega), if_pos hk]
  refine ⟨J1, ?_, by rw [et]; exact pqs_fl fl, fun z => absurd z (by rw [et]; show ¬ 1 = 0; decide), ff.weak fun a k => pP_T, fun _ _ => rfl⟩
  show kX12_tellOne_0 [some (Value.ref (M)), none] [] (I, L, Z) = _
  generalize rk (K i) = x at tk bx ox
  simp (disch := omega) only [kX12_tellOne_0, h.1, mr_tKind h, ml_tKind h, o11, tk, e_push, e_pushl, e_iload, e_lload, e_aload, e_istore, e_astore, e_lstore, e_iinc, e_iadd, e_isub, e_imul, e_iand, e_ior, e_ixor, e_ishl, e_ishr, e_iushr, e_idiv, e_irem, e_ladd, e_lsub, e_lmul, e_lcmp, e_mmax, e_mmin, e_i2l, e_l2i, e_i2b, e_i2c, e_dup, e_dup2, e_pop, e_icmp_eq, e_icmp_ne, e_icmp_lt, e_icmp_ge, e_icmp_gt, e_icmp_le, e_if_eq, e_if_ne, e_if_lt, e_if_ge, e_if_gt, e_if_le, e_getI, e_getR, e_putI, e_putZ, e_putR, e_iald, e_bald, e_zald, e_lald, e_aald, e_alen, e_iast, e_bast, e_zast, e_last, e_aast, e_iret, e_zret, e_lret, e_vret, e_obj, e_callV, e_callS, e_callT, e_acpy, e_ldcS, e_dn, e_ag, z_pop, List.getElem?_cons_zero, List.getElem?_cons_succ, List.set_cons_zero, List.set_cons_succ, List.length_cons, List.length_nil, z_nol, Option.map_some, Option.toList_some, Option.toList_none, List.cons_append, List.nil_append, n_lit, n_m1, n_m2, n_m1lt, n_m1le, n_rem, n_div, n_out, n_cl, n_eq, n_le, n_lt, n_add, n_mul, n_sub, n_nle, n_yle, n_nlt, n_ylt, n_neN, z_lay, z_sz, z_str, z_stI, z_stL, z_stR, eq_self, ↓reduceIte, true_and, and_true, and_self, false_and, and_false, or_self, false_or, or_false, true_or, or_true, not_true_eq_false, not_false_eq_true, Nat.reduceLeDiff, Nat.reduceLT, Nat.reduceAdd, Nat.reduceEqDiff, Nat.reduceMul, Nat.reduceSub, Value.category, Nat.zero_le, beq_self_eq_true]
  rw [e_sw20_out rfl ox (by omega)]
  rcases ox with z | z
  · have ng : (nI x - nI 23 < nI 0) = True := eq_true (n_neg23 x z)
    simp (disch := omega) only [kX12_tellOne_169, kX12_tellOne_200, kX12_tellOne_205, h.1, mr_tKind h, ml_tKind h, o11, tk, ng, f, f1, e_push, e_pushl, e_iload, e_lload, e_aload, e_istore, e_astore, e_lstore, e_iinc, e_iadd, e_isub, e_imul, e_iand, e_ior, e_ixor, e_ishl, e_ishr, e_iushr, e_idiv, e_irem, e_ladd, e_lsub, e_lmul, e_lcmp, e_mmax, e_mmin, e_i2l, e_l2i, e_i2b, e_i2c, e_dup, e_dup2, e_pop, e_icmp_eq, e_icmp_ne, e_icmp_lt, e_icmp_ge, e_icmp_gt, e_icmp_le, e_if_eq, e_if_ne, e_if_lt, e_if_ge, e_if_gt, e_if_le, e_getI, e_getR, e_putI, e_putZ, e_putR, e_iald, e_bald, e_zald, e_lald, e_aald, e_alen, e_iast, e_bast, e_zast, e_last, e_aast, e_iret, e_zret, e_lret, e_vret, e_obj, e_callV, e_callS, e_callT, e_acpy, e_ldcS, e_dn, e_ag, z_pop, List.getElem?_cons_zero, List.getElem?_cons_succ, List.set_cons_zero, List.set_cons_succ, List.length_cons, List.length_nil, z_nol, Option.map_some, Option.toList_some, Option.toList_none, List.cons_append, List.nil_append, n_lit, n_m1, n_m2, n_m1lt, n_m1le, n_rem, n_div, n_out, n_cl, n_eq, n_le, n_lt, n_add, n_mul, n_sub, n_nle, n_yle, n_nlt, n_ylt, n_neN, z_lay, z_sz, z_str, z_stI, z_stL, z_stR, eq_self, ↓reduceIte, true_and, and_true, and_self, false_and, and_false, or_self, false_or, or_false, true_or, or_true, not_true_eq_false, not_false_eq_true, Nat.reduceLeDiff, Nat.reduceLT, Nat.reduceAdd, Nat.reduceEqDiff, Nat.reduceMul, Nat.reduceSub, Value.category, Nat.zero_le, beq_self_eq_true]
  · simp (disch := omega) only [kX12_tellOne_169, kX12_tellOne_200, kX12_tellOne_205, h.1, mr_tKind h, ml_tKind h, o11, tk, f, f1, e_push, e_pushl, e_iload, e_lload, e_aload, e_istore, e_astore, e_lstore, e_iinc, e_iadd, e_isub, e_imul, e_iand, e_ior, e_ixor, e_ishl, e_ishr, e_iushr, e_idiv, e_irem, e_ladd, e_lsub, e_lmul, e_lcmp, e_mmax, e_mmin, e_i2l, e_l2i, e_i2b, e_i2c, e_dup, e_dup2, e_pop, e_icmp_eq, e_icmp_ne, e_icmp_lt, e_icmp_ge, e_icmp_gt, e_icmp_le, e_if_eq, e_if_ne, e_if_lt, e_if_ge, e_if_gt, e_if_le, e_getI, e_getR, e_putI, e_putZ, e_putR, e_iald, e_bald, e_zald, e_lald, e_aald, e_alen, e_iast, e_bast, e_zast, e_last, e_aast, e_iret, e_zret, e_lret, e_vret, e_obj, e_callV, e_callS, e_callT, e_acpy, e_ldcS, e_dn, e_ag, z_pop, List.getElem?_cons_zero, List.getElem?_cons_succ, List.set_cons_zero, List.set_cons_succ, List.length_cons, List.length_nil, z_nol, Option.map_some, Option.toList_some, Option.toList_none, List.cons_append, List.nil_append, n_lit, n_m1, n_m2, n_m1lt, n_m1le, n_rem, n_div, n_out, n_cl, n_eq, n_le, n_lt, n_add, n_mul, n_sub, n_nle, n_yle, n_nlt, n_ylt, n_neN, z_lay, z_sz, z_str, z_stI, z_stL, z_stR, eq_self, ↓reduceIte, true_and, and_true, and_self, false_and, and_false, or_self, false_or, or_false, true_or, or_true, not_true_eq_false, not_false_eq_true, Nat.reduceLeDiff, Nat.reduceLT, Nat.reduceAdd, Nat.reduceEqDiff, Nat.reduceMul, Nat.reduceSub, Value.category, Nat.zero_le, beq_self_eq_true]
theorem r_tellOne {I : Nat → Nat → Int32} {L : Nat → Nat → Int64} {Z : zZ} {M sz sd i nch nrow b c : Nat} {K W S : Nat → Nat} {N : Nat → Nat → Prop} {p : (Nat × Nat) × (Nat → Nat)} (h : isMod Z M) (hS : tkS K W S sz) (hT : tokR I M K W S sz) (hi : i < sz) (hI : TI I L M S sd K W i nch nrow b c p) (hA : p.1.1 = 0 → mOK p.2) (hA2 : p.1.1 = 0 → p.2 2 = nrow ∧ nmOK K sz p.2) (hN : ∀ a d, a < sz → d < sz → K a = 20 → K d = 20 → (L (M + 6) a = L (M + 6) d ↔ N a d)) : ∃ J L', fX12_tellOne [.ref M] (I, L, Z) = some (none, (J, L', Z)) ∧ tlR I L J L' M S sd K W N i nch nrow p := by
  by_cases k7 : 7 < K i
  · obtain ⟨J, j⟩ := r_tellNo (N := N) h hS hT hi hI k7
    exact ⟨J, L, j⟩
  · rcases (show K i = 0 ∨ K i = 1 ∨ K i = 2 ∨ (K i = 3 ∨ K i = 4 ∨ K i = 5 ∨ K i = 6) ∨ K i = 7 by omega) with z | z | z | z | z
    · obtain ⟨J, j⟩ := r_tell0 (N := N) h hS hT hi hI hA z
      exact ⟨J, L, j⟩
    · obtain ⟨J, j⟩ := r_tellCh (N := N) h hS hT hi hI hA z
      exact ⟨J, L, j⟩
    · exact r_tellRw h hS hT hi hI hA hA2 hN z
    · obtain ⟨J, j⟩ := r_tellLw (N := N) h hS hT hi hI hA z
      exact ⟨J, L, j⟩
    · obtain ⟨J, j⟩ := r_tell7 (N := N) h hS hT hi hI hA z
      exact ⟨J, L, j⟩
theorem TI.congr {J : Nat → Nat → Int32} {L : Nat → Nat → Int64} {M sd i nch nrow b c : Nat} {K W S : Nat → Nat} {p q : (Nat × Nat) × (Nat → Nat)} (h : TI J L M S sd K W i nch nrow b c p) (h1 : p.1.1 = q.1.1) (h3 : q.1.1 ≠ 0 → p.1 = q.1) (h2 : q.1.1 = 0 → p.2 = q.2) : TI J L M S sd K W i nch nrow b c q := by
  obtain ⟨a1, a2, a3, a4, a5⟩ := h
  refine ⟨a1, a2, ⟨by rw [← h1]; exact a3.1, by rw [← h1]; exact a3.2.1, fun z => ?_⟩, fun z => ?_, fun z => ?_⟩
  · rw [← h3 z]; exact a3.2.2 (by rw [h1]; exact z)
  · rw [← h3 z]; exact a4 (by rw [h1]; exact z)
  · rw [← h2 z]; exact a5 (by rw [h1]; exact z)
/-- what is known after all tells -/
noncomputable def fnl (K W : Nat → Nat) (N : Nat → Nat → Prop) (n nch nrow i : Nat) (p : (Nat × Nat) × (Nat → Nat)) : (Nat × Nat) × (Nat → Nat) := if p.1.1 ≠ 0 then p else (((mTells K W N n nch nrow i p.2).1, (mTells K W N n nch nrow i p.2).2.1), (mTells K W N n nch nrow i p.2).2.2)
theorem fnl_n {K W : Nat → Nat} {N : Nat → Nat → Prop} {n nch nrow i : Nat} {p : (Nat × Nat) × (Nat → Nat)} (h : p.1.1 ≠ 0) : fnl K W N n nch nrow i p = p := if_pos h
theorem fnl_y {K W : Nat → Nat} {N : Nat → Nat → Prop} {n nch nrow i : Nat} {p : (Nat × Nat) × (Nat → Nat)} (h : p.1.1 = 0) : fnl K W N n nch nrow i p = (((mTells K W N n nch nrow i p.2).1, (mTells K W N n nch nrow i p.2).2.1), (mTells K W N n nch nrow i p.2).2.2) := if_neg (fun z => z h)
theorem r_tells {Z : zZ} {M sz sd : Nat} {K W S : Nat → Nat} {N : Nat → Nat → Prop} {y : Option Value} (h : isMod Z M) (hS : tkS K W S sz) : ∀ n nch nrow i (p : (Nat × Nat) × (Nat → Nat)) (I : Nat → Nat → Int32) (L : Nat → Nat → Int64) (b c : Nat), 400 < i + 2 * n → tokR I M K W S sz → i < sz → TI I L M S sd K W i nch nrow b c p → (p.1.1 = 0 → mOK p.2) → (p.1.1 = 0 → p.2 2 = nrow ∧ nmOK K sz p.2 ∧ lnOK p.2) → (∀ a d, a < sz → d < sz → K a = 20 → K d = 20 → (L (M + 6) a = L (M + 6) d ↔ N a d)) → ∃ J L', q_lp bX12_read_112 [some (.ref M), y] [] (I, L, Z) = kX12_read_134 [some (.ref M), y] [] (J, L', Z) ∧ pqs J M S (tells2 K n nch nrow i) ∧ ((tells2 K n nch nrow i).1 = 0 → ∃ nch' nrow' b' c', TI J L' M S sd K W (tells2 K n nch nrow i).2 nch' nrow' b' c' (fnl K W N n nch nrow i p) ∧ ((fnl K W N n nch nrow i p).1.1 = 0 → (fnl K W N n nch nrow i p).2 2 = nrow')) ∧ frm (pTl M sd) I J ∧ ∀ a, a ≠ M + 8 → L' a = L a := by
  have sz4 := hS.2.1
  intro n
  induction n with
  | zero =>
    intro nch nrow i p I L b c hn hT hi
    omega
  | succ n ih =>
    intro nch nrow i p I L b c hn hT hi hI hA hA2 hN
    have hO := hI.1
    have o13 := hO.1
    have is := r_isY (L := L) h hS hT hO hi (show 22 < 64 by decide) (show rk 22 = 0 from rfl) (by decide)
    rw [tells2]
    by_cases g22 : K i = 22
    · rw [if_pos g22] at is ⊢
      refine ⟨I, L, q_lp_dn ?_, pqs_ok hO, fun _ => ⟨nch, nrow, b, c, hI.congr ?_ ?_ ?_, fun z => ?_⟩, frm.refl _ _, fun _ _ => rfl⟩
      · simp (disch := omega) only [bX12_read_112, h.1, o13, is, e_push, e_pushl, e_iload, e_lload, e_aload, e_istore, e_astore, e_lstore, e_iinc, e_iadd, e_isub, e_imul, e_iand, e_ior, e_ixor, e_ishl, e_ishr, e_iushr, e_idiv, e_irem, e_ladd, e_lsub, e_lmul, e_lcmp, e_mmax, e_mmin, e_i2l, e_l2i, e_i2b, e_i2c, e_dup, e_dup2, e_pop, e_icmp_eq, e_icmp_ne, e_icmp_lt, e_icmp_ge, e_icmp_gt, e_icmp_le, e_if_eq, e_if_ne, e_if_lt, e_if_ge, e_if_gt, e_if_le, e_getI, e_getR, e_putI, e_putZ, e_putR, e_iald, e_bald, e_zald, e_lald, e_aald, e_alen, e_iast, e_bast, e_zast, e_last, e_aast, e_iret, e_zret, e_lret, e_vret, e_obj, e_callV, e_callS, e_callT, e_acpy, e_ldcS, e_dn, e_ag, z_pop, List.getElem?_cons_zero, List.getElem?_cons_succ, List.set_cons_zero, List.set_cons_succ, List.length_cons, List.length_nil, z_nol, Option.map_some, Option.toList_some, Option.toList_none, List.cons_append, List.nil_append, n_lit, n_m1, n_m2, n_m1lt, n_m1le, n_rem, n_div, n_out, n_cl, n_eq, n_le, n_lt, n_add, n_mul, n_sub, n_nle, n_yle, n_nlt, n_ylt, n_neN, z_lay, z_sz, z_str, z_stI, z_stL, z_stR, eq_self, ↓reduceIte, true_and, and_true, and_self, false_and, and_false, or_self, false_or, or_false, true_or, or_true, not_true_eq_false, not_false_eq_true, Nat.reduceLeDiff, Nat.reduceLT, Nat.reduceAdd, Nat.reduceEqDiff, Nat.reduceMul, Nat.reduceSub, Value.category, Nat.zero_le, beq_self_eq_true]
      · by_cases z : p.1.1 = 0
        · rw [fnl_y z, mTells, if_pos g22]
          exact z
        · rw [fnl_n z]
      · intro z
        by_cases y : p.1.1 = 0
        · rw [fnl_y y, mTells, if_pos g22] at z
          exact absurd rfl z
        · rw [fnl_n y]
      · intro z
        by_cases y : p.1.1 = 0
        · rw [fnl_y y, mTells, if_pos g22]
        · rw [fnl_n y]
      · by_cases y : p.1.1 = 0
        · rw [fnl_y y, mTells, if_pos g22]
          exact (hA2 y).1
        · rw [fnl_n y] at z
          exact absurd z y
    · rw [if_neg g22] at is ⊢
      obtain ⟨J1, L1, a1, a2, a3, a4, a5⟩ := r_tellOne (N := N) h hS hT hi hI hA (fun z => ⟨(hA2 z).1, (hA2 z).2.1⟩) hN
      have st : q_lp bX12_read_112 [some (.ref M), y] [] (I, L, Z) = q_lp bX12_read_112 [some (.ref M), y] [] (J1, L1, Z) := by
        rw [q_lp_eq, show bX12_read_112 [some (.ref M), y] [] (I, L, Z) = some (.inl ([some (.ref M), y], (J1, L1, Z))) by simp (disch := omega) only [bX12_read_112, h.1, o13, is, a1, e_push, e_pushl, e_iload, e_lload, e_aload, e_istore, e_astore, e_lstore, e_iinc, e_iadd, e_isub, e_imul, e_iand, e_ior, e_ixor, e_ishl, e_ishr, e_iushr, e_idiv, e_irem, e_ladd, e_lsub, e_lmul, e_lcmp, e_mmax, e_mmin, e_i2l, e_l2i, e_i2b, e_i2c, e_dup, e_dup2, e_pop, e_icmp_eq, e_icmp_ne, e_icmp_lt, e_icmp_ge, e_icmp_gt, e_icmp_le, e_if_eq, e_if_ne, e_if_lt, e_if_ge, e_if_gt, e_if_le, e_getI, e_getR, e_putI, e_putZ, e_putR, e_iald, e_bald, e_zald, e_lald, e_aald, e_alen, e_iast, e_bast, e_zast, e_last, e_aast, e_iret, e_zret, e_lret, e_vret, e_obj, e_callV, e_callS, e_callT, e_acpy, e_ldcS, e_dn, e_ag, z_pop, List.getElem?_cons_zero, List.getElem?_cons_succ, List.set_cons_zero, List.set_cons_succ, List.length_cons, List.length_nil, z_nol, Option.map_some, Option.toList_some, Option.toList_none, List.cons_append, List.nil_append, n_lit, n_m1, n_m2, n_m1lt, n_m1le, n_rem, n_div, n_out, n_cl, n_eq, n_le, n_lt, n_add, n_mul, n_sub, n_nle, n_yle, n_nlt, n_ylt, n_neN, z_lay, z_sz, z_str, z_stI, z_stL, z_stR, eq_self, ↓reduceIte, true_and, and_true, and_self, false_and, and_false, or_self, false_or, or_false, true_or, or_true, not_true_eq_false, not_false_eq_true, Nat.reduceLeDiff, Nat.reduceLT, Nat.reduceAdd, Nat.reduceEqDiff, Nat.reduceMul, Nat.reduceSub, Value.category, Nat.zero_le, beq_self_eq_true]]
      have t1 := hT.kept a4 pT_t
      by_cases gt : (tell2 K nch nrow i).1 = 0
      · obtain ⟨b', c', hI1⟩ := a3 gt
        obtain ⟨s, e, hF⟩ := tell_form gt
        have hs := hF.2.2.2.1
        have hs4 := hF.2.2.2.2.1
        rw [thn_yes gt]
        have sp := (spn_tell (K := K) (nch := nch) (nrow := nrow) i (by omega)).lt hS.2.2.2.1 hi
        rw [e] at hI1 sp ⊢
        have hA1 : (stp K W N i p).1.1 = 0 → p.1.1 = 0 ∧ (mTell K W N i p.2).1 = 0 ∧ stp K W N i p = ((0, (mTell K W N i p.2).2.1), (mTell K W N i p.2).2.2) := fun z => by
          by_cases y : p.1.1 = 0
          · rw [stp_y y] at z ⊢
            have z : (mTell K W N i p.2).1 = 0 := z
            exact ⟨y, z, by rw [z]⟩
          · rw [stp_n y] at z
            exact absurd z y
        have tA : ∀ z : p.1.1 = 0, tlA K sz nrow s i (mTell K W N i p.2) := fun z => mTell_ok (N := N) hF hS.2.2.1 hS.2.2.2.2.1 (hA z) (hA2 z).1 (hA2 z).2.1 (hA2 z).2.2
        obtain ⟨J, L', r1, r2, r3, r4, r5⟩ := ih (nch + if K i = 1 then 1 else 0) (nrow + if K i = 2 then 1 else 0) (s + 1) (stp K W N i p) J1 L1 b' c' (by omega) t1 sp hI1 (fun z => by
          obtain ⟨y1, y2, y3⟩ := hA1 z
          rw [y3]
          exact (tA y1 y2).1) (fun z => by
          obtain ⟨y1, y2, y3⟩ := hA1 z
          rw [y3]
          have t := tA y1 y2
          exact ⟨t.2.1, t.2.2.1, t.2.2.2.1⟩) (fun a d u1 u2 u3 u4 => by rw [a5 (M + 6) (by omega)]; exact hN a d u1 u2 u3 u4)
        refine ⟨J, L', st.trans r1, r2, fun z => ?_, a4.trans r4, fun a ha => by rw [r5 a ha, a5 a ha]⟩
        obtain ⟨nch', nrow', b'', c'', hJ, hJ2⟩ := r3 z
        refine ⟨nch', nrow', b'', c'', hJ.congr (congrArg Prod.fst ?_) (fun _ => ?_) ?_, fun z3 => ?_⟩
        · by_cases y : p.1.1 = 0
          · rw [fnl_y y, mTells, if_neg g22, e]
            by_cases q : (mTell K W N i p.2).1 = 0
            · have z2 : (stp K W N i p).1.1 = 0 := by rw [stp_y y]; exact q
              rw [sBind_yes q, fnl_y z2, stp_y y]
            · have z2 : (stp K W N i p).1.1 ≠ 0 := by rw [stp_y y]; exact q
              rw [sBind_no q, fnl_n z2, stp_y y]
          · have z2 : (stp K W N i p).1.1 ≠ 0 := by rw [stp_n y]; exact y
            rw [fnl_n y, fnl_n z2, stp_n y]
        · by_cases y : p.1.1 = 0
          · rw [fnl_y y, mTells, if_neg g22, e]
            by_cases q : (mTell K W N i p.2).1 = 0
            · have z2 : (stp K W N i p).1.1 = 0 := by rw [stp_y y]; exact q
              rw [sBind_yes q, fnl_y z2, stp_y y]
            · have z2 : (stp K W N i p).1.1 ≠ 0 := by rw [stp_y y]; exact q
              rw [sBind_no q, fnl_n z2, stp_y y]
          · have z2 : (stp K W N i p).1.1 ≠ 0 := by rw [stp_n y]; exact y
            rw [fnl_n y, fnl_n z2, stp_n y]
        · intro z3
          by_cases y : p.1.1 = 0
          · rw [fnl_y y, mTells, if_neg g22, e] at z3 ⊢
            by_cases q : (mTell K W N i p.2).1 = 0
            · have z2 : (stp K W N i p).1.1 = 0 := by rw [stp_y y]; exact q
              rw [sBind_yes q, fnl_y z2, stp_y y]
            · rw [sBind_no q] at z3
              exact absurd z3 q
          · rw [fnl_n y] at z3
            exact absurd z3 y
        · by_cases y : p.1.1 = 0
          · rw [fnl_y y, mTells, if_neg g22, e] at z3 ⊢
            by_cases q : (mTell K W N i p.2).1 = 0
            · have z2 : (stp K W N i p).1.1 = 0 := by rw [stp_y y]; exact q
              rw [fnl_y z2, stp_y y] at hJ2
              rw [sBind_yes q] at z3 ⊢
              exact hJ2 z3
            · rw [sBind_no q] at z3
              exact absurd z3 q
          · rw [fnl_n y] at z3
            exact absurd z3 y
      · rw [thn_no gt]
        have fl := a2.2 gt
        obtain ⟨f1, f2, f3, f4, t, f5, f6⟩ := id fl
        refine ⟨J1, L1, st.trans (q_lp_dn ?_), a2, fun z => absurd z gt, a4, a5⟩
        simp (disch := omega) only [bX12_read_112, h.1, f1, f2, e_push, e_pushl, e_iload, e_lload, e_aload, e_istore, e_astore, e_lstore, e_iinc, e_iadd, e_isub, e_imul, e_iand, e_ior, e_ixor, e_ishl, e_ishr, e_iushr, e_idiv, e_irem, e_ladd, e_lsub, e_lmul, e_lcmp, e_mmax, e_mmin, e_i2l, e_l2i, e_i2b, e_i2c, e_dup, e_dup2, e_pop, e_icmp_eq, e_icmp_ne, e_icmp_lt, e_icmp_ge, e_icmp_gt, e_icmp_le, e_if_eq, e_if_ne, e_if_lt, e_if_ge, e_if_gt, e_if_le, e_getI, e_getR, e_putI, e_putZ, e_putR, e_iald, e_bald, e_zald, e_lald, e_aald, e_alen, e_iast, e_bast, e_zast, e_last, e_aast, e_iret, e_zret, e_lret, e_vret, e_obj, e_callV, e_callS, e_callT, e_acpy, e_ldcS, e_dn, e_ag, z_pop, List.getElem?_cons_zero, List.getElem?_cons_succ, List.set_cons_zero, List.set_cons_succ, List.length_cons, List.length_nil, z_nol, Option.map_some, Option.toList_some, Option.toList_none, List.cons_append, List.nil_append, n_lit, n_m1, n_m2, n_m1lt, n_m1le, n_rem, n_div, n_out, n_cl, n_eq, n_le, n_lt, n_add, n_mul, n_sub, n_nle, n_yle, n_nlt, n_ylt, n_neN, z_lay, z_sz, z_str, z_stI, z_stL, z_stR, eq_self, ↓reduceIte, true_and, and_true, and_self, false_and, and_false, or_self, false_or, or_false, true_or, or_true, not_true_eq_false, not_false_eq_true, Nat.reduceLeDiff, Nat.reduceLT, Nat.reduceAdd, Nat.reduceEqDiff, Nat.reduceMul, Nat.reduceSub, Value.category, Nat.zero_le, beq_self_eq_true]
