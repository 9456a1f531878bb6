/-! read: the class reads one tell -/
theorem rcA.nc {J : Nat → Nat → Int32} {M : Nat → Nat → Int64} {B dx x : Nat} {A : Nat → Nat} (h : rcA J M B dx A) : rcA (z_up J (B + (dx + 5)) 0 (nI x)) M B dx (fUp A 0 x) := by
  obtain ⟨r0, r1, r2, r3, r4, r5, r6, r7, r8⟩ := h
  refine ⟨by rw [zup_at, fUp_at], by rw [zup_off (by omega), fUp_ne (by omega)]; exact r1, by rw [zup_off (by omega), fUp_ne (by omega)]; exact r2, by rw [zup_off (by omega), fUp_ne (by omega)]; exact r3, fun k hk => ?_, fun r hr => ?_, fun r i hr hi => ?_, fun k hk => ?_, fun r hr => ?_⟩
  · rw [zup_off (by omega), fUp_ne (by omega)]; exact r4 k hk
  · rw [zup_off (by omega), fUp_ne (by omega)]; exact r5 r hr
  · rw [fUp_ne (by omega)] at hi
    rw [zup_off (by omega), fUp_ne (by omega)]; exact r6 r i hr hi
  · rw [zup_off (by omega), fUp_ne (by omega)]; exact r7 k hk
  · rw [fUp_ne (by omega)] at hr
    rw [fUp_ne (by omega)]; exact r8 r hr
theorem rcA.seed {J : Nat → Nat → Int32} {M : Nat → Nat → Int64} {B dx x : Nat} {A : Nat → Nat} (h : rcA J M B dx A) : rcA (z_up J (B + dx) 5 (nI x)) M B dx (fUp A 3 x) := by
  obtain ⟨r0, r1, r2, r3, r4, r5, r6, r7, r8⟩ := h
  refine ⟨by rw [zup_off (by omega), fUp_ne (by omega)]; exact r0, by rw [zup_ne (by omega), fUp_ne (by omega)]; exact r1, by rw [zup_off (by omega), fUp_ne (by omega)]; exact r2, ⟨by rw [zup_at, fUp_at], by rw [zup_ne (by omega)]; exact r3.2⟩, fun k hk => ?_, fun r hr => ?_, fun r i hr hi => ?_, fun k hk => ?_, fun r hr => ?_⟩
  · rw [zup_off (by omega), fUp_ne (by omega)]; exact r4 k hk
  · rw [zup_off (by omega), fUp_ne (by omega)]; exact r5 r hr
  · rw [fUp_ne (by omega)] at hi
    rw [zup_off (by omega), fUp_ne (by omega)]; exact r6 r i hr hi
  · rw [zup_off (by omega), fUp_ne (by omega)]; exact r7 k hk
  · rw [fUp_ne (by omega)] at hr
    rw [fUp_ne (by omega)]; exact r8 r hr
theorem rcA.child {J : Nat → Nat → Int32} {M : Nat → Nat → Int64} {B dx x j : Nat} {A : Nat → Nat} (h : rcA J M B dx A) (hj : j < 16) : rcA (z_up J (B + (dx + 6)) j (nI x)) M B dx (fUp A (10 + j) (x + 1)) := by
  obtain ⟨r0, r1, r2, r3, r4, r5, r6, r7, r8⟩ := h
  refine ⟨by rw [zup_off (by omega), fUp_ne (by omega)]; exact r0, by rw [zup_off (by omega), fUp_ne (by omega)]; exact r1, by rw [zup_off (by omega), fUp_ne (by omega)]; exact r2, by rw [zup_off (by omega), fUp_ne (by omega)]; exact r3, fun k hk => ?_, fun r hr => ?_, fun r i hr hi => ?_, fun k hk => ?_, fun r hr => ?_⟩
  · by_cases g : k = j
    · subst g
      rw [zup_at, fUp_at, oN, if_neg (by omega), Nat.add_sub_cancel]
    · rw [zup_ne g, fUp_ne (by omega)]; exact r4 k hk
  · rw [zup_off (by omega), fUp_ne (by omega)]; exact r5 r hr
  · rw [fUp_ne (by omega)] at hi
    rw [zup_off (by omega), fUp_ne (by omega)]; exact r6 r i hr hi
  · rw [zup_off (by omega), fUp_ne (by omega)]; exact r7 k hk
  · rw [fUp_ne (by omega)] at hr
    rw [fUp_ne (by omega)]; exact r8 r hr
theorem rcA.law {J : Nat → Nat → Int32} {M : Nat → Nat → Int64} {B dx x j : Nat} {A : Nat → Nat} (h : rcA J M B dx A) (hA : mOK A) (hj : j < 4) (hx : x ≠ 0) : rcA (z_up J (B + (dx + 13)) j (nI x)) M B dx (fUp A (100 + j) x) := by
  obtain ⟨r0, r1, r2, r3, r4, r5, r6, r7, r8⟩ := h
  have a4 := hA.2.2.2.1
  refine ⟨by rw [zup_off (by omega), fUp_ne (by omega)]; exact r0, by rw [zup_off (by omega), fUp_ne (by omega)]; exact r1, by rw [zup_off (by omega), fUp_ne (by omega)]; exact r2, by rw [zup_off (by omega), fUp_ne (by omega)]; exact r3, fun k hk => ?_, fun r hr => ?_, fun r i hr hi => ?_, fun k hk => ?_, fun r hr => ?_⟩
  · rw [zup_off (by omega), fUp_ne (by omega)]; exact r4 k hk
  · rw [zup_off (by omega), fUp_ne (by omega)]; exact r5 r hr
  · rw [fUp_ne (by omega)] at hi
    have := hA.2.2.2.2.2.2.1 r hr
    rw [zup_off (by omega), fUp_ne (by omega)]; exact r6 r i hr hi
  · by_cases g : k = j
    · subst g
      rw [zup_at, fUp_at, oS, if_neg hx]
    · rw [zup_ne g, fUp_ne (by omega)]; exact r7 k hk
  · rw [fUp_ne (by omega)] at hr
    rw [fUp_ne (by omega)]; exact r8 r hr
/-- what a tell means to the class -/
def rdC (Z : zZ) (I : Nat → Nat → Int32) (L : Nat → Nat → Int64) (B dx k : Nat) (J : Nat → Nat → Int32) (M : Nat → Nat → Int64) (q : Nat × Nat × (Nat → Nat)) : Prop := ∃ J' M', fX7_readTell [.ref (B + dx), .int (nI k)] (J, M, Z) = some (none, (J', M', Z)) ∧ okC I L B dx J' M' q.2.2 q.2.1 q.1
theorem p_tellNc {I : Nat → Nat → Int32} {L : Nat → Nat → Int64} {Z : zZ} {B tx dx sz i : Nat} {K W A : Nat → Nat} {J : Nat → Nat → Int32} {M : Nat → Nat → Int64} (h : isCls Z B tx) (hd : dx + tx = 21) (hT : tokC I L B dx K W sz) (hi : i < sz) (hk : K i = 21) (hO : okC I L B dx J M A i 0) : rdC Z I L B dx 0 J M (if 2 ≤ W i ∧ W i ≤ 4 then (0, i + 1, fUp A 0 (W i)) else (5, i, A)) := by
  obtain ⟨o1, o2, o3, o4, o5, o6, o7⟩ := hO
  have hTJ := o6.tok o7 hT
  by_cases g : 2 ≤ W i ∧ W i ≤ 4
  · rw [if_pos g]
    have n1 := p_rdNumY (lo := 2) (up := 4) h hd hTJ hi hk o1 o3 g.1 g.2 (by decide)
    refine ⟨z_up (z_up J (B + dx) 8 (nI (i + 1))) (B + (dx + 5)) 0 (nI (W i)), M, ?_, ?_, o2, ?_, ?_, fun _ => ?_, (o6.at (by omega)).at (by omega), o7⟩
    · show kX7_readTell_0 [some (Value.ref ((B + dx))), some (Value.int (nI (0))), none, none] [] (J, M, Z) = _
      simp (disch := omega) only [kX7_readTell_109, kX7_readTell_0, dl_0 h hd, dr_0_1 h hd, dl_5 h hd, n1, e_push, e_pushl, e_iload, e_lload, e_aload, e_istore, e_astore, e_lstore, e_iinc, e_iadd, e_isub, e_imul, e_iand, e_ior, e_ixor, e_ishl, e_ishr, e_iushr, e_idiv, e_irem, e_ladd, e_lsub, e_lmul, e_lcmp, e_mmax, e_mmin, e_i2l, e_l2i, e_i2b, e_i2c, e_dup, e_dup2, e_pop, e_icmp_eq, e_icmp_ne, e_icmp_lt, e_icmp_ge, e_icmp_gt, e_icmp_le, e_if_eq, e_if_ne, e_if_lt, e_if_ge, e_if_gt, e_if_le, e_getI, e_getR, e_putI, e_putZ, e_putR, e_iald, e_bald, e_zald, e_lald, e_aald, e_alen, e_iast, e_bast, e_zast, e_last, e_aast, e_iret, e_zret, e_lret, e_vret, e_obj, e_callV, e_callS, e_callT, e_acpy, e_ldcS, e_dn, e_ag, z_pop, List.getElem?_cons_zero, List.getElem?_cons_succ, List.set_cons_zero, List.set_cons_succ, List.length_cons, List.length_nil, z_nol, Option.map_some, Option.toList_some, Option.toList_none, List.cons_append, List.nil_append, n_lit, n_m1, n_m2, n_m1lt, n_m1le, n_rem, n_div, n_out, n_cl, n_eq, n_le, n_lt, n_add, n_mul, n_sub, n_nle, n_yle, n_nlt, n_ylt, n_neN, z_lay, z_sz, z_str, z_stI, z_stL, z_stR, eq_self, ↓reduceIte, true_and, and_true, and_self, false_and, and_false, or_self, false_or, or_false, true_or, or_true, not_true_eq_false, not_false_eq_true, Nat.reduceLeDiff, Nat.reduceLT, Nat.reduceAdd, Nat.reduceEqDiff, Nat.reduceMul, Nat.reduceSub, Value.category, Nat.zero_le, beq_self_eq_true]
    · rw [zup_off (by omega), zup_ne (by omega)]; exact o1
    · rw [zup_off (by omega), zup_at]
    · rw [zup_off (by omega), zup_ne (by omega)]; exact o4
    · exact ((o5 rfl).kept (fun a ha => zup_off ha) (zup_ne (by omega)) (zup_ne (by omega)) (zup_ne (by omega))).nc
  · rw [if_neg g]
    have n1 := p_rdNumN (lo := 2) (up := 4) h hd hTJ hi hk o1 o3 g (by decide) (by decide)
    refine ⟨z_up (z_up J (B + dx) 6 (nI 5)) (B + (dx + 5)) 0 (nI 2), M, ?_, ?_, by show 5 < 8; decide, ?_, ?_, fun z => absurd z (by show ¬ 5 = 0; decide), (o6.at (by omega)).at (by omega), o7⟩
    · show kX7_readTell_0 [some (Value.ref ((B + dx))), some (Value.int (nI (0))), none, none] [] (J, M, Z) = _
      simp (disch := omega) only [kX7_readTell_109, kX7_readTell_0, dl_0 h hd, dr_0_1 h hd, dl_5 h hd, n1, e_push, e_pushl, e_iload, e_lload, e_aload, e_istore, e_astore, e_lstore, e_iinc, e_iadd, e_isub, e_imul, e_iand, e_ior, e_ixor, e_ishl, e_ishr, e_iushr, e_idiv, e_irem, e_ladd, e_lsub, e_lmul, e_lcmp, e_mmax, e_mmin, e_i2l, e_l2i, e_i2b, e_i2c, e_dup, e_dup2, e_pop, e_icmp_eq, e_icmp_ne, e_icmp_lt, e_icmp_ge, e_icmp_gt, e_icmp_le, e_if_eq, e_if_ne, e_if_lt, e_if_ge, e_if_gt, e_if_le, e_getI, e_getR, e_putI, e_putZ, e_putR, e_iald, e_bald, e_zald, e_lald, e_aald, e_alen, e_iast, e_bast, e_zast, e_last, e_aast, e_iret, e_zret, e_lret, e_vret, e_obj, e_callV, e_callS, e_callT, e_acpy, e_ldcS, e_dn, e_ag, z_pop, List.getElem?_cons_zero, List.getElem?_cons_succ, List.set_cons_zero, List.set_cons_succ, List.length_cons, List.length_nil, z_nol, Option.map_some, Option.toList_some, Option.toList_none, List.cons_append, List.nil_append, n_lit, n_m1, n_m2, n_m1lt, n_m1le, n_rem, n_div, n_out, n_cl, n_eq, n_le, n_lt, n_add, n_mul, n_sub, n_nle, n_yle, n_nlt, n_ylt, n_neN, z_lay, z_sz, z_str, z_stI, z_stL, z_stR, eq_self, ↓reduceIte, true_and, and_true, and_self, false_and, and_false, or_self, false_or, or_false, true_or, or_true, not_true_eq_false, not_false_eq_true, Nat.reduceLeDiff, Nat.reduceLT, Nat.reduceAdd, Nat.reduceEqDiff, Nat.reduceMul, Nat.reduceSub, Value.category, Nat.zero_le, beq_self_eq_true]
    · rw [zup_off (by omega), zup_at]
    · rw [zup_off (by omega), zup_ne (by omega)]; exact o3
    · rw [zup_off (by omega), zup_ne (by omega)]; exact o4
theorem p_tellSeed {I : Nat → Nat → Int32} {L : Nat → Nat → Int64} {Z : zZ} {B tx dx sz i k : Nat} {K W A : Nat → Nat} {J : Nat → Nat → Int32} {M : Nat → Nat → Int64} (h : isCls Z B tx) (hd : dx + tx = 21) (hT : tokC I L B dx K W sz) (hi : i < sz) (hk : K i = 21) (hO : okC I L B dx J M A i 0) (h7 : k = 7) : rdC Z I L B dx k J M (0, i + 1, fUp A 3 (W i)) := by
  obtain ⟨o1, o2, o3, o4, o5, o6, o7⟩ := hO
  have hTJ := o6.tok o7 hT
  have w := ((hT.2.2.1 i hi).2.2 hk).2
  have n1 := p_rdNumY (lo := 0) (up := 9999) h hd hTJ hi hk o1 o3 (Nat.zero_le _) (by omega) (by decide)
  refine ⟨z_up (z_up J (B + dx) 8 (nI (i + 1))) (B + dx) 5 (nI (W i)), M, ?_, ?_, o2, ?_, ?_, fun _ => ?_, (o6.at (by omega)).at (by omega), o7⟩
  · show kX7_readTell_0 [some (Value.ref ((B + dx))), some (Value.int (nI (k))), none, none] [] (J, M, Z) = _
    simp (disch := omega) only [kX7_readTell_109, kX7_readTell_0, dl_0 h hd, n1, h7, e_push, e_pushl, e_iload, e_lload, e_aload, e_istore, e_astore, e_lstore, e_iinc, e_iadd, e_isub, e_imul, e_iand, e_ior, e_ixor, e_ishl, e_ishr, e_iushr, e_idiv, e_irem, e_ladd, e_lsub, e_lmul, e_lcmp, e_mmax, e_mmin, e_i2l, e_l2i, e_i2b, e_i2c, e_dup, e_dup2, e_pop, e_icmp_eq, e_icmp_ne, e_icmp_lt, e_icmp_ge, e_icmp_gt, e_icmp_le, e_if_eq, e_if_ne, e_if_lt, e_if_ge, e_if_gt, e_if_le, e_getI, e_getR, e_putI, e_putZ, e_putR, e_iald, e_bald, e_zald, e_lald, e_aald, e_alen, e_iast, e_bast, e_zast, e_last, e_aast, e_iret, e_zret, e_lret, e_vret, e_obj, e_callV, e_callS, e_callT, e_acpy, e_ldcS, e_dn, e_ag, z_pop, List.getElem?_cons_zero, List.getElem?_cons_succ, List.set_cons_zero, List.set_cons_succ, List.length_cons, List.length_nil, z_nol, Option.map_some, Option.toList_some, Option.toList_none, List.cons_append, List.nil_append, n_lit, n_m1, n_m2, n_m1lt, n_m1le, n_rem, n_div, n_out, n_cl, n_eq, n_le, n_lt, n_add, n_mul, n_sub, n_nle, n_yle, n_nlt, n_ylt, n_neN, z_lay, z_sz, z_str, z_stI, z_stL, z_stR, eq_self, ↓reduceIte, true_and, and_true, and_self, false_and, and_false, or_self, false_or, or_false, true_or, or_true, not_true_eq_false, not_false_eq_true, Nat.reduceLeDiff, Nat.reduceLT, Nat.reduceAdd, Nat.reduceEqDiff, Nat.reduceMul, Nat.reduceSub, Value.category, Nat.zero_le, beq_self_eq_true]
  · rw [zup_ne (by omega), zup_ne (by omega)]; exact o1
  · rw [zup_ne (by omega), zup_at]
  · rw [zup_ne (by omega), zup_ne (by omega)]; exact o4
  · exact ((o5 rfl).kept (fun a ha => zup_off ha) (zup_ne (by omega)) (zup_ne (by omega)) (zup_ne (by omega))).seed
theorem p_tellLawC {I : Nat → Nat → Int32} {L : Nat → Nat → Int64} {Z : zZ} {B tx dx sz i k : Nat} {K W A : Nat → Nat} {J : Nat → Nat → Int32} {M : Nat → Nat → Int64} (h : isCls Z B tx) (hd : dx + tx = 21) (hi : i ≤ 400) (hA : mOK A) (hO : okC I L B dx J M A i 0) (h3 : 3 ≤ k) (h6 : k ≤ 6) : rdC Z I L B dx k J M (0, i, fUp A (100 + (k - 3)) (i + 1)) := by
  obtain ⟨o1, o2, o3, o4, o5, o6, o7⟩ := hO
  refine ⟨z_up J (B + (dx + 13)) (k - 3) (nI (i + 1)), M, ?_, ?_, o2, ?_, ?_, fun _ => ?_, o6.at (by omega), o7⟩
  · show kX7_readTell_0 [some (Value.ref ((B + dx))), some (Value.int (nI (k))), none, none] [] (J, M, Z) = _
    simp (disch := omega) only [kX7_readTell_109, kX7_readTell_0, dl_0 h hd, dr_0_3 h hd, dl_13 h hd, o3, e_push, e_pushl, e_iload, e_lload, e_aload, e_istore, e_astore, e_lstore, e_iinc, e_iadd, e_isub, e_imul, e_iand, e_ior, e_ixor, e_ishl, e_ishr, e_iushr, e_idiv, e_irem, e_ladd, e_lsub, e_lmul, e_lcmp, e_mmax, e_mmin, e_i2l, e_l2i, e_i2b, e_i2c, e_dup, e_dup2, e_pop, e_icmp_eq, e_icmp_ne, e_icmp_lt, e_icmp_ge, e_icmp_gt, e_icmp_le, e_if_eq, e_if_ne, e_if_lt, e_if_ge, e_if_gt, e_if_le, e_getI, e_getR, e_putI, e_putZ, e_putR, e_iald, e_bald, e_zald, e_lald, e_aald, e_alen, e_iast, e_bast, e_zast, e_last, e_aast, e_iret, e_zret, e_lret, e_vret, e_obj, e_callV, e_callS, e_callT, e_acpy, e_ldcS, e_dn, e_ag, z_pop, List.getElem?_cons_zero, List.getElem?_cons_succ, List.set_cons_zero, List.set_cons_succ, List.length_cons, List.length_nil, z_nol, Option.map_some, Option.toList_some, Option.toList_none, List.cons_append, List.nil_append, n_lit, n_m1, n_m2, n_m1lt, n_m1le, n_rem, n_div, n_out, n_cl, n_eq, n_le, n_lt, n_add, n_mul, n_sub, n_nle, n_yle, n_nlt, n_ylt, n_neN, z_lay, z_sz, z_str, z_stI, z_stL, z_stR, eq_self, ↓reduceIte, true_and, and_true, and_self, false_and, and_false, or_self, false_or, or_false, true_or, or_true, not_true_eq_false, not_false_eq_true, Nat.reduceLeDiff, Nat.reduceLT, Nat.reduceAdd, Nat.reduceEqDiff, Nat.reduceMul, Nat.reduceSub, Value.category, Nat.zero_le, beq_self_eq_true]
  · rw [zup_off (by omega)]; exact o1
  · rw [zup_off (by omega)]; exact o3
  · rw [zup_off (by omega)]; exact o4
  · exact (o5 rfl).law hA (by omega) (by omega)
theorem p_tellChildC {I : Nat → Nat → Int32} {L : Nat → Nat → Int64} {Z : zZ} {B tx dx sz i : Nat} {K W A : Nat → Nat} {J : Nat → Nat → Int32} {M : Nat → Nat → Int64} (h : isCls Z B tx) (hd : dx + tx = 21) (hT : tokC I L B dx K W sz) (hi : i + 2 < sz) (k0 : K i = 21) (k1 : K (i + 1) = 21) (k2 : K (i + 2) = 21) (hA : mOK A) (hO : okC I L B dx J M A i 0) : rdC Z I L B dx 1 J M (mChild W i A) := by
  have fin : ∀ (J3 : Nat → Nat → Int32) (a b c f j : Nat) (A3 : Nat → Nat), a ≤ 3 → b ≤ 3 → c ≤ 3 → okC I L B dx J3 M A3 j f → okC I L B dx (z_up J3 (B + (dx + 6)) (a * 4 + b) (nI c)) M (fUp A3 (10 + (a * 4 + b)) (c + 1)) j f := by
    rintro J3 a b c f j A3 ha hb hc ⟨o1, o2, o3, o4, o5, o6, o7⟩
    exact ⟨by rw [zup_off (by omega)]; exact o1, o2, by rw [zup_off (by omega)]; exact o3, by rw [zup_off (by omega)]; exact o4, fun z => (o5 z).child (by omega), o6.at (by omega), o7⟩
  have fin5 : ∀ (J3 : Nat → Nat → Int32) (a b c j : Nat), a ≤ 3 → b ≤ 3 → c ≤ 3 → okC I L B dx J3 M A j 5 → okC I L B dx (z_up J3 (B + (dx + 6)) (a * 4 + b) (nI c)) M A j 5 := by
    rintro J3 a b c j ha hb hc ⟨o1, o2, o3, o4, o5, o6, o7⟩
    exact ⟨by rw [zup_off (by omega)]; exact o1, o2, by rw [zup_off (by omega)]; exact o3, by rw [zup_off (by omega)]; exact o4, fun z => absurd z (by decide), o6.at (by omega), o7⟩
  have run : ∀ (J1 J2 J3 : Nat → Nat → Int32) (a b c : Nat), a ≤ 3 → b ≤ 3 → fX7_readColour [.ref (B + dx)] (J, M, Z) = some (some (.int (nI a)), (J1, M, Z)) → fX7_readColour [.ref (B + dx)] (J1, M, Z) = some (some (.int (nI b)), (J2, M, Z)) → fX7_readColour [.ref (B + dx)] (J2, M, Z) = some (some (.int (nI c)), (J3, M, Z)) → fX7_readTell [.ref (B + dx), .int (nI 1)] (J, M, Z) = some (none, (z_up J3 (B + (dx + 6)) (a * 4 + b) (nI c), M, Z)) := by
    intro J1 J2 J3 a b c ha hb c1 c2 c3
    have s := p_setChild (I := J3) (L := M) (x := nI c) h hd (show a < 4 by omega) (show b < 4 by omega)
    show kX7_readTell_0 [some (Value.ref ((B + dx))), some (Value.int (nI (1))), none, none] [] (J, M, Z) = _
    simp (disch := omega) only [kX7_readTell_109, kX7_readTell_0, dl_0 h hd, dr_0_1 h hd, dl_5 h hd, c1, c2, c3, s, e_push, e_pushl, e_iload, e_lload, e_aload, e_istore, e_astore, e_lstore, e_iinc, e_iadd, e_isub, e_imul, e_iand, e_ior, e_ixor, e_ishl, e_ishr, e_iushr, e_idiv, e_irem, e_ladd, e_lsub, e_lmul, e_lcmp, e_mmax, e_mmin, e_i2l, e_l2i, e_i2b, e_i2c, e_dup, e_dup2, e_pop, e_icmp_eq, e_icmp_ne, e_icmp_lt, e_icmp_ge, e_icmp_gt, e_icmp_le, e_if_eq, e_if_ne, e_if_lt, e_if_ge, e_if_gt, e_if_le, e_getI, e_getR, e_putI, e_putZ, e_putR, e_iald, e_bald, e_zald, e_lald, e_aald, e_alen, e_iast, e_bast, e_zast, e_last, e_aast, e_iret, e_zret, e_lret, e_vret, e_obj, e_callV, e_callS, e_callT, e_acpy, e_ldcS, e_dn, e_ag, z_pop, List.getElem?_cons_zero, List.getElem?_cons_succ, List.set_cons_zero, List.set_cons_succ, List.length_cons, List.length_nil, z_nol, Option.map_some, Option.toList_some, Option.toList_none, List.cons_append, List.nil_append, n_lit, n_m1, n_m2, n_m1lt, n_m1le, n_rem, n_div, n_out, n_cl, n_eq, n_le, n_lt, n_add, n_mul, n_sub, n_nle, n_yle, n_nlt, n_ylt, n_neN, z_lay, z_sz, z_str, z_stI, z_stL, z_stR, eq_self, ↓reduceIte, true_and, and_true, and_self, false_and, and_false, or_self, false_or, or_false, true_or, or_true, not_true_eq_false, not_false_eq_true, Nat.reduceLeDiff, Nat.reduceLT, Nat.reduceAdd, Nat.reduceEqDiff, Nat.reduceMul, Nat.reduceSub, Value.category, Nat.zero_le, beq_self_eq_true]
  unfold mChild
  by_cases g0 : W i ≤ 3
  · obtain ⟨J1, c1, o1, -⟩ := p_rdColY h hd hT (show i < sz by omega) k0 hO hA.2.2.1 g0
    have hA1 := mOK_col hA g0
    rw [mCol_y g0, sBind_yes rfl]
    show rdC Z I L B dx 1 J M (sBind A (mCol W (i + 1) (fUp A 1 (max (A 1) (W i)))) _)
    by_cases g1 : W (i + 1) ≤ 3
    · obtain ⟨J2, c2, o2, -⟩ := p_rdColY h hd hT (show i + 1 < sz by omega) k1 o1 hA1.2.2.1 g1
      have hA2 := mOK_col hA1 g1
      rw [mCol_y g1, sBind_yes rfl]
      generalize hX : fUp (fUp A 1 (max (A 1) (W i))) 1 (max (fUp A 1 (max (A 1) (W i)) 1) (W (i + 1))) = A2 at o2 hA2
      show rdC Z I L B dx 1 J M (sBind A (mCol W (i + 1 + 1) A2) _)
      by_cases g2 : W (i + 2) ≤ 3
      · obtain ⟨J3, c3, o3, -⟩ := p_rdColY h hd hT (show i + 1 + 1 < sz by omega) k2 o2 hA2.2.2.1 g2
        rw [mCol_y (i := i + 1 + 1) g2, sBind_yes rfl]
        exact ⟨_, M, run J1 J2 J3 _ _ _ g0 g1 c1 c2 c3, fin J3 _ _ _ _ _ _ g0 g1 g2 o3⟩
      · obtain ⟨J3, c3, o3, -⟩ := p_rdColN h hd hT (show i + 1 + 1 < sz by omega) k2 o2 g2
        rw [mCol_n (i := i + 1 + 1) g2, sBind_no (by show 5 ≠ 0; decide)]
        exact ⟨_, M, run J1 J2 J3 _ _ _ g0 g1 c1 c2 c3, fin5 J3 _ _ _ _ g0 g1 (by decide) ⟨o3.1, o3.2.1, o3.2.2.1, o3.2.2.2.1, fun z => absurd z (by decide), o3.2.2.2.2.2⟩⟩
    · obtain ⟨J2, c2, o2, -⟩ := p_rdColN h hd hT (show i + 1 < sz by omega) k1 o1 g1
      obtain ⟨J3, c3, o3, -⟩ := p_rdColF h hd hT (show i + 1 < sz by omega) o2 (by decide)
      rw [mCol_n g1, sBind_no (by show 5 ≠ 0; decide)]
      exact ⟨_, M, run J1 J2 J3 _ _ _ g0 (by decide) c1 c2 c3, fin5 J3 _ _ _ _ g0 (by decide) (by decide) ⟨o3.1, o3.2.1, o3.2.2.1, o3.2.2.2.1, fun z => absurd z (by decide), o3.2.2.2.2.2⟩⟩
  · obtain ⟨J1, c1, o1, -⟩ := p_rdColN h hd hT (show i < sz by omega) k0 hO g0
    obtain ⟨J2, c2, o2, -⟩ := p_rdColF h hd hT (show i < sz by omega) o1 (by decide)
    obtain ⟨J3, c3, o3, -⟩ := p_rdColF h hd hT (show i < sz by omega) o2 (by decide)
    rw [mCol_n g0, sBind_no (by show 5 ≠ 0; decide)]
    exact ⟨_, M, run J1 J2 J3 _ _ _ (by decide) (by decide) c1 c2 c3, fin5 J3 _ _ _ _ (by decide) (by decide) (by decide) o3⟩
