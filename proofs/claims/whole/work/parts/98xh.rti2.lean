/-! read: the reference's laws and children as tells -/
theorem e_mono {K W : Nat → Nat} {i : Nat} (hi : i ≤ 400) : i ≤ (sE K W i).2.1 ∧ (sE K W i).2.1 ≤ 400 := by
  have s := spn_e (K := K) i hi
  rw [← pr_e (W := W)] at s
  exact ⟨s.2.1, s.2.2.1⟩
theorem e_gt {K W : Nat → Nat} {i : Nat} (hi : i ≤ 400) (h : (sE K W i).1 = 0) : i < (sE K W i).2.1 := by
  have h0 : (sUn K W 6 i).1 = 0 := by
    rcases Classical.em ((sUn K W 6 i).1 = 0) with z | z
    · exact z
    · have e : sE K W i = ((sUn K W 6 i).1, (sUn K W 6 i).2.1, []) := by unfold sE sEx; exact sBind_no z
      rw [e] at h
      exact absurd h z
  have g := un_gt h0
  have s := spn_un (K := K) 6 i hi
  rw [← pr_un (W := W)] at s
  have s2 := spn_tl (K := K) (U := un2 K 6) (spn_un 6) 400 (sUn K W 6 i).2.1 s.2.2.1
  have e : sE K W i = sTl (sUn K W 6) K 400 (sUn K W 6 i).2.1 none (sUn K W 6 i).2.2 := by unfold sE sEx; exact sBind_yes h0
  have p := pr_tl (K := K) (pr_un (K := K) (W := W) 6) 400 (sUn K W 6 i).2.1 none (sUn K W 6 i).2.2
  rw [← p, ← e] at s2
  have := s2.2.1
  have : (sUn K W 6 i).2.1 ≤ (sE K W i).2.1 := this
  omega
theorem if_gt {K W : Nat → Nat} {i : Nat} (hi : i ≤ 400) (h : (sIf K W i).1 = 0) : i + 4 ≤ (sIf K W i).2.1 ∧ (sIf K W i).2.1 ≤ 400 := by
  have hp : (if2 K i).1 = 0 := by rw [← pr_if (W := W)]; exact h
  have e : (sIf K W i).2.1 = (if2 K i).2 := by rw [← pr_if (W := W)]; rfl
  rw [e]
  unfold if2 at hp ⊢
  obtain ⟨a1, a2, a3⟩ := thn_ok hp
  obtain ⟨b1, b2⟩ := adv_lt a1
  rw [a3]
  rw [b1] at a2 ⊢
  obtain ⟨c1, c2, c3⟩ := thn_ok a2
  have s1 := spn_e (K := K) (i + 1) (by omega)
  rw [c3]
  obtain ⟨d1, d2, d3⟩ := thn_ok c2
  obtain ⟨m1, m2, m3, m4⟩ := must_ok d1
  rw [d3]
  rw [m2] at d2 ⊢
  obtain ⟨f1, f2, f3⟩ := thn_ok d2
  have s2 := spn_e (K := K) ((xe2 K (i + 1)).2 + 1) (by omega)
  rw [f3]
  obtain ⟨g1, g2, g3⟩ := thn_ok f2
  obtain ⟨n1, n2, n3, n4⟩ := must_ok g1
  rw [g3]
  rw [n2] at g2 ⊢
  obtain ⟨k1, k2, k3⟩ := thn_ok g2
  have s3 := spn_e (K := K) ((xe2 K ((xe2 K (i + 1)).2 + 1)).2 + 1) (by omega)
  rw [k3]
  obtain ⟨o1, o2, o3, o4⟩ := must_ok k2
  rw [o2]
  have := s1.2.1
  have := s2.2.1
  have := s3.2.1
  omega
theorem lw_len {K W : Nat → Nat} : ∀ n i, i ≤ 400 → (sLw K W n i).1 = 0 → 4 * (sLw K W n i).2.2.length + i ≤ (sLw K W n i).2.1 + 3 := by
  have base : ∀ n i, i ≤ 400 → K i ≠ 8 → (sLw K W n i).1 = 0 → 4 * (sLw K W n i).2.2.length + i ≤ (sLw K W n i).2.1 + 3 := by
    intro n i hi g h
    rw [sLw_0 g] at h ⊢
    by_cases e : (sE K W i).1 = 0
    · rw [sBind_yes e]
      have := e_gt hi e
      show 4 * 1 + i ≤ (sE K W i).2.1 + 3
      omega
    · rw [sBind_no e] at h
      exact absurd h e
  intro n
  induction n with
  | zero =>
    intro i hi h
    by_cases g : K i = 8
    · rw [sLw, if_pos g] at h
      cases h
    · exact base 0 i hi g h
  | succ n ih =>
    intro i hi h
    by_cases g : K i = 8
    · rw [sLw, if_pos g] at h ⊢
      by_cases e : (sIf K W i).1 = 0
      · rw [sBind_yes e] at h ⊢
        obtain ⟨u1, u2⟩ := if_gt hi e
        by_cases e2 : (sLw K W n (sIf K W i).2.1).1 = 0
        · rw [sBind_yes e2]
          have := ih _ u2 e2
          show 4 * ((sLw K W n (sIf K W i).2.1).2.2.length + 1) + i ≤ (sLw K W n (sIf K W i).2.1).2.1 + 3
          omega
        · rw [sBind_no e2] at h
          exact absurd h e2
      · rw [sBind_no e] at h
        exact absurd h e
    · exact base (n + 1) i hi g h
theorem r_tellLw {I : Nat → Nat → Int32} {L : Nat → Nat → Int64} {Z : zZ} {M sz sd i nch nrow b c : Nat} {K W S : Nat → Nat} {N : Nat → Nat → Prop} {p : (Nat × Nat) × (Nat → Nat)} (h : isMod Z M) (hS : tkS K W S sz) (hT : tokR I M K W S sz) (hi : i < sz) (hI : TI I L M S sd K W i nch nrow b c p) (hA : p.1.1 = 0 → mOK p.2) (hk : K i = 3 ∨ K i = 4 ∨ K i = 5 ∨ K i = 6) : ∃ J, fX12_tellOne [.ref M] (I, L, Z) = some (none, (J, L, Z)) ∧ tlR I L J L M S sd K W N i nch nrow p := by
  have sz4 := hS.2.1
  obtain ⟨hO, ⟨b1, b2, b3, b4, b5, b6, b7, b8, ⟨g, b9, b9'⟩, b10, b11, b12, b13, b14, b15⟩, hw, hlt, hr⟩ := hI
  have o11 := hO.2
  have o13 := hO.1
  have tk := (hT i hi).1
  obtain ⟨J1, a1, a2, a3⟩ := r_goes (L := L) (q := (0, i)) h hS hT (pqs_ok hO) hi
  rw [thn_0] at a2
  have p1 := (spn_adv (p := inn0) (K := K) (i := i) (by unfold inn0; omega) (by omega)).lt hS.2.2.2.1 hi
  have t1 := hT.kept a3 pP_t
  have c19 : J1 M 19 = nI sd := by rw [a3 _ _ (by unfold pP; omega)]; exact b1
  have ap : (adv i).1 = 0 → (adv i).2 = i + 1 := fun z => (adv_lt z).1
  have lq1 : lq J1 M S (adv i) c b := ⟨by rw [a3 _ _ (by unfold pP; omega)]; exact b10, fun z => ⟨a2.1 z, by rw [a3 _ _ (by unfold pP; omega)]; exact b3, by rw [a3 _ _ (by unfold pP; omega)]; exact b13⟩, a2.2⟩
  have et : tell2 K nch nrow i = thn (thn (thn (adv i) (must2 K 61)) (lw2 K 4)) (must2 K 59) := by
    rw [tell2, if_neg (by omega), if_neg (by omega), thn_assoc, thn_assoc]
    congr 1
    funext j
    have eb : body2 K (K i) j = thn (must2 K 61 j) (lw2 K 4) := by unfold body2; rw [if_neg (by omega), if_pos (by omega)]
    rw [eb, thn_assoc]
  obtain ⟨J, j1, j2, j3, j4⟩ := r_tellLaw (L := L) (lim := 420 * sd) (u := 420 * sd + 420) (v := 130 * sd + 130) (kk := K i - 3) h hS (by omega) (by omega) (by omega) t1 lq1 p1 (fun z => by rw [ap z]; omega) (by omega) c19 b2 (by omega)
  have fr : frm (pTl M sd) I J := by
    clear j3
    exact (a3.weak fun a k => pP_T).trans (j4.weak fun a k z => by
    rcases z with z | ⟨z1, z2⟩
    · unfold pLw at z
      rcases z with ⟨z1, z2⟩ | z | ⟨z1, z2, z3⟩ | ⟨z1, z2, z3, z4⟩
      · rw [z1]; exact pT_M (by omega)
      · exact Or.inr (Or.inl z)
      · exact Or.inr (Or.inr (Or.inl ⟨z1, by omega, z3⟩))
      · exact Or.inr (Or.inr (Or.inr (Or.inl ⟨z1, z2, by omega, z4⟩)))
    · exact pT_4 (by omega) (by omega) (by omega))
  rw [← et] at j2 j3
  refine ⟨J, ?_, j2, fun z => ?_, fr, fun _ _ => rfl⟩
  · show kX12_tellOne_0 [some (Value.ref (M)), none] [] (I, L, Z) = _
    rcases hk with hk | hk | hk | hk
    · rw [hk] at tk j1
      have tk : I (M + 3) i = nI 23 := tk
      have j1 : fX12_tellLaw [.ref M, .int (nI 0)] (J1, L, Z) = some (none, (J, L, Z)) := j1
      simp (disch := omega) only [kX12_tellOne_0, kX12_tellOne_222, kX12_tellOne_169, kX12_tellOne_205, e_sw20_3, h.1, mr_tKind h, ml_tKind h, o11, o13, tk, a1, j1, e_push, e_pushl, e_iload, e_lload, e_aload, e_istore, e_astore, e_lstore, e_iinc, e_iadd, e_isub, e_imul, e_iand, e_ior, e_ixor, e_ishl, e_ishr, e_iushr, e_idiv, e_irem, e_ladd, e_lsub, e_lmul, e_lcmp, e_mmax, e_mmin, e_i2l, e_l2i, e_i2b, e_i2c, e_dup, e_dup2, e_pop, e_icmp_eq, e_icmp_ne, e_icmp_lt, e_icmp_ge, e_icmp_gt, e_icmp_le, e_if_eq, e_if_ne, e_if_lt, e_if_ge, e_if_gt, e_if_le, e_getI, e_getR, e_putI, e_putZ, e_putR, e_iald, e_bald, e_zald, e_lald, e_aald, e_alen, e_iast, e_bast, e_zast, e_last, e_aast, e_iret, e_zret, e_lret, e_vret, e_obj, e_callV, e_callS, e_callT, e_acpy, e_ldcS, e_dn, e_ag, z_pop, List.getElem?_cons_zero, List.getElem?_cons_succ, List.set_cons_zero, List.set_cons_succ, List.length_cons, List.length_nil, z_nol, Option.map_some, Option.toList_some, Option.toList_none, List.cons_append, List.nil_append, n_lit, n_m1, n_m2, n_m1lt, n_m1le, n_rem, n_div, n_out, n_cl, n_eq, n_le, n_lt, n_add, n_mul, n_sub, n_nle, n_yle, n_nlt, n_ylt, n_neN, z_lay, z_sz, z_str, z_stI, z_stL, z_stR, eq_self, ↓reduceIte, true_and, and_true, and_self, false_and, and_false, or_self, false_or, or_false, true_or, or_true, not_true_eq_false, not_false_eq_true, Nat.reduceLeDiff, Nat.reduceLT, Nat.reduceAdd, Nat.reduceEqDiff, Nat.reduceMul, Nat.reduceSub, Value.category, Nat.zero_le, beq_self_eq_true]
    · rw [hk] at tk j1
      have tk : I (M + 3) i = nI 24 := tk
      have j1 : fX12_tellLaw [.ref M, .int (nI 1)] (J1, L, Z) = some (none, (J, L, Z)) := j1
      simp (disch := omega) only [kX12_tellOne_0, kX12_tellOne_222, kX12_tellOne_169, kX12_tellOne_205, e_sw20_4, h.1, mr_tKind h, ml_tKind h, o11, o13, tk, a1, j1, e_push, e_pushl, e_iload, e_lload, e_aload, e_istore, e_astore, e_lstore, e_iinc, e_iadd, e_isub, e_imul, e_iand, e_ior, e_ixor, e_ishl, e_ishr, e_iushr, e_idiv, e_irem, e_ladd, e_lsub, e_lmul, e_lcmp, e_mmax, e_mmin, e_i2l, e_l2i, e_i2b, e_i2c, e_dup, e_dup2, e_pop, e_icmp_eq, e_icmp_ne, e_icmp_lt, e_icmp_ge, e_icmp_gt, e_icmp_le, e_if_eq, e_if_ne, e_if_lt, e_if_ge, e_if_gt, e_if_le, e_getI, e_getR, e_putI, e_putZ, e_putR, e_iald, e_bald, e_zald, e_lald, e_aald, e_alen, e_iast, e_bast, e_zast, e_last, e_aast, e_iret, e_zret, e_lret, e_vret, e_obj, e_callV, e_callS, e_callT, e_acpy, e_ldcS, e_dn, e_ag, z_pop, List.getElem?_cons_zero, List.getElem?_cons_succ, List.set_cons_zero, List.set_cons_succ, List.length_cons, List.length_nil, z_nol, Option.map_some, Option.toList_some, Option.toList_none, List.cons_append, List.nil_append, n_lit, n_m1, n_m2, n_m1lt, n_m1le, n_rem, n_div, n_out, n_cl, n_eq, n_le, n_lt, n_add, n_mul, n_sub, n_nle, n_yle, n_nlt, n_ylt, n_neN, z_lay, z_sz, z_str, z_stI, z_stL, z_stR, eq_self, ↓reduceIte, true_and, and_true, and_self, false_and, and_false, or_self, false_or, or_false, true_or, or_true, not_true_eq_false, not_false_eq_true, Nat.reduceLeDiff, Nat.reduceLT, Nat.reduceAdd, Nat.reduceEqDiff, Nat.reduceMul, Nat.reduceSub, Value.category, Nat.zero_le, beq_self_eq_true]
    · rw [hk] at tk j1
      have tk : I (M + 3) i = nI 25 := tk
      have j1 : fX12_tellLaw [.ref M, .int (nI 2)] (J1, L, Z) = some (none, (J, L, Z)) := j1
      simp (disch := omega) only [kX12_tellOne_0, kX12_tellOne_222, kX12_tellOne_169, kX12_tellOne_205, e_sw20_5, h.1, mr_tKind h, ml_tKind h, o11, o13, tk, a1, j1, e_push, e_pushl, e_iload, e_lload, e_aload, e_istore, e_astore, e_lstore, e_iinc, e_iadd, e_isub, e_imul, e_iand, e_ior, e_ixor, e_ishl, e_ishr, e_iushr, e_idiv, e_irem, e_ladd, e_lsub, e_lmul, e_lcmp, e_mmax, e_mmin, e_i2l, e_l2i, e_i2b, e_i2c, e_dup, e_dup2, e_pop, e_icmp_eq, e_icmp_ne, e_icmp_lt, e_icmp_ge, e_icmp_gt, e_icmp_le, e_if_eq, e_if_ne, e_if_lt, e_if_ge, e_if_gt, e_if_le, e_getI, e_getR, e_putI, e_putZ, e_putR, e_iald, e_bald, e_zald, e_lald, e_aald, e_alen, e_iast, e_bast, e_zast, e_last, e_aast, e_iret, e_zret, e_lret, e_vret, e_obj, e_callV, e_callS, e_callT, e_acpy, e_ldcS, e_dn, e_ag, z_pop, List.getElem?_cons_zero, List.getElem?_cons_succ, List.set_cons_zero, List.set_cons_succ, List.length_cons, List.length_nil, z_nol, Option.map_some, Option.toList_some, Option.toList_none, List.cons_append, List.nil_append, n_lit, n_m1, n_m2, n_m1lt, n_m1le, n_rem, n_div, n_out, n_cl, n_eq, n_le, n_lt, n_add, n_mul, n_sub, n_nle, n_yle, n_nlt, n_ylt, n_neN, z_lay, z_sz, z_str, z_stI, z_stL, z_stR, eq_self, ↓reduceIte, true_and, and_true, and_self, false_and, and_false, or_self, false_or, or_false, true_or, or_true, not_true_eq_false, not_false_eq_true, Nat.reduceLeDiff, Nat.reduceLT, Nat.reduceAdd, Nat.reduceEqDiff, Nat.reduceMul, Nat.reduceSub, Value.category, Nat.zero_le, beq_self_eq_true]
    · rw [hk] at tk j1
      have tk : I (M + 3) i = nI 26 := tk
      have j1 : fX12_tellLaw [.ref M, .int (nI 3)] (J1, L, Z) = some (none, (J, L, Z)) := j1
      simp (disch := omega) only [kX12_tellOne_0, kX12_tellOne_222, kX12_tellOne_169, kX12_tellOne_205, e_sw20_6, h.1, mr_tKind h, ml_tKind h, o11, o13, tk, a1, j1, e_push, e_pushl, e_iload, e_lload, e_aload, e_istore, e_astore, e_lstore, e_iinc, e_iadd, e_isub, e_imul, e_iand, e_ior, e_ixor, e_ishl, e_ishr, e_iushr, e_idiv, e_irem, e_ladd, e_lsub, e_lmul, e_lcmp, e_mmax, e_mmin, e_i2l, e_l2i, e_i2b, e_i2c, e_dup, e_dup2, e_pop, e_icmp_eq, e_icmp_ne, e_icmp_lt, e_icmp_ge, e_icmp_gt, e_icmp_le, e_if_eq, e_if_ne, e_if_lt, e_if_ge, e_if_gt, e_if_le, e_getI, e_getR, e_putI, e_putZ, e_putR, e_iald, e_bald, e_zald, e_lald, e_aald, e_alen, e_iast, e_bast, e_zast, e_last, e_aast, e_iret, e_zret, e_lret, e_vret, e_obj, e_callV, e_callS, e_callT, e_acpy, e_ldcS, e_dn, e_ag, z_pop, List.getElem?_cons_zero, List.getElem?_cons_succ, List.set_cons_zero, List.set_cons_succ, List.length_cons, List.length_nil, z_nol, Option.map_some, Option.toList_some, Option.toList_none, List.cons_append, List.nil_append, n_lit, n_m1, n_m2, n_m1lt, n_m1le, n_rem, n_div, n_out, n_cl, n_eq, n_le, n_lt, n_add, n_mul, n_sub, n_nle, n_yle, n_nlt, n_ylt, n_neN, z_lay, z_sz, z_str, z_stI, z_stL, z_stR, eq_self, ↓reduceIte, true_and, and_true, and_self, false_and, and_false, or_self, false_or, or_false, true_or, or_true, not_true_eq_false, not_false_eq_true, Nat.reduceLeDiff, Nat.reduceLT, Nat.reduceAdd, Nat.reduceEqDiff, Nat.reduceMul, Nat.reduceSub, Value.category, Nat.zero_le, beq_self_eq_true]
  · obtain ⟨s, z1, hF⟩ := tell_form z
    obtain ⟨k1, k2, ⟨d, k3, k4, k5, k6⟩, k7, k8⟩ := j3 z
    have oo := j2.1 z
    rw [z1] at oo k4 ⊢
    have zz := z
    rw [et] at zz
    have y0 := thn_0of (thn_0of (thn_0of zz))
    rw [ap y0] at k2 k6 k8
    obtain ⟨l1, l2, l3⟩ := hF.2.2.2.2.2.2.2.2.2.2 (by omega) (by omega)
    have hs := hF.2.2.2.1
    have hs4 := hF.2.2.2.2.1
    have hs2 : i + 2 ≤ s := by
      have := (spn_lw (K := K) 4 (i + 2) (by omega)).2.1
      omega
    have e2 : i + 1 + 1 = i + 2 := rfl
    rw [e2] at k2 k6 k8
    have w1 : (sLw K W 4 (i + 2)).1 = 0 := by
      rw [← pr_lw (W := W)] at l2
      exact l2
    have w2 : (sLw K W 4 (i + 2)).2.1 = s := by
      rw [← pr_lw (W := W)] at l3
      exact l3
    have ll := lw_len (K := K) (W := W) 4 (i + 2) (by omega) w1
    have eS : sLw K W 4 (i + 2) = (0, s, (sLw K W 4 (i + 2)).2.2) := Prod.ext w1 (Prod.ext w2 rfl)
    generalize (sLw K W 4 (i + 2)).2.2 = bs at k2 k6 k8 ll eS
    have k4 : d ≤ 420 * sd + (s + 1) := k4
    have fM : ∀ a, a = M + 9 ∨ a = M + 10 ∨ a = M + 11 ∨ a = M + 12 ∨ a = M + 13 ∨ a = M + 14 ∨ a = M + 15 ∨ a = M + 16 → ∀ k, J a k = I a k := fun a ha k => by
      rw [j4 _ _ (by unfold pL2 pLw; omega), a3 _ _ (by unfold pP; omega)]
    have mf : ∀ k, k = 15 ∨ k = 16 ∨ k = 19 ∨ k = 20 → J M k = I M k := fun k hk' => by
      rw [j4 _ _ (by unfold pL2 pLw; omega), a3 _ _ (by unfold pP; omega)]
    have em : mTell K W N i p.2 = (0, i + 1, fUp p.2 (100 + (K i - 3)) (i + 2)) := by rw [mTell, if_neg (by omega), if_neg (by omega), if_neg (by omega), if_neg (by omega)]
    refine ⟨b + bs.length, d, oo, ?_, ?_, ?_, ?_⟩
    · rw [if_neg (by omega), if_neg (by omega)]
      exact ⟨by rw [mf _ (by omega)]; exact b1, b2, k1, by rw [fM _ (by omega)]; exact b4, b5, by rw [fM _ (by omega)]; exact b6, b7, by rw [mf _ (by omega)]; exact b8, ⟨g, b9, by rw [fM _ (by omega)]; exact b9'⟩, k2, by omega, by omega, k5, by omega, k4⟩
    · have hw2 : wrS J M S p.1 := ⟨by rw [mf _ (by omega)]; exact hw.1, hw.2.1, fun y => by rw [mf _ (by omega)]; exact hw.2.2 y⟩
      by_cases y : p.1.1 = 0
      · rw [stp_y y, em]
        exact ⟨by rw [hw2.1, y], by show 0 < 8; decide, fun z => absurd rfl z⟩
      · rw [stp_n y]
        exact hw2
    · by_cases y : p.1.1 = 0
      · rw [stp_y y, em]
        exact fun z => absurd rfl z
      · rw [stp_n y]
        intro _
        have := hlt y
        omega
    · by_cases y : p.1.1 = 0
      · rw [stp_y y, em]
        intro _
        have hA' := hA y
        have a2' := hA'.2.2.2.1
        have l8 := hA'.2.2.2.2.2.2.1
        obtain ⟨r0, r1, r2, r3, r4, r5, r6, r7⟩ := hr y
        have f : ∀ k, k ≠ 100 + (K i - 3) → fUp p.2 (100 + (K i - 3)) (i + 2) k = p.2 k := fun k hk' => fUp_ne hk'
        show rrA J L M sd K W (b + bs.length) d (fUp p.2 (100 + (K i - 3)) (i + 2))
        refine ⟨by rw [fM _ (by omega), f _ (by omega)]; exact r0, by rw [fM _ (by omega), f _ (by omega)]; exact r1, by rw [fM _ (by omega), f _ (by omega)]; exact r2, fun k hk' => ?_, fun r hr' => ?_, fun r i' hr' hi' => ?_, fun r hr' => ?_, fun k hk' => ?_⟩
        · rw [fM _ (by omega), f _ (by omega)]; exact r3 k hk'
        · rw [f _ (by omega)] at hr'
          rw [fM _ (by omega), f _ (by omega)]; exact r4 r hr'
        · rw [f _ (by omega)] at hr' 
          rw [f _ (by omega)] at hi'
          have := l8 r (by omega)
          rw [fM _ (by omega), f _ (by omega)]; exact r5 r i' hr' hi'
        · rw [f _ (by omega)] at hr'
          rw [f _ (by omega)]; exact r6 r hr'
        · by_cases gk : k = K i - 3
          · subst gk
            rw [fUp_at]
            exact Or.inr ⟨by omega, by omega, s, b, bs, eS, k7, k8, b11, Nat.le_refl _, fun y r hr' => (k6 y r hr').weak b14 (Nat.le_refl _)⟩
          · rw [f _ (by omega)]
            exact ((r7 k hk').kept a3 (b' := b) (c' := c) (by unfold pP; omega) (by unfold pP; omega) (fun x _ => by unfold pP; omega) (fun a x _ _ _ => by unfold pP; omega) (Nat.le_refl _) (Nat.le_refl _)).kept j4 (by unfold pL2 pLw; omega) (by unfold pL2 pLw; omega) (fun x _ => by unfold pL2 pLw; omega) (fun a x _ _ _ => by unfold pL2 pLw; omega) (by omega) k3
      · rw [stp_n y]
        intro y2
        exact absurd y2 y
