/-! read: the reference's tests -/
theorem r_if {I : Nat → Nat → Int32} {L : Nat → Nat → Int64} {Z : zZ} {M sz lim u v c b i n : Nat} {K W S : Nat → Nat} {y1 : Option Value} {x2 : Int32} (h : isMod Z M) (hS : tkS K W S sz) (hl : lim + 420 ≤ u) (hu : u ≤ 840) (hv : v ≤ 260) (hT : tokR I M K W S sz) (hq : lq I M S (0, i) c b) (hi : i < sz) (hk : K i = 8) (hc : c ≤ lim + i) (hb : b < v) (hn : n < 4) : ∃ J, kX12_tellLaw_38 [some (.ref M), y1, some (.int x2), some (.int (nI n))] [] (I, L, Z) = some (.inl ([some (.ref M), y1, some (.int x2), some (.int (nI (n + 1)))], (J, L, Z))) ∧ ifP2 I J M S lim u v c b (sIf K W i) := by
  have sz4 := hS.2.1
  obtain ⟨h32, hok, -⟩ := hq
  obtain ⟨hO, h12, h38⟩ := hok rfl
  have hO : okQ I M i := hO
  have o13 := hO.1
  unfold sIf
  by_cases g4 : 400 ≤ i
  · have e : sAdv i () () = (2, i, ()) := if_pos g4
    rw [e, sBind_no (by show 2 ≠ 0; decide)]
    have go := r_goesN (L := L) h hS hT hO hi (by omega)
    have fl := fl_fail (S := S) hO (show i ≤ 400 by omega) (show 2 ≠ 0 by decide) (by decide)
    have ff : frm (pP M) I (z_up (z_up I M 13 (nI 2)) M 14 (nI (S i))) := fr_fail
    generalize z_up (z_up I M 13 (nI 2)) M 14 (nI (S i)) = J1 at go fl ff
    have w32 : J1 M 32 = nI b := by rw [ff _ _ (by unfold pP; omega)]; exact h32
    have w38 : J1 M 38 = nI c := by rw [ff _ _ (by unfold pP; omega)]; exact h38
    have w12 : J1 M 12 = nI 0 := by rw [ff _ _ (by unfold pP; omega)]; exact h12
    have f3 : frm (fun a _ => a = M + 19 ∨ a = M + 20) J1 (z_up (z_up J1 (M + 19) b (nI 1)) (M + 20) b (nI c)) := ((frm.refl _ _).up (Or.inl rfl)).up (Or.inr rfl)
    have fl3 := fl.kept f3 (by omega) (by omega) (by omega)
    have v32 : z_up J1 (M + 19) b (nI 1) M 32 = nI b := by rw [zup_off (by omega)]; exact w32
    have v38 : z_up J1 (M + 19) b (nI 1) M 38 = nI c := by rw [zup_off (by omega)]; exact w38
    have ex := r_exprF (L := L) h fl3 (by rw [f3 _ _ (by omega)]; exact w12)
    have f4 : frm (pLw M u c v b) I (z_up (z_up (z_up J1 (M + 19) b (nI 1)) (M + 20) b (nI c)) M 42 (nI 0)) := (((ff.weak fun a k => pP_L).up (by unfold pLw; omega)).up (by unfold pLw; omega)).up (by unfold pLw; omega)
    have fl4 : flQ (z_up (z_up (z_up J1 (M + 19) b (nI 1)) (M + 20) b (nI c)) M 42 (nI 0)) M S 2 i := fl3.kept (P := fun a k => a = M ∧ k = 42) ((frm.refl _ _).up ⟨rfl, rfl⟩) (by omega) (by omega) (by omega)
    have x32 : z_up (z_up (z_up J1 (M + 19) b (nI 1)) (M + 20) b (nI c)) M 42 (nI 0) M 32 = nI b := by rw [zup_ne (by omega), zup_off (by omega)]; exact v32
    have x38 : z_up (z_up (z_up J1 (M + 19) b (nI 1)) (M + 20) b (nI c)) M 42 (nI 0) M 38 = nI c := by rw [zup_ne (by omega), zup_off (by omega)]; exact v38
    generalize z_up (z_up (z_up J1 (M + 19) b (nI 1)) (M + 20) b (nI c)) M 42 (nI 0) = J4 at ex f4 fl4 x32 x38
    have mu := r_mustF (L := L) (x := nI 13) h fl4
    have f5 : frm (pLw M u c v b) I (z_up J4 (M + 21) b (nI c)) := f4.up (by unfold pLw; omega)
    have fl5 : flQ (z_up J4 (M + 21) b (nI c)) M S 2 i := fl4.kept (P := fun a _ => a = M + 21) ((frm.refl _ _).up rfl) (by omega) (by omega) (by omega)
    have z32 : z_up J4 (M + 21) b (nI c) M 32 = nI b := by rw [zup_off (by omega)]; exact x32
    have z13 := fl5.1
    obtain ⟨J, j1, j2⟩ := r_ifF (I := z_up J4 (M + 21) b (nI c)) (I0 := I) (L := L) (y1 := y1) (y2 := some (.int x2)) (y3 := some (.int (nI (n + 1)))) h hS hl hu hv (hT.kept f5 pL_t) z32 fl5 hi hb f5
    refine ⟨J, ?_, j2⟩
    rw [← j1]
    simp (disch := omega) only [kX12_tellLaw_38, h.1, mr_hasTest h, ml_hasTest h, mr_testFrom h, ml_testFrom h, mr_testMid h, ml_testMid h, o13, go, w32, w38, v32, v38, ex, mu, x32, x38, z13, e_push, e_pushl, e_iload, e_lload, e_aload, e_istore, e_astore, e_lstore, e_iinc, e_iadd, e_isub, e_imul, e_iand, e_ior, e_ixor, e_ishl, e_ishr, e_iushr, e_idiv, e_irem, e_ladd, e_lsub, e_lmul, e_lcmp, e_mmax, e_mmin, e_i2l, e_l2i, e_i2b, e_i2c, e_dup, e_dup2, e_pop, e_icmp_eq, e_icmp_ne, e_icmp_lt, e_icmp_ge, e_icmp_gt, e_icmp_le, e_if_eq, e_if_ne, e_if_lt, e_if_ge, e_if_gt, e_if_le, e_getI, e_getR, e_putI, e_putZ, e_putR, e_iald, e_bald, e_zald, e_lald, e_aald, e_alen, e_iast, e_bast, e_zast, e_last, e_aast, e_iret, e_zret, e_lret, e_vret, e_obj, e_callV, e_callS, e_callT, e_acpy, e_ldcS, e_dn, e_ag, z_pop, List.getElem?_cons_zero, List.getElem?_cons_succ, List.set_cons_zero, List.set_cons_succ, List.length_cons, List.length_nil, z_nol, Option.map_some, Option.toList_some, Option.toList_none, List.cons_append, List.nil_append, n_lit, n_m1, n_m2, n_m1lt, n_m1le, n_rem, n_div, n_out, n_cl, n_eq, n_le, n_lt, n_add, n_mul, n_sub, n_nle, n_yle, n_nlt, n_ylt, n_neN, z_lay, z_sz, z_str, z_stI, z_stL, z_stR, eq_self, ↓reduceIte, true_and, and_true, and_self, false_and, and_false, or_self, false_or, or_false, true_or, or_true, not_true_eq_false, not_false_eq_true, Nat.reduceLeDiff, Nat.reduceLT, Nat.reduceAdd, Nat.reduceEqDiff, Nat.reduceMul, Nat.reduceSub, Value.category, Nat.zero_le, beq_self_eq_true]
  · have e : sAdv i () () = (0, i + 1, ()) := if_neg g4
    rw [e, sBind_yes rfl]
    show ∃ J, _ ∧ ifP2 I J M S lim u v c b (sBind (none, []) (sE K W (i + 1)) fun i c1 => sBind (none, []) (sMust K 60 i) fun i _ => sBind (none, []) (sE K W i) fun i c2 => sBind (none, []) (sMust K 9 i) fun i _ => sBind (none, []) (sE K W i) fun i c3 => sBind (none, []) (sMust K 10 i) fun i _ => (0, i, (some (c1, c2), c3)))
    have hi1 : i + 1 < sz := hS.2.2.2.1 i hi (by omega) (by rw [hk]; unfold inn0; decide)
    have go := r_goesY (L := L) h hO (by omega)
    have w32 : z_up I M 11 (nI (i + 1)) M 32 = nI b := by rw [zup_ne (by omega)]; exact h32
    have w38 : z_up I M 11 (nI (i + 1)) M 38 = nI c := by rw [zup_ne (by omega)]; exact h38
    have w12 : z_up I M 11 (nI (i + 1)) M 12 = nI 0 := by rw [zup_ne (by omega)]; exact h12
    have w11 : z_up I M 11 (nI (i + 1)) M 11 = nI (i + 1) := zup_at
    have w13 : z_up I M 11 (nI (i + 1)) M 13 = nI 0 := by rw [zup_ne (by omega)]; exact hO.1
    have ff : frm (pP M) I (z_up I M 11 (nI (i + 1))) := (frm.refl _ _).up (by unfold pP; omega)
    generalize z_up I M 11 (nI (i + 1)) = J1 at go ff w32 w38 w12 w11 w13
    have v32 : z_up J1 (M + 19) b (nI 1) M 32 = nI b := by rw [zup_off (by omega)]; exact w32
    have v38 : z_up J1 (M + 19) b (nI 1) M 38 = nI c := by rw [zup_off (by omega)]; exact w38
    have f3 : frm (pLw M u c v b) I (z_up (z_up J1 (M + 19) b (nI 1)) (M + 20) b (nI c)) := ((ff.weak fun a k => pP_L).up (by unfold pLw; omega)).up (by unfold pLw; omega)
    have u32 : z_up (z_up J1 (M + 19) b (nI 1)) (M + 20) b (nI c) M 32 = nI b := by rw [zup_off (by omega)]; exact v32
    have u19 : z_up (z_up J1 (M + 19) b (nI 1)) (M + 20) b (nI c) (M + 19) b = nI 1 := by rw [zup_off (by omega), zup_at]
    have u20 : z_up (z_up J1 (M + 19) b (nI 1)) (M + 20) b (nI c) (M + 20) b = nI c := zup_at
    have x := r_expr (I := z_up (z_up J1 (M + 19) b (nI 1)) (M + 20) b (nI c)) (L := L) (i := i + 1) (c := c) h hS hl hu (hT.kept f3 pL_t) ⟨by rw [zup_off (by omega), zup_off (by omega)]; exact w13, by rw [zup_off (by omega), zup_off (by omega)]; exact w11⟩ hi1 (by rw [zup_off (by omega), zup_off (by omega)]; exact w12) (by rw [zup_off (by omega)]; exact v38) (by omega)
    obtain ⟨y1', y2', y3', y4'⟩ := e_sp (W := W) hS hi1
    have le1 := len_e (K := K) (W := W) (i + 1)
    have run : ∀ (J4 J5 : Nat → Nat → Int32) (x38 : Int32) (R : Option ((zL × zS) ⊕ zR)), fX12_expression [.ref M] (z_up (z_up J1 (M + 19) b (nI 1)) (M + 20) b (nI c), L, Z) = some (none, (J4, L, Z)) → fX12_must [.ref M, .int (nI 13)] (J4, L, Z) = some (none, (J5, L, Z)) → J5 M 32 = nI b → J5 M 38 = x38 → (∀ f : Nat, f < 8 → z_up J5 (M + 21) b x38 M 13 = nI f → (f ≠ 0 → kX12_tellLaw_110 [some (.ref M), y1, some (.int x2), some (.int (nI (n + 1)))] [] (z_up J5 (M + 21) b x38, L, Z) = R) ∧ (f = 0 → ∃ J7, fX12_expression [.ref M] (z_up J5 (M + 21) b x38, L, Z) = some (none, (J7, L, Z)) ∧ kX12_tellLaw_110 [some (.ref M), y1, some (.int x2), some (.int (nI (n + 1)))] [] (J7, L, Z) = R) → kX12_tellLaw_38 [some (.ref M), y1, some (.int x2), some (.int (nI n))] [] (I, L, Z) = R) := by
      intro J4 J5 x38 R e1 e2 e3 e4 f f8 e5 e6
      by_cases z : f = 0
      · obtain ⟨J7, k1, k2⟩ := e6.2 z
        rw [z] at e5
        rw [← k2]
        simp (disch := omega) only [kX12_tellLaw_38, h.1, mr_hasTest h, ml_hasTest h, mr_testFrom h, ml_testFrom h, mr_testMid h, ml_testMid h, o13, go, w32, w38, v32, v38, e1, e2, e3, e4, e5, k1, e_push, e_pushl, e_iload, e_lload, e_aload, e_istore, e_astore, e_lstore, e_iinc, e_iadd, e_isub, e_imul, e_iand, e_ior, e_ixor, e_ishl, e_ishr, e_iushr, e_idiv, e_irem, e_ladd, e_lsub, e_lmul, e_lcmp, e_mmax, e_mmin, e_i2l, e_l2i, e_i2b, e_i2c, e_dup, e_dup2, e_pop, e_icmp_eq, e_icmp_ne, e_icmp_lt, e_icmp_ge, e_icmp_gt, e_icmp_le, e_if_eq, e_if_ne, e_if_lt, e_if_ge, e_if_gt, e_if_le, e_getI, e_getR, e_putI, e_putZ, e_putR, e_iald, e_bald, e_zald, e_lald, e_aald, e_alen, e_iast, e_bast, e_zast, e_last, e_aast, e_iret, e_zret, e_lret, e_vret, e_obj, e_callV, e_callS, e_callT, e_acpy, e_ldcS, e_dn, e_ag, z_pop, List.getElem?_cons_zero, List.getElem?_cons_succ, List.set_cons_zero, List.set_cons_succ, List.length_cons, List.length_nil, z_nol, Option.map_some, Option.toList_some, Option.toList_none, List.cons_append, List.nil_append, n_lit, n_m1, n_m2, n_m1lt, n_m1le, n_rem, n_div, n_out, n_cl, n_eq, n_le, n_lt, n_add, n_mul, n_sub, n_nle, n_yle, n_nlt, n_ylt, n_neN, z_lay, z_sz, z_str, z_stI, z_stL, z_stR, eq_self, ↓reduceIte, true_and, and_true, and_self, false_and, and_false, or_self, false_or, or_false, true_or, or_true, not_true_eq_false, not_false_eq_true, Nat.reduceLeDiff, Nat.reduceLT, Nat.reduceAdd, Nat.reduceEqDiff, Nat.reduceMul, Nat.reduceSub, Value.category, Nat.zero_le, beq_self_eq_true]
      · rw [← e6.1 z]
        simp (disch := omega) only [kX12_tellLaw_38, h.1, mr_hasTest h, ml_hasTest h, mr_testFrom h, ml_testFrom h, mr_testMid h, ml_testMid h, o13, go, w32, w38, v32, v38, e1, e2, e3, e4, e5, z, e_push, e_pushl, e_iload, e_lload, e_aload, e_istore, e_astore, e_lstore, e_iinc, e_iadd, e_isub, e_imul, e_iand, e_ior, e_ixor, e_ishl, e_ishr, e_iushr, e_idiv, e_irem, e_ladd, e_lsub, e_lmul, e_lcmp, e_mmax, e_mmin, e_i2l, e_l2i, e_i2b, e_i2c, e_dup, e_dup2, e_pop, e_icmp_eq, e_icmp_ne, e_icmp_lt, e_icmp_ge, e_icmp_gt, e_icmp_le, e_if_eq, e_if_ne, e_if_lt, e_if_ge, e_if_gt, e_if_le, e_getI, e_getR, e_putI, e_putZ, e_putR, e_iald, e_bald, e_zald, e_lald, e_aald, e_alen, e_iast, e_bast, e_zast, e_last, e_aast, e_iret, e_zret, e_lret, e_vret, e_obj, e_callV, e_callS, e_callT, e_acpy, e_ldcS, e_dn, e_ag, z_pop, List.getElem?_cons_zero, List.getElem?_cons_succ, List.set_cons_zero, List.set_cons_succ, List.length_cons, List.length_nil, z_nol, Option.map_some, Option.toList_some, Option.toList_none, List.cons_append, List.nil_append, n_lit, n_m1, n_m2, n_m1lt, n_m1le, n_rem, n_div, n_out, n_cl, n_eq, n_le, n_lt, n_add, n_mul, n_sub, n_nle, n_yle, n_nlt, n_ylt, n_neN, z_lay, z_sz, z_str, z_stI, z_stL, z_stR, eq_self, ↓reduceIte, true_and, and_true, and_self, false_and, and_false, or_self, false_or, or_false, true_or, or_true, not_true_eq_false, not_false_eq_true, Nat.reduceLeDiff, Nat.reduceLT, Nat.reduceAdd, Nat.reduceEqDiff, Nat.reduceMul, Nat.reduceSub, Value.category, Nat.zero_le, beq_self_eq_true]
    generalize z_up (z_up J1 (M + 19) b (nI 1)) (M + 20) b (nI c) = J3 at f3 u32 u19 u20 x run
    have hT3 := hT.kept f3 pL_t
    by_cases ge : (sE K W (i + 1)).1 = 0
    · rw [sBind_yes ge]
      obtain ⟨J4, a1, a2, a3, a4, a5, a6⟩ := x.1 ge
      have le1 := le1 ge
      generalize (sE K W (i + 1)).2.1 = j1 at a2 y2' y3' y4' le1 ⊢
      generalize (sE K W (i + 1)).2.2 = c1 at a4 a5 le1 ⊢
      have f4 : frm (pLw M u c v b) I J4 := f3.trans (a6.weak fun a k => pX_L)
      have hT4 := hT.kept f4 pL_t
      have q4 : lq J4 M S (0, j1) (c + c1.length) b := ⟨by rw [a6 _ _ (by unfold pX; omega)]; exact u32, fun _ => ⟨a2, a3, a4⟩, fun z => absurd rfl z⟩
      obtain ⟨J5, b1, b2, b3⟩ := r_must (L := L) h hS hT4 q4.pq y4' (show 60 < 64 by decide) (show rk 60 = 13 from rfl) (by decide)
      have q5 := q4.step b2 b3 thn_0of
      rw [thn_0] at q5 b2
      have p5 := (sp_must (K := K) (inn0_of (k := 60) (by decide) (by decide)) j1 y3').lt hS.2.2.2.1 y4'
      have r5 := (sp_must (K := K) (inn0_of (k := 60) (by decide) (by decide)) j1 y3').1
      have f5 : frm (pLw M u c v b) I J5 := f4.trans (b3.weak fun a k => pP_L)
      by_cases gm : (sMust K 60 j1).1 = 0
      · have gm2 : (must2 K 60 j1).1 = 0 := by rw [← pr_must]; exact gm
        obtain ⟨m1, m2, m3, m4⟩ := must_ok gm2
        have m5 : (sMust K 60 j1).2.1 = j1 + 1 := by
          have := m2
          rw [← pr_must] at this
          exact this
        rw [sBind_yes gm, m5]
        rw [m4] at q5 p5
        obtain ⟨k32, kok, -⟩ := q5
        obtain ⟨kO, k12, k38⟩ := kok rfl
        have kO : okQ J5 M (j1 + 1) := kO
        have p5 : j1 + 1 < sz := p5
        have f6 : frm (pLw M u c v b) I (z_up J5 (M + 21) b (nI (c + c1.length))) := f5.up (by unfold pLw; omega)
        have z13 : z_up J5 (M + 21) b (nI (c + c1.length)) M 13 = nI 0 := by rw [zup_off (by omega)]; exact kO.1
        have z32 : z_up J5 (M + 21) b (nI (c + c1.length)) M 32 = nI b := by rw [zup_off (by omega)]; exact k32
        have z21 : z_up J5 (M + 21) b (nI (c + c1.length)) (M + 21) b = nI (c + c1.length) := zup_at
        have z19 : z_up J5 (M + 21) b (nI (c + c1.length)) (M + 19) b = nI 1 := by rw [zup_off (by omega), b3 _ _ (by unfold pP; omega), a6 _ _ (by unfold pX; omega)]; exact u19
        have z20 : z_up J5 (M + 21) b (nI (c + c1.length)) (M + 20) b = nI c := by rw [zup_off (by omega), b3 _ _ (by unfold pP; omega), a6 _ _ (by unfold pX; omega)]; exact u20
        have zs : segR (z_up J5 (M + 21) b (nI (c + c1.length))) M c c1 := by
          have s5 := seg_frm a5 b3 (fun k _ => by unfold pP; omega)
          refine ⟨s5.1, fun k r hr => ?_⟩
          rw [zup_off (by omega), zup_off (by omega)]
          exact s5.2 k r hr
        have xx := r_expr (I := z_up J5 (M + 21) b (nI (c + c1.length))) (L := L) (i := j1 + 1) (c := c + c1.length) h hS hl hu (hT.kept f6 pL_t) ⟨z13, by rw [zup_off (by omega)]; exact kO.2⟩ p5 (by rw [zup_off (by omega)]; exact k12) (by rw [zup_off (by omega)]; exact k38) (by omega)
        have run2 := fun J7 R (e1 : fX12_expression [.ref M] (z_up J5 (M + 21) b (nI (c + c1.length)), L, Z) = some (none, (J7, L, Z))) (e2 : kX12_tellLaw_110 [some (.ref M), y1, some (.int x2), some (.int (nI (n + 1)))] [] (J7, L, Z) = R) => run J4 J5 _ R a1 b1 k32 k38 0 (by decide) z13 ⟨fun z => absurd rfl z, fun _ => ⟨J7, e1, e2⟩⟩
        generalize z_up J5 (M + 21) b (nI (c + c1.length)) = J6 at f6 z13 z32 z21 z19 z20 zs xx run2
        obtain ⟨w1', w2', w3', w4'⟩ := e_sp (W := W) hS p5
        have le2 := len_e (K := K) (W := W) (j1 + 1)
        by_cases ge2 : (sE K W (j1 + 1)).1 = 0
        · rw [sBind_yes ge2]
          obtain ⟨J7, d1, d2, d3, d4, d5, d6⟩ := xx.1 ge2
          have le2 := le2 ge2
          generalize (sE K W (j1 + 1)).2.1 = j2 at d2 w2' w3' w4' le2 ⊢
          generalize (sE K W (j1 + 1)).2.2 = c2 at d4 d5 le2 ⊢
          have f7 : frm (pLw M u c v b) I J7 := f6.trans (d6.weak fun a k z => pX_L (pX_X (by omega) (Nat.le_refl _) z))
          have q7 : lq J7 M S (0, j2) (c + c1.length + c2.length) b := ⟨by rw [d6 _ _ (by unfold pX; omega)]; exact z32, fun _ => ⟨d2, d3, d4⟩, fun z => absurd rfl z⟩
          obtain ⟨J, t1, t2, t3, t4, t5⟩ := r_110 (L := L) (y1 := y1) (y2 := some (.int x2)) (y3 := some (.int (nI (n + 1)))) h hS hl hu hv (hT.kept f7 pL_t) q7 w4' (fun _ => by show c + c1.length + c2.length ≤ lim + j2; omega) hb
          have t2 : lq J M S (thn (thn (must2 K 9 j2) (xe2 K)) (must2 K 10)) (c + c1.length + c2.length + (sE K W (j2 + 1)).2.2.length) (b + 1) := by
            have e0 : thn (0, j2) (must2 K 9) = must2 K 9 j2 := thn_0
            rw [e0] at t2
            exact t2
          have t3 : (thn (thn (must2 K 9 j2) (xe2 K)) (must2 K 10)).1 = 0 → J (M + 22) b = nI (c + c1.length + c2.length) ∧ J (M + 23) b = nI (c + c1.length + c2.length + (sE K W (j2 + 1)).2.2.length) ∧ segR J M (c + c1.length + c2.length) (sE K W (j2 + 1)).2.2 := by
            have e0 : thn (0, j2) (must2 K 9) = must2 K 9 j2 := thn_0
            rw [e0] at t3
            exact t3
          refine ⟨J, run2 J7 _ d1 t1, ?_⟩
          have fr : frm (pLw M u c v b) I J := f7.trans (t4.weak fun a k => pL_L (by omega) (Nat.le_refl _))
          have pe : pr (sBind (none, []) (sMust K 9 j2) fun i _ => sBind (none, []) (sE K W i) fun i c3 => sBind (none, []) (sMust K 10 i) fun i _ => ((0, i, (some (c1, c2), c3)) : Nat × Nat × sB)) = thn (thn (must2 K 9 j2) (xe2 K)) (must2 K 10) := by
            rw [thn_assoc]
            refine (pr_bind fun i _ => ?_).trans (by rw [pr_must])
            refine (pr_bind fun i _ => ?_).trans (by rw [pr_e])
            refine (pr_bind (g := fun j => (0, j)) fun i _ => ?_).trans (by rw [pr_must, thn_id])
            rfl
          have key : (sBind (none, []) (sMust K 9 j2) fun i _ => sBind (none, []) (sE K W i) fun i c3 => sBind (none, []) (sMust K 10 i) fun i _ => ((0, i, (some (c1, c2), c3)) : Nat × Nat × sB)).1 = 0 → (sBind (none, []) (sMust K 9 j2) fun i _ => sBind (none, []) (sE K W i) fun i c3 => sBind (none, []) (sMust K 10 i) fun i _ => ((0, i, (some (c1, c2), c3)) : Nat × Nat × sB)).2.2 = (some (c1, c2), (sE K W (j2 + 1)).2.2) ∧ (sE K W (j2 + 1)).2.2.length + j2 + 1 ≤ (sBind (none, []) (sMust K 9 j2) fun i _ => sBind (none, []) (sE K W i) fun i c3 => sBind (none, []) (sMust K 10 i) fun i _ => ((0, i, (some (c1, c2), c3)) : Nat × Nat × sB)).2.1 := by
            intro z
            by_cases m9 : (sMust K 9 j2).1 = 0
            · have n5 : (sMust K 9 j2).2.1 = j2 + 1 := by
                have := (must_ok (K := K) (k := 9) (i := j2) (by rw [← pr_must]; exact m9)).2.1
                rw [← pr_must] at this
                exact this
              rw [sBind_yes m9, n5] at z ⊢
              by_cases e3 : (sE K W (j2 + 1)).1 = 0
              · have le3 := len_e (K := K) (W := W) (j2 + 1) e3
                rw [sBind_yes e3] at z ⊢
                by_cases m10 : (sMust K 10 (sE K W (j2 + 1)).2.1).1 = 0
                · rw [sBind_yes m10]
                  have n6 : (sMust K 10 (sE K W (j2 + 1)).2.1).2.1 = (sE K W (j2 + 1)).2.1 + 1 := by
                    have := (must_ok (K := K) (k := 10) (i := (sE K W (j2 + 1)).2.1) (by rw [← pr_must]; exact m10)).2.1
                    rw [← pr_must] at this
                    exact this
                  refine ⟨rfl, ?_⟩
                  show _ ≤ (sMust K 10 (sE K W (j2 + 1)).2.1).2.1
                  omega
                · rw [sBind_no m10] at z
                  exact absurd z m10
              · rw [sBind_no e3] at z
                exact absurd z e3
            · rw [sBind_no m9] at z
              exact absurd z m9
          generalize (sBind (none, []) (sMust K 9 j2) fun i _ => sBind (none, []) (sE K W i) fun i c3 => sBind (none, []) (sMust K 10 i) fun i _ => ((0, i, (some (c1, c2), c3)) : Nat × Nat × sB)) = R at pe key ⊢
          rw [← pe] at t2 t3
          refine ⟨⟨t2.1, fun z => ?_, t2.2.2⟩, fun z => ?_, fr⟩
          · obtain ⟨k1, k2, k3⟩ := t2.2.1 z
            refine ⟨k1, k2, ?_⟩
            rw [k3, (key z).1]
            show nI (c + c1.length + c2.length + (sE K W (j2 + 1)).2.2.length) = nI (c + (c1.length + c2.length + (sE K W (j2 + 1)).2.2.length))
            congr 1
            omega
          · obtain ⟨k1, k2⟩ := key z
            obtain ⟨n1, n2, n3⟩ := t3 z
            rw [k1]
            have eb : brL (some (c1, c2), (sE K W (j2 + 1)).2.2) = c1.length + c2.length + (sE K W (j2 + 1)).2.2.length := rfl
            rw [eb]
            refine ⟨⟨c + c1.length + c2.length, by omega, ?_, n1, n2, n3, ?_, c, c + c1.length, Nat.le_refl _, ?_, ?_, rfl, rfl, ?_, ?_⟩, ?_⟩
            · show c + c1.length + c2.length + (sE K W (j2 + 1)).2.2.length ≤ _
              omega
            · rw [t5 _ (Or.inl rfl), d6 _ _ (by unfold pX; omega)]; exact z19
            · rw [t5 _ (Or.inr (Or.inl rfl)), d6 _ _ (by unfold pX; omega)]; exact z20
            · rw [t5 _ (Or.inr (Or.inr rfl)), d6 _ _ (by unfold pX; omega)]; exact z21
            · exact (show segR J M c c1 from seg_frm (seg_frm zs d6 (fun k hk => by unfold pX; omega)) t4 (fun k hk => by unfold pLw; omega))
            · exact (show segR J M (c + c1.length) c2 from seg_frm d5 t4 (fun k hk => by unfold pLw; omega))
            · show _ ≤ lim + R.2.1
              omega
        · rw [sBind_no ge2]
          obtain ⟨J7, d1, d2, d6⟩ := xx.2 ge2
          have f7 : frm (pLw M u c v b) I J7 := f6.trans (d6.weak fun a k z => pX_L (pX_X (by omega) (Nat.le_refl _) z))
          obtain ⟨J, k1, k2⟩ := r_ifF (I := J7) (I0 := I) (L := L) (y1 := y1) (y2 := some (.int x2)) (y3 := some (.int (nI (n + 1)))) h hS hl hu hv (hT.kept f7 pL_t) (by rw [d6 _ _ (by unfold pX; omega)]; exact z32) d2 w4' hb f7
          exact ⟨J, run2 J7 _ d1 k1, k2⟩
      · rw [sBind_no gm]
        have gm2 : (must2 K 60 j1).1 ≠ 0 := by rw [← pr_must]; exact gm
        have fl5 := q5.2.2 gm2
        have fl6 : flQ (z_up J5 (M + 21) b (J5 M 38)) M S (must2 K 60 j1).1 (must2 K 60 j1).2 := fl5.kept (P := fun a _ => a = M + 21) ((frm.refl _ _).up rfl) (by omega) (by omega) (by omega)
        have f6 : frm (pLw M u c v b) I (z_up J5 (M + 21) b (J5 M 38)) := f5.up (by unfold pLw; omega)
        obtain ⟨J, k1, k2⟩ := r_ifF (I := z_up J5 (M + 21) b (J5 M 38)) (I0 := I) (L := L) (y1 := y1) (y2 := some (.int x2)) (y3 := some (.int (nI (n + 1)))) h hS hl hu hv (hT.kept f6 pL_t) (by rw [zup_off (by omega)]; exact q5.1) fl6 p5 hb f6
        refine ⟨J, run J4 J5 _ _ a1 b1 q5.1 rfl (must2 K 60 j1).1 (by omega) fl6.1 ⟨fun _ => k1, fun z => absurd z gm2⟩, ?_⟩
        rw [← pr_must] at k2
        exact k2
    · rw [sBind_no ge]
      obtain ⟨J4, a1, a2, a6⟩ := x.2 ge
      have f4 : frm (pLw M u c v b) I J4 := f3.trans (a6.weak fun a k => pX_L)
      have mu := r_mustF (L := L) (x := nI 13) h a2
      have k32 : J4 M 32 = nI b := by rw [a6 _ _ (by unfold pX; omega)]; exact u32
      have fl6 : flQ (z_up J4 (M + 21) b (J4 M 38)) M S (sE K W (i + 1)).1 (sE K W (i + 1)).2.1 := a2.kept (P := fun a _ => a = M + 21) ((frm.refl _ _).up rfl) (by omega) (by omega) (by omega)
      have f6 : frm (pLw M u c v b) I (z_up J4 (M + 21) b (J4 M 38)) := f4.up (by unfold pLw; omega)
      obtain ⟨J, k1, k2⟩ := r_ifF (I := z_up J4 (M + 21) b (J4 M 38)) (I0 := I) (L := L) (y1 := y1) (y2 := some (.int x2)) (y3 := some (.int (nI (n + 1)))) h hS hl hu hv (hT.kept f6 pL_t) (by rw [zup_off (by omega)]; exact k32) fl6 y4' hb f6
      exact ⟨J, run J4 J4 _ _ a1 mu k32 rfl (sE K W (i + 1)).1 (by omega) fl6.1 ⟨fun _ => k1, fun z => absurd z ge⟩, k2⟩
