/-! read: the reference's units and expressions -/
theorem ex_sp {K W S : Nat → Nat} {sz m i : Nat} (hS : tkS K W S sz) (hi : i < sz) : (sEx (sUn K W m) K i).1 < 3 ∧ i ≤ (sEx (sUn K W m) K i).2.1 ∧ (sEx (sUn K W m) K i).2.1 ≤ 400 ∧ (sEx (sUn K W m) K i).2.1 < sz := by
  have sz4 := hS.2.1
  have s := spn_ex (K := K) (spn_un m) i (by omega)
  rw [← pr_ex (pr_un (W := W) m)] at s
  exact ⟨s.1, s.2.1, s.2.2.1, (s.weak (fun k hk => ⟨hk.1, hk.2.1⟩)).lt hS.2.2.2.1 hi⟩
theorem len_join2 {s : Option (List (Nat × Nat) × Nat)} {P : List (Nat × Nat)} {d : Option Nat} : (sJoin s (P ++ pdL d)).length = (s1 s).length + P.length + nO s + nO d := by
  rw [len_join, List.length_append, len_pd]
  cases s with
  | none =>
    show 0 + (P.length + nO d) = 0 + P.length + 0 + nO d
    omega
  | some q =>
    show q.1.length + 1 + (P.length + nO d) = q.1.length + P.length + 1 + nO d
    omega
/-- an expression from its first unit to where it ends -/
theorem r_exA {L : Nat → Nat → Int64} {Z : zZ} {M sz lim u m o t c i : Nat} {K W S : Nat → Nat} {I : Nat → Nat → Int32} (h : isMod Z M) (hS : tkS K W S sz) (hl : lim + 420 ≤ u) (hu : u ≤ 840) (hU : uC L Z M K W S sz lim u m) (ho : o + m = 6) (ht : t ≤ 3 * o) (hT : tokR I M K W S sz) (hO : okQ I M i) (hi : i < sz) (h12 : I M 12 = nI o) (h42 : I M 42 = nI t) (hv : vS I M t) (h38 : I M 38 = nI c) (hc : c + t ≤ lim + i) (hb : t = 0 ∨ I (M + 26) (t - 1) = nI 6) : ((sEx (sUn K W m) K i).1 = 0 → ∃ J s P d, fA M (I, L, Z) = fC M (J, L, Z) ∧ okQ J M (sEx (sUn K W m) K i).2.1 ∧ xT J M o t c s P d ∧ vS J M (t + nO s + nO d) ∧ (sEx (sUn K W m) K i).2.2 = sJoin s (P ++ pdL d) ∧ sOp (K (sEx (sUn K W m) K i).2.1) = 0 ∧ c + (s1 s).length + P.length + t + nO s + nO d ≤ lim + (sEx (sUn K W m) K i).2.1 ∧ frm (pX M u c t) I J) ∧ ((sEx (sUn K W m) K i).1 ≠ 0 → ∃ J, fA M (I, L, Z) = some (none, (J, L, Z)) ∧ flQ J M S (sEx (sUn K W m) K i).1 (sEx (sUn K W m) K i).2.1 ∧ frm (pX M u c t) I J) := by
  have sz4 := hS.2.1
  obtain ⟨u1, u2⟩ := hU I i o t c hT hO hi h12 ho h42 (by omega) hv h38 hc
  obtain ⟨y1, y2, y3, y4⟩ := un_sp (W := W) (m := m) hS hi
  unfold sEx
  by_cases gu : (sUn K W m i).1 = 0
  · rw [sBind_yes gu]
    obtain ⟨J3, a1, a2, a3, a4, a5, a6, a7⟩ := u1 gu
    have gt := un_gt gu
    have le := len_un (K := K) (W := W) m i gu
    generalize (sUn K W m i).2.1 = j2 at a2 y2 y3 y4 gt le ⊢
    generalize (sUn K W m i).2.2 = cd at a5 a6 le ⊢
    have hx : xT J3 M o t c none cd none := by
      refine ⟨a3, a4, by rw [a5]; rfl, a6, fun q hq => (nomatch hq), fun op hop => (nomatch hop), ?_⟩
      by_cases z : t = 0
      · exact Or.inl z
      · refine Or.inr ?_
        rw [a7 _ _ (by unfold pX; omega)]
        exact hb.resolve_left z
    have r := r_tail (L := L) h hS hl hu hU ho ht 400 J3 j2 none cd none (hT.kept a7 pX_t) a2 y4 (by omega) hx (show vS J3 M t from hv.kept a7 (Nat.le_refl _) (fun k hk => by unfold pX; omega)) (by show c + 0 + cd.length + t + 0 + 0 ≤ lim + j2; omega)
    have e : cd ++ pdL none = cd := List.append_nil cd
    rw [e] at r
    refine ⟨fun z => ?_, fun z => ?_⟩
    · obtain ⟨J, s2, P2, d2, k1, k2, k3, k4, k5, k6, k7, k8⟩ := r.1 z
      exact ⟨J, s2, P2, d2, a1.trans k1, k2, k3, k4, k5, k6, k7, a7.trans k8⟩
    · obtain ⟨J, k1, k2, k3⟩ := r.2 z
      exact ⟨J, a1.trans k1, k2, a7.trans k3⟩
  · rw [sBind_no gu]
    obtain ⟨J3, a1, a2, a3⟩ := u2 gu
    exact ⟨fun z => absurd z gu, fun _ => ⟨J3, a1, a2, a3⟩⟩
theorem uC_all {L : Nat → Nat → Int64} {Z : zZ} {M sz lim u : Nat} {K W S : Nat → Nat} (h : isMod Z M) (hS : tkS K W S sz) (hl : lim + 420 ≤ u) (hu : u ≤ 840) : ∀ m, uC L Z M K W S sz lim u m := by
  have sz4 := hS.2.1
  have leaf : ∀ (I : Nat → Nat → Int32) (i o t c : Nat), tokR I M K W S sz → okQ I M i → i < sz → K i ≠ 40 → I M 12 = nI o → I M 42 = nI t → I M 38 = nI c → c < u → ((sLeaf K W i).1 = 0 → ∃ J, fA M (I, L, Z) = fC M (J, L, Z) ∧ okQ J M (sLeaf K W i).2.1 ∧ J M 12 = nI o ∧ J M 42 = nI t ∧ J M 38 = nI (c + (sLeaf K W i).2.2.length) ∧ segR J M c (sLeaf K W i).2.2 ∧ frm (pX M u c t) I J) ∧ ((sLeaf K W i).1 ≠ 0 → ∃ J, fA M (I, L, Z) = some (none, (J, L, Z)) ∧ flQ J M S (sLeaf K W i).1 (sLeaf K W i).2.1 ∧ frm (pX M u c t) I J) := by
    intro I i o t c hT hO hi hk h12 h42 h38 hc
    have r := xA_leaf (L := L) (t := t) h hS hT hO hi hk h38 hu hc
    rw [h12, h42] at r
    exact r
  intro m
  induction m with
  | zero =>
    intro I i o t c hT hO hi h12 ho h42 ht hv h38 hc
    rw [sUn]
    by_cases g : K i = 40
    · rw [if_pos g]
      obtain ⟨J, j1, j2, j3⟩ := xA_bad (L := L) (c := c) h hS hT hO hi g h12 (by omega) (Or.inl (by omega)) h42 (by omega)
      exact ⟨fun z => absurd z (by show ¬ 2 = 0; decide), fun _ => ⟨J, j1, j2, j3⟩⟩
    · rw [if_neg g]
      exact leaf I i o t c hT hO hi g h12 h42 h38 (by omega)
  | succ m ih =>
    intro I i o t c hT hO hi h12 ho h42 ht hv h38 hc
    rw [sUn]
    by_cases g : K i = 40
    · rw [if_pos g]
      by_cases g4 : 400 ≤ i
      · have e : sAdv i () () = (2, i, ()) := if_pos g4
        rw [e, sBind_no (by show 2 ≠ 0; decide)]
        obtain ⟨J, j1, j2, j3⟩ := xA_bad (L := L) (c := c) h hS hT hO hi g h12 (by omega) (Or.inr (by omega)) h42 (by omega)
        exact ⟨fun z => absurd z (by show ¬ 2 = 0; decide), fun _ => ⟨J, j1, j2, j3⟩⟩
      · have e : sAdv i () () = (0, i + 1, ()) := if_neg g4
        rw [e, sBind_yes rfl]
        show ((sBind [] (sEx (sUn K W m) K (i + 1)) fun j c => sBind [] (sMust K 41 j) fun j _ => (0, j, c)).1 = 0 → ∃ J, fA M (I, L, Z) = fC M (J, L, Z) ∧ okQ J M (sBind [] (sEx (sUn K W m) K (i + 1)) fun j c => sBind [] (sMust K 41 j) fun j _ => (0, j, c)).2.1 ∧ J M 12 = nI o ∧ J M 42 = nI t ∧ J M 38 = nI (c + (sBind [] (sEx (sUn K W m) K (i + 1)) fun j c => sBind [] (sMust K 41 j) fun j _ => (0, j, c)).2.2.length) ∧ segR J M c (sBind [] (sEx (sUn K W m) K (i + 1)) fun j c => sBind [] (sMust K 41 j) fun j _ => (0, j, c)).2.2 ∧ frm (pX M u c t) I J) ∧ ((sBind [] (sEx (sUn K W m) K (i + 1)) fun j c => sBind [] (sMust K 41 j) fun j _ => (0, j, c)).1 ≠ 0 → ∃ J, fA M (I, L, Z) = some (none, (J, L, Z)) ∧ flQ J M S (sBind [] (sEx (sUn K W m) K (i + 1)) fun j c => sBind [] (sMust K 41 j) fun j _ => (0, j, c)).1 (sBind [] (sEx (sUn K W m) K (i + 1)) fun j c => sBind [] (sMust K 41 j) fun j _ => (0, j, c)).2.1 ∧ frm (pX M u c t) I J)
        have op := xA_open (L := L) h hS hT hO hi g h12 (by omega) (by omega) h42 (by omega)
        have f1 : frm (pX M u c t) I (z_up (z_up (z_up (z_up I M 12 (nI (o + 1))) M 11 (nI (i + 1))) (M + 26) t (nI 6)) M 42 (nI (t + 1))) := ((((frm.refl _ _).up (by unfold pX; omega)).up (by unfold pX; omega)).up (by unfold pX; omega)).up (by unfold pX; omega)
        have w12 : z_up (z_up (z_up (z_up I M 12 (nI (o + 1))) M 11 (nI (i + 1))) (M + 26) t (nI 6)) M 42 (nI (t + 1)) M 12 = nI (o + 1) := by rw [zup_ne (by omega), zup_off (by omega), zup_ne (by omega), zup_at]
        have wO : okQ (z_up (z_up (z_up (z_up I M 12 (nI (o + 1))) M 11 (nI (i + 1))) (M + 26) t (nI 6)) M 42 (nI (t + 1))) M (i + 1) := ⟨by rw [zup_ne (by omega), zup_off (by omega), zup_ne (by omega), zup_ne (by omega)]; exact hO.1, by rw [zup_ne (by omega), zup_off (by omega), zup_at]⟩
        have w42 : z_up (z_up (z_up (z_up I M 12 (nI (o + 1))) M 11 (nI (i + 1))) (M + 26) t (nI 6)) M 42 (nI (t + 1)) M 42 = nI (t + 1) := zup_at
        have w38 : z_up (z_up (z_up (z_up I M 12 (nI (o + 1))) M 11 (nI (i + 1))) (M + 26) t (nI 6)) M 42 (nI (t + 1)) M 38 = nI c := by rw [zup_ne (by omega), zup_off (by omega), zup_ne (by omega), zup_ne (by omega)]; exact h38
        have wt : z_up (z_up (z_up (z_up I M 12 (nI (o + 1))) M 11 (nI (i + 1))) (M + 26) t (nI 6)) M 42 (nI (t + 1)) (M + 26) t = nI 6 := by rw [zup_off (by omega), zup_at]
        generalize z_up (z_up (z_up (z_up I M 12 (nI (o + 1))) M 11 (nI (i + 1))) (M + 26) t (nI 6)) M 42 (nI (t + 1)) = J1 at op f1 w12 wO w42 w38 wt
        have hi1 : i + 1 < sz := hS.2.2.2.1 i hi (by omega) (by rw [g]; unfold inn0; decide)
        have hT1 := hT.kept f1 pX_t
        have hv1 : vS J1 M (t + 1) := fun k hk => by
          by_cases z : k = t
          · subst z
            exact ⟨6, wt, Or.inl rfl⟩
          · exact (hv.kept f1 (Nat.le_refl _) (fun k hk => by unfold pX; omega)) k (by omega)
        obtain ⟨r1, r2⟩ := r_exA (L := L) h hS hl hu ih (show o + 1 + m = 6 by omega) (show t + 1 ≤ 3 * (o + 1) by omega) hT1 wO hi1 w12 w42 hv1 w38 (by omega) (Or.inr wt)
        obtain ⟨y1, y2, y3, y4⟩ := ex_sp (W := W) (m := m) hS hi1
        by_cases ge : (sEx (sUn K W m) K (i + 1)).1 = 0
        · rw [sBind_yes ge]
          obtain ⟨J, s, P, d, k1, k2, k3, k4, k5, k6, k7, k8⟩ := r1 ge
          rw [k5]
          generalize (sEx (sUn K W m) K (i + 1)).2.1 = j at k2 k6 k7 y2 y3 y4 ⊢
          have f2 : frm (pX M u c t) J1 J := k8.weak fun a k => pX_X (Nat.le_refl _) (by omega)
          have hTJ := hT1.kept f2 pX_t
          have lj := len_join2 (s := s) (P := P) (d := d)
          by_cases g41 : K j = 41
          · have vt : vS J M t := hv1.kept k8 (by omega) (fun k hk => by unfold pX; omega)
            obtain ⟨c1, c2⟩ := xC_close (L := L) h hS hTJ k2 y4 g41 k3 (by omega) (by omega) hu (by omega) vt (by omega)
            by_cases g4 : 400 ≤ j
            · have e : sMust K 41 j = (2, j, ()) := by unfold sMust; rw [if_pos g41]; exact if_pos g4
              rw [e, sBind_no (by show 2 ≠ 0; decide)]
              obtain ⟨J2, q1, q2, q3⟩ := c2 g4
              exact ⟨fun z => absurd z (by show ¬ 2 = 0; decide), fun _ => ⟨J2, (op.trans k1).trans q1, q2, (f1.trans f2).trans q3⟩⟩
            · have e : sMust K 41 j = (0, j + 1, ()) := by unfold sMust; rw [if_pos g41]; exact if_neg g4
              rw [e, sBind_yes rfl]
              obtain ⟨J2, q1, q2, q3, q4, q5, q6, q7⟩ := c1 (by omega)
              exact ⟨fun _ => ⟨J2, (op.trans k1).trans q1, q2, q3, q4, q5, q6, (f1.trans f2).trans q7⟩, fun z => absurd rfl z⟩
          · have e : sMust K 41 j = (1, j, ()) := by unfold sMust; rw [if_neg g41]
            rw [e, sBind_no (by show 1 ≠ 0; decide)]
            obtain ⟨J2, q1, q2, q3⟩ := (xC_end (L := L) h hS hTJ k2 y4 k6 k3 (by omega) (fun z => absurd z g41) (by omega) hu (by omega)).2 (by omega)
            exact ⟨fun z => absurd z (by show ¬ 1 = 0; decide), fun _ => ⟨J2, (op.trans k1).trans q1, q2, (f1.trans f2).trans (q3.weak fun a k => pX_X (Nat.le_refl _) (by omega))⟩⟩
        · rw [sBind_no ge]
          obtain ⟨J, k1, k2, k3⟩ := r2 ge
          exact ⟨fun z => absurd z ge, fun _ => ⟨J, op.trans k1, k2, f1.trans (k3.weak fun a k => pX_X (Nat.le_refl _) (by omega))⟩⟩
    · rw [if_neg g]
      exact leaf I i o t c hT hO hi g h12 h42 h38 (by omega)
theorem r_expr {I : Nat → Nat → Int32} {L : Nat → Nat → Int64} {Z : zZ} {M sz lim u c i : Nat} {K W S : Nat → Nat} (h : isMod Z M) (hS : tkS K W S sz) (hl : lim + 420 ≤ u) (hu : u ≤ 840) (hT : tokR I M K W S sz) (hO : okQ I M i) (hi : i < sz) (h12 : I M 12 = nI 0) (h38 : I M 38 = nI c) (hc : c ≤ lim + i) : ((sE K W i).1 = 0 → ∃ J, fX12_expression [.ref M] (I, L, Z) = some (none, (J, L, Z)) ∧ okQ J M (sE K W i).2.1 ∧ J M 12 = nI 0 ∧ J M 38 = nI (c + (sE K W i).2.2.length) ∧ segR J M c (sE K W i).2.2 ∧ frm (pX M u c 0) I J) ∧ ((sE K W i).1 ≠ 0 → ∃ J, fX12_expression [.ref M] (I, L, Z) = some (none, (J, L, Z)) ∧ flQ J M S (sE K W i).1 (sE K W i).2.1 ∧ frm (pX M u c 0) I J) := by
  have sz4 := hS.2.1
  have f0 : frm (pX M u c 0) I (z_up I M 42 (nI 0)) := (frm.refl _ _).up (by unfold pX; omega)
  have w12 : z_up I M 42 (nI 0) M 12 = nI 0 := by rw [zup_ne (by omega)]; exact h12
  have wO : okQ (z_up I M 42 (nI 0)) M i := ⟨by rw [zup_ne (by omega)]; exact hO.1, by rw [zup_ne (by omega)]; exact hO.2⟩
  have w38 : z_up I M 42 (nI 0) M 38 = nI c := by rw [zup_ne (by omega)]; exact h38
  have w42 : z_up I M 42 (nI 0) M 42 = nI 0 := zup_at
  have st : fX12_expression [.ref M] (I, L, Z) = fA M (z_up I M 42 (nI 0), L, Z) := by
    rw [← x12_ok h wO]
    generalize hX : q_lp bX12_expression_12 = X
    have eX : kX12_expression_12 = X := hX
    show kX12_expression_0 [some (Value.ref (M)), none, none] [] (I, L, Z) = _
    simp (disch := omega) only [kX12_expression_0, eX, h.1, w12, e_push, e_pushl, e_iload, e_lload, e_aload, e_istore, e_astore, e_lstore, e_iinc, e_iadd, e_isub, e_imul, e_iand, e_ior, e_ixor, e_ishl, e_ishr, e_iushr, e_idiv, e_irem, e_ladd, e_lsub, e_lmul, e_lcmp, e_mmax, e_mmin, e_i2l, e_l2i, e_i2b, e_i2c, e_dup, e_dup2, e_pop, e_icmp_eq, e_icmp_ne, e_icmp_lt, e_icmp_ge, e_icmp_gt, e_icmp_le, e_if_eq, e_if_ne, e_if_lt, e_if_ge, e_if_gt, e_if_le, e_getI, e_getR, e_putI, e_putZ, e_putR, e_iald, e_bald, e_zald, e_lald, e_aald, e_alen, e_iast, e_bast, e_zast, e_last, e_aast, e_iret, e_zret, e_lret, e_vret, e_obj, e_callV, e_callS, e_callT, e_acpy, e_ldcS, e_dn, e_ag, z_pop, List.getElem?_cons_zero, List.getElem?_cons_succ, List.set_cons_zero, List.set_cons_succ, List.length_cons, List.length_nil, z_nol, Option.map_some, Option.toList_some, Option.toList_none, List.cons_append, List.nil_append, n_lit, n_m1, n_m2, n_m1lt, n_m1le, n_rem, n_div, n_out, n_cl, n_eq, n_le, n_lt, n_add, n_mul, n_sub, n_nle, n_yle, n_nlt, n_ylt, n_neN, z_lay, z_sz, z_str, z_stI, z_stL, z_stR, eq_self, ↓reduceIte, true_and, and_true, and_self, false_and, and_false, or_self, false_or, or_false, true_or, or_true, not_true_eq_false, not_false_eq_true, Nat.reduceLeDiff, Nat.reduceLT, Nat.reduceAdd, Nat.reduceEqDiff, Nat.reduceMul, Nat.reduceSub, Value.category, Nat.zero_le, beq_self_eq_true]
  generalize z_up I M 42 (nI 0) = J1 at f0 w12 wO w38 w42 st
  have hT1 := hT.kept f0 pX_t
  obtain ⟨r1, r2⟩ := r_exA (L := L) (m := 6) h hS hl hu (uC_all h hS hl hu 6) (show 0 + 6 = 6 from rfl) (Nat.zero_le _) hT1 wO hi w12 w42 (fun k hk => absurd hk (Nat.not_lt_zero _)) w38 hc (Or.inl rfl)
  obtain ⟨y1, y2, y3, y4⟩ := ex_sp (W := W) (m := 6) hS hi
  show ((sEx (sUn K W 6) K i).1 = 0 → ∃ J, fX12_expression [.ref M] (I, L, Z) = some (none, (J, L, Z)) ∧ okQ J M (sEx (sUn K W 6) K i).2.1 ∧ J M 12 = nI 0 ∧ J M 38 = nI (c + (sEx (sUn K W 6) K i).2.2.length) ∧ segR J M c (sEx (sUn K W 6) K i).2.2 ∧ frm (pX M u c 0) I J) ∧ ((sEx (sUn K W 6) K i).1 ≠ 0 → ∃ J, fX12_expression [.ref M] (I, L, Z) = some (none, (J, L, Z)) ∧ flQ J M S (sEx (sUn K W 6) K i).1 (sEx (sUn K W 6) K i).2.1 ∧ frm (pX M u c 0) I J)
  constructor
  · intro z
    obtain ⟨J, s, P, d, k1, k2, k3, k4, k5, k6, k7, k8⟩ := r1 z
    rw [k5]
    generalize (sEx (sUn K W 6) K i).2.1 = j at k2 k6 k7 y2 y3 y4 ⊢
    obtain ⟨J2, q1, q2, q3, q4, q5, q6⟩ := (xC_end (L := L) h hS (hT1.kept k8 pX_t) k2 y4 k6 k3 (by omega) (fun _ => rfl) (by omega) hu (by omega)).1 rfl
    exact ⟨J2, (st.trans k1).trans q1, q2, q3, q4, q5, (f0.trans k8).trans q6⟩
  · intro z
    obtain ⟨J, k1, k2, k3⟩ := r2 z
    exact ⟨J, st.trans k1, k2, f0.trans k3⟩
