/-! what holds behind the two constructors -/
theorem c_cv1 {I : Nat → Nat → Int32} {L : Nat → Nat → Int64} {Z : zZ} {M : Nat} {v : Int32} {G : zF} {k : zK zR} {J : Nat → Nat → Int32} (h : isMod Z M) (e : G [.ref M, .int v] (I, L, Z) = some (none, (J, L, Z))) : q_aload 0 (q_push v (q_callV 12 G 1 k)) [some (Value.ref (M))] [] (I, L, Z) = k [some (Value.ref (M))] [] (J, L, Z) := by
  have h1 := h.1
  simp (disch := omega) only [h1, e, e_push, e_pushl, e_iload, e_lload, e_aload, e_istore, e_astore, e_lstore, e_iinc, e_iadd, e_isub, e_imul, e_iand, e_ior, e_ixor, e_ishl, e_ishr, e_iushr, e_idiv, e_irem, e_ladd, e_lsub, e_lmul, e_lcmp, e_mmax, e_mmin, e_i2l, e_l2i, e_i2b, e_i2c, e_dup, e_dup2, e_pop, e_icmp_eq, e_icmp_ne, e_icmp_lt, e_icmp_ge, e_icmp_gt, e_icmp_le, e_if_eq, e_if_ne, e_if_lt, e_if_ge, e_if_gt, e_if_le, e_getI, e_getR, e_putI, e_putZ, e_putR, e_iald, e_bald, e_zald, e_lald, e_aald, e_alen, e_iast, e_bast, e_zast, e_last, e_aast, e_iret, e_zret, e_lret, e_vret, e_obj, e_callV, e_callS, e_callT, e_acpy, e_ldcS, e_dn, e_ag, z_pop, List.getElem?_cons_zero, List.getElem?_cons_succ, List.set_cons_zero, List.set_cons_succ, List.length_cons, List.length_nil, z_nol, Option.map_some, Option.toList_some, Option.toList_none, List.cons_append, List.nil_append, n_lit, n_m1, n_m2, n_m1lt, n_m1le, n_rem, n_div, n_out, n_cl, n_eq, n_le, n_lt, n_add, n_mul, n_sub, n_nle, n_yle, n_nlt, n_ylt, n_neN, z_lay, z_sz, z_str, z_stI, z_stL, z_stR, eq_self, ↓reduceIte, true_and, and_true, and_self, false_and, and_false, or_self, false_or, or_false, true_or, or_true, not_true_eq_false, not_false_eq_true, Nat.reduceLeDiff, Nat.reduceLT, Nat.reduceAdd, Nat.reduceEqDiff, Nat.reduceMul, Nat.reduceSub, Value.category, Nat.zero_le, beq_self_eq_true]
theorem c_cv0 {I : Nat → Nat → Int32} {L : Nat → Nat → Int64} {Z : zZ} {M : Nat} {G : zF} {k : zK zR} {J : Nat → Nat → Int32} (h : isMod Z M) (e : G [.ref M] (I, L, Z) = some (none, (J, L, Z))) : q_aload 0 (q_callV 12 G 0 k) [some (Value.ref (M))] [] (I, L, Z) = k [some (Value.ref (M))] [] (J, L, Z) := by
  have h1 := h.1
  simp (disch := omega) only [h1, e, e_push, e_pushl, e_iload, e_lload, e_aload, e_istore, e_astore, e_lstore, e_iinc, e_iadd, e_isub, e_imul, e_iand, e_ior, e_ixor, e_ishl, e_ishr, e_iushr, e_idiv, e_irem, e_ladd, e_lsub, e_lmul, e_lcmp, e_mmax, e_mmin, e_i2l, e_l2i, e_i2b, e_i2c, e_dup, e_dup2, e_pop, e_icmp_eq, e_icmp_ne, e_icmp_lt, e_icmp_ge, e_icmp_gt, e_icmp_le, e_if_eq, e_if_ne, e_if_lt, e_if_ge, e_if_gt, e_if_le, e_getI, e_getR, e_putI, e_putZ, e_putR, e_iald, e_bald, e_zald, e_lald, e_aald, e_alen, e_iast, e_bast, e_zast, e_last, e_aast, e_iret, e_zret, e_lret, e_vret, e_obj, e_callV, e_callS, e_callT, e_acpy, e_ldcS, e_dn, e_ag, z_pop, List.getElem?_cons_zero, List.getElem?_cons_succ, List.set_cons_zero, List.set_cons_succ, List.length_cons, List.length_nil, z_nol, Option.map_some, Option.toList_some, Option.toList_none, List.cons_append, List.nil_append, n_lit, n_m1, n_m2, n_m1lt, n_m1le, n_rem, n_div, n_out, n_cl, n_eq, n_le, n_lt, n_add, n_mul, n_sub, n_nle, n_yle, n_nlt, n_ylt, n_neN, z_lay, z_sz, z_str, z_stI, z_stL, z_stR, eq_self, ↓reduceIte, true_and, and_true, and_self, false_and, and_false, or_self, false_or, or_false, true_or, or_true, not_true_eq_false, not_false_eq_true, Nat.reduceLeDiff, Nat.reduceLT, Nat.reduceAdd, Nat.reduceEqDiff, Nat.reduceMul, Nat.reduceSub, Value.category, Nat.zero_le, beq_self_eq_true]
theorem iMod {B : Nat} {sA : Nat → Nat} : isMod (zz B 250 nL49 nR49 sA) (B + 200) := by
  have d0 : nL49 200 = some (.inr 12) := by decide +kernel
  have d : ∀ q ∈ modT, nR49 200 q.1 = some (200 + q.2.1) ∧ nL49 (200 + q.2.1) = some (.inl q.2.2) := by decide +kernel
  refine ⟨zz_l.trans d0, fun q hq => ⟨?_, ?_⟩⟩
  · rw [zz_r, (d q hq).1, Nat.add_assoc]
    rfl
  · rw [Nat.add_assoc, zz_l]
    exact (d q hq).2
theorem iCls {B : Nat} {sA : Nat → Nat} : isCls (zz B 250 nL49 nR49 sA) B 3 := by
  have d1 : ∀ k, k < 200 → nL49 k = clsL[k]? := by decide +kernel
  have d2 : ∀ q ∈ clsT, nR49 q.1 q.2.1 = some q.2.2 := by decide +kernel
  have d3 : nR49 0 1 = some 3 := by decide +kernel
  have d4 : nR49 0 2 = some (21 - 3) := by decide +kernel
  have d5 : ∀ i, i < 40 → nR49 46 i = some (49 + 3 * i) := by decide +kernel
  have d6 : ∀ i, i < 3 → nR49 47 i = some (169 + 3 * i) := by decide +kernel
  have d7 : ∀ i, i < 43 → nR49 (49 + 3 * i) 3 = some (50 + 3 * i) ∧ nR49 (49 + 3 * i) 4 = some (51 + 3 * i) := by decide +kernel
  refine ⟨Or.inl rfl, fun k hk => zz_l.trans (d1 k hk), fun q hq => ?_, ?_, ?_, fun i hi => ?_, fun i hi => ?_, fun i hi => ⟨?_, ?_⟩⟩
  · rw [zz_r, d2 q hq]; rfl
  · refine (zz_r (k := 0) (f := 1)).trans ?_
    rw [d3]; rfl
  · refine (zz_r (k := 0) (f := 2)).trans ?_
    rw [d4]; rfl
  · rw [zz_r, d5 i hi]; rfl
  · rw [zz_r, d6 i hi]; rfl
  · rw [zz_r, (d7 i hi).1]; rfl
  · rw [zz_r, (d7 i hi).2]; rfl
def c12J (I J : Nat → Nat → Int32) (B : Nat) : Prop := (∀ a k, a < B + 200 → J a k = I a k) ∧ J (B + 200) 17 = nM1 ∧ (∀ k, k ≠ 17 → k ≠ 48 → J (B + 200) k = 0) ∧ J (B + 200 + 9) 0 = nI 2 ∧ (∀ k, k < 16 → J (B + 200 + 11) k = nM1) ∧ J (B + 200 + 13) 0 = nI 0 ∧ J (B + 200 + 16) 0 = nI 0 ∧ (∀ k, k < 4 → J (B + 200 + 17) k = nI 0 ∧ J (B + 200 + 18) k = nI 0) ∧ (∀ k, J (B + 200 + 48) k = 0) ∧ famR (J (B + 200 + 29)) 0 (fun _ => 0) (fun _ _ => 0) (nI 0) (nI 0)
theorem p_init12 {I : Nat → Nat → Int32} {L : Nat → Nat → Int64} {B : Nat} {sA : Nat → Nat} (hJ : c11J I B) (hL : ∀ a k, L a k = 0) : ∃ J, fX12_init [.ref (B + 200)] (I, L, zz B 201 nL0 nR0 sA) = some (none, (J, kyL L (B + 200), zz B 250 nL49 nR49 sA)) ∧ c12J I J B := by
  have z6 : ∀ q k, B + 33 ≤ q → I q k = 0 := fun q k hq => hJ.2.2.2.2.2 q k (Or.inr (Or.inr (Or.inr hq)))
  have f0 : frI I (B + 201) := fun a k ha => z6 a k (by omega)
  have g0 : frL L (B + 201) := fun a k _ => hL a k
  have hM := iMod (B := B) (sA := sA)
  rw [c12A f0 g0]
  generalize zz B 250 nL49 nR49 sA = Z at hM ⊢
  have iz : ∀ a k, ¬ (a = B + 200 ∧ k = 17) → B + 33 ≤ a → z_up I (B + 200) 17 nM1 a k = 0 := fun a k h1 h2 => (if_neg h1).trans (z6 a k h2)
  have i17 : z_up I (B + 200) 17 nM1 (B + 200) 17 = nM1 := if_pos ⟨rfl, rfl⟩
  have ilo : ∀ a k, a < B + 200 → z_up I (B + 200) 17 nM1 a k = I a k := fun a k h => if_neg (fun z => by omega)
  generalize z_up I (B + 200) 17 nM1 = I0 at iz i17 ilo ⊢
  generalize hMM : B + 200 = M at hM iz i17 ilo ⊢
  have hz : ∀ a k, ¬ (a = M ∧ k = 17) → M ≤ a → I0 a k = 0 := fun a k h1 h2 => iz a k h1 (by omega)
  clear iz z6 f0 g0
  obtain ⟨J1, a1, a2, a3, a4, a5, a6, a7, a8, a9⟩ := r_plain (I := I0) (L := L) (sd := 0) hM (by decide)
  obtain ⟨J2, b1, b2, b3, b4, b5, b6, b7, b8, b9⟩ := r_plain (I := J1) (L := L) (sd := 1) hM (by decide)
  have o1 : ∀ a k, ¬ pPl M 0 a k → ¬ pPl M 1 a k → J2 a k = I0 a k := fun a k h1 h2 => (b9 a k h2).trans (a9 a k h1)
  have o2 : ∀ a k, ¬ pPl M 1 a k → J2 a k = J1 a k := fun a k h2 => b9 a k h2
  obtain ⟨J3, c1, c2, c3⟩ := r_begins (I := J2) (L := kyL L M) (lv := 0) (rows := 0) (sd := 0) (len := fun _ => 0) (col := fun _ _ => 0) hM (by decide) (by rw [o1 _ _ (by unfold pPl; omega) (by unfold pPl; omega)]; exact hz _ _ (by omega) (by omega)) (by rw [o2 _ _ (by unfold pPl; omega)]; exact a6) (by decide) (fun r hr => absurd hr (Nat.not_lt_zero _)) (fun r i hr => absurd hr (Nat.not_lt_zero _)) (by rw [o2 _ _ (by unfold pPl; omega)]; exact a7)
  obtain ⟨J4, d1, d2, d3⟩ := r_keepsRow (I := J3) (L := kyL L M) hM
  have o4 : ∀ a k, a ≠ M + 29 → a ≠ M + 30 → ¬ (a = M ∧ k = 48) → J4 a k = J2 a k := fun a k h1 h2 h3 => by
    rw [d3 a h1]
    exact c3 a k (fun z => z.elim h2 h3)
  refine ⟨J4, ?_, fun a k ha => ?_, ?_, fun k h1 h2 => ?_, ?_, fun k hk => ?_, ?_, ?_, fun k hk => ⟨?_, ?_⟩, fun k => ?_, ?_⟩
  · unfold k12T
    refine (c_cv1 hM a1).trans ?_
    refine (c_cv1 hM b1).trans ?_
    refine c12K hM fun L' hL' => ?_
    rw [hL']
    refine (c_cv0 hM c1).trans ?_
    refine (c_cv0 hM d1).trans ?_
    rfl
  · rw [hMM] at ha
    rw [o4 _ _ (by omega) (by omega) (by omega), o1 _ _ (by unfold pPl; omega) (by unfold pPl; omega)]
    exact ilo a k ha
  · rw [hMM, o4 _ _ (by omega) (by omega) (by omega), o1 _ _ (by unfold pPl; omega) (by unfold pPl; omega)]
    exact i17
  · rw [hMM, o4 _ _ (by omega) (by omega) (by omega), o1 _ _ (by unfold pPl; omega) (by unfold pPl; omega)]
    exact hz _ _ (by omega) (by omega)
  · rw [hMM, o4 _ _ (by omega) (by omega) (by omega), o2 _ _ (by unfold pPl; omega)]
    exact a2
  · have := a4 k hk
    rw [hMM, o4 _ _ (by omega) (by omega) (by omega), o2 _ _ (by unfold pPl; omega)]
    rwa [Nat.mul_zero, Nat.zero_add] at this
  · rw [hMM, o4 _ _ (by omega) (by omega) (by omega), o2 _ _ (by unfold pPl; omega)]
    exact a6
  · rw [hMM, o4 _ _ (by omega) (by omega) (by omega), o2 _ _ (by unfold pPl; omega)]
    exact a7
  · have := (a8 k hk).1
    rw [hMM, o4 _ _ (by omega) (by omega) (by omega), o2 _ _ (by unfold pPl; omega)]
    rwa [Nat.mul_zero, Nat.zero_add] at this
  · have := (a8 k hk).2
    rw [hMM, o4 _ _ (by omega) (by omega) (by omega), o2 _ _ (by unfold pPl; omega)]
    rwa [Nat.mul_zero, Nat.zero_add] at this
  · rw [hMM, o4 _ _ (by omega) (by omega) (by omega), o1 _ _ (by unfold pPl; omega) (by unfold pPl; omega)]
    exact hz _ _ (by omega) (by omega)
  · rw [hMM]
    obtain ⟨e1, e2, e3, e4, e5⟩ := c2
    exact ⟨fun r hr => absurd hr (Nat.not_lt_zero _), fun r h1 h2 => (d2 r (by omega)).trans (e2 r h1 h2), fun r hr => absurd hr (Nat.not_lt_zero _), (d2 36 (by decide)).trans e4, (d2 37 (by decide)).trans e5⟩
theorem gp0 {a b : Nat} (ha : a < 4) (hb : b < 4) : gpV (fun _ => 0) 2 (a * 4 + b) = (a + b) % 2 := by
  unfold gpV
  rw [if_pos rfl, show (a * 4 + b) / 4 = a by omega, show (a * 4 + b) % 4 = b by omega]
theorem law_first {I J : Nat → Nat → Int32} {L : Nat → Nat → Int64} {B : Nat} {sA : Nat → Nat} (hS : sA 0 ≠ sA 1 ∧ sA 2 ≠ sA 3) (h : c11J I B) (hJ : c12J I J B) : lawI (J, kyL L (B + 200), zz B 250 nL49 nR49 sA) B := by
  obtain ⟨a1, a2, a3, a4, a5, a6⟩ := h
  obtain ⟨b1, b2, b3, b4, b5, b6, b7, b8, b9, b10⟩ := hJ
  have z : ∀ q k, q < B + 200 → (q = B + 1 ∨ q = B + 2 ∨ q = B + 4 ∨ B + 33 ≤ q) → J q k = nI 0 := fun q k h1 h2 => (b1 q k h1).trans (a6 q k h2)
  have zM : ∀ k, k ≠ 17 → k ≠ 48 → J (B + 200) k = nI 0 := b3
  refine ⟨_, _, _, rfl, hS, 3, 0, 2, fun a b => gpV (fun _ => 0) 2 (a * 4 + b), 0, ⟨iCls, iMod, fun x _ => ⟨z _ _ (by omega) (by omega), z _ _ (by omega) (by omega), z _ _ (by omega) (by omega), z _ _ (by omega) (by omega)⟩, ⟨0, by decide, z _ _ (by omega) (by omega), zM 2 (by decide) (by decide), fun i hi => absurd hi (Nat.not_lt_zero _)⟩, ?_, ⟨0, by decide, ?_, b7⟩, fun s _ => Or.inl ⟨z _ _ (by omega) (by omega), b9 s⟩, ⟨0, by decide, z _ _ (by omega) (by omega), zM 66 (by decide) (by decide), fun j hj => absurd hj (Nat.not_lt_zero _)⟩, fun n _ _ => Or.inl (z _ _ (by omega) (by omega)), ⟨fun _ => 22, fun _ => 0, 0, ⟨z _ _ (by omega) (by omega), by decide, fun i hi => absurd hi (Nat.not_lt_zero _), fun _ _ => rfl⟩, fun k hk => Or.inl ⟨?_, 0, by decide, ?_, ?_⟩, fun k hk f e hf he h1 h2 h3 => ?_⟩, fun k v hv => kyL_at hv⟩, fun _ => 0, fun _ _ => 0, nI 0, nI 0, ⟨?_, by decide, by decide, fun a b ha hb => ⟨?_, ?_⟩, fun a b ha hb => ?_, z _ _ (by omega) (by omega), z _ _ (by omega) (by omega), z _ _ (by omega) (by omega), by decide, fun r hr => absurd hr (Nat.not_lt_zero _)⟩, ⟨⟨zM 18 (by decide) (by decide), by decide, b4, by decide, by decide, fun a b ha hb => ⟨?_, Or.inr ⟨?_, ?_⟩⟩⟩, b6, b10⟩, 0, 0, by decide, by decide, z _ _ (by omega) (by omega), z _ _ (by omega) (by omega), zM 52 (by decide) (by decide), fun p hp => absurd hp (Nat.not_lt_zero _)⟩
  · rw [b2, b1 B 3 (by omega)]; exact a1
  · rw [b1 (B + 3) 5 (by omega)]; exact a2
  · rw [b1 _ k (by omega)]; exact a5 k hk
  · rw [Nat.mul_zero, Nat.zero_add]; exact (b8 k hk).1
  · rw [Nat.mul_zero, Nat.zero_add]; exact (b8 k hk).2
  · rw [Nat.mul_zero, Nat.zero_add, (b8 k hk).1] at h1
    rw [Nat.mul_zero, Nat.zero_add, (b8 k hk).2] at h2
    have e1 : 0 = f := nI_inj (by omega) (by omega) h1
    have e2 : 0 = e := nI_inj (by omega) (by omega) h2
    omega
  · rw [b1 _ _ (by omega)]; exact a3
  · rw [b1 _ _ (by omega)]; exact a4 _ (by omega)
  · show gpV (fun _ => 0) 2 (a * 4 + b) < 4
    rw [gp0 ha hb]; omega
  · show gpV (fun _ => 0) 2 (a * 4 + b) < 2
    rw [gp0 (by omega) (by omega)]; omega
  · show gpV (fun _ => 0) 2 (a * 4 + b) < 4
    rw [gp0 ha hb]; omega
  · rw [show 16 * 0 + 4 * a + b = 4 * a + b by omega]; exact b5 _ (by omega)
  · exact gp0 ha hb
