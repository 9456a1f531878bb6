/-! read: the class takes a text -/
noncomputable def rdQ (T : Nat → Nat) (n : Nat) : Nat × Nat := tells2 (kK T n) 400 0 0 0
noncomputable def rdM (T : Nat → Nat) (n : Nat) : Nat × Nat × (Nat → Nat) := mTells (kK T n) (kW T n) (kN T n) 400 0 0 0 mA0
/-- what a reading answers, and the place it tells -/
noncomputable def rdc (T : Nat → Nat) (n : Nat) : Nat := if (rdQ T n).1 ≠ 0 then (rdQ T n).1 else if (rdM T n).1 ≠ 0 then (rdM T n).1 else if (rdM T n).2.2 0 ≤ (rdM T n).2.2 1 then 6 else 0
noncomputable def rdp (T : Nat → Nat) (n : Nat) : Int32 := if (rdQ T n).1 ≠ 0 then nI (lxS T n (rdQ T n).2) else if (rdM T n).1 ≠ 0 then nI (lxS T n (rdM T n).2.1) else if (rdM T n).2.2 0 ≤ (rdM T n).2.2 1 then nI n else nM1
theorem rdc_Q {T : Nat → Nat} {n : Nat} (h : (rdQ T n).1 ≠ 0) : rdc T n = (rdQ T n).1 ∧ rdp T n = nI (lxS T n (rdQ T n).2) := ⟨if_pos h, if_pos h⟩
theorem rdQ_def {T : Nat → Nat} {n : Nat} : rdQ T n = tells2 (kK T n) 400 0 0 0 := by delta rdQ; exact Eq.refl _
theorem rdM_def {T : Nat → Nat} {n : Nat} : rdM T n = mTells (kK T n) (kW T n) (kN T n) 400 0 0 0 mA0 := by delta rdM; exact Eq.refl _
theorem rdc_M {T : Nat → Nat} {n : Nat} (h : (rdQ T n).1 = 0) (h2 : (rdM T n).1 ≠ 0) : rdc T n = (rdM T n).1 ∧ rdp T n = nI (lxS T n (rdM T n).2.1) := by
  have n1 : ¬ (rdQ T n).1 ≠ 0 := fun z => z h
  unfold rdc rdp
  rw [if_neg n1, if_neg n1, if_pos h2, if_pos h2]
  exact ⟨rfl, rfl⟩
theorem rdc_6 {T : Nat → Nat} {n : Nat} (h : (rdQ T n).1 = 0) (h2 : (rdM T n).1 = 0) (h3 : (rdM T n).2.2 0 ≤ (rdM T n).2.2 1) : rdc T n = 6 ∧ rdp T n = nI n := by
  have n1 : ¬ (rdQ T n).1 ≠ 0 := fun z => z h
  have n2 : ¬ (rdM T n).1 ≠ 0 := fun z => z h2
  unfold rdc rdp
  rw [if_neg n1, if_neg n1, if_neg n2, if_neg n2, if_pos h3, if_pos h3]
  exact ⟨rfl, rfl⟩
theorem rdc_0 {T : Nat → Nat} {n : Nat} (h : (rdQ T n).1 = 0) (h2 : (rdM T n).1 = 0) (h3 : ¬ (rdM T n).2.2 0 ≤ (rdM T n).2.2 1) : rdc T n = 0 ∧ rdp T n = nM1 := by
  have n1 : ¬ (rdQ T n).1 ≠ 0 := fun z => z h
  have n2 : ¬ (rdM T n).1 ≠ 0 := fun z => z h2
  unfold rdc rdp
  rw [if_neg n1, if_neg n1, if_neg n2, if_neg n2, if_neg h3, if_neg h3]
  exact ⟨rfl, rfl⟩
theorem rdQ_lt {T : Nat → Nat} {n : Nat} : (rdQ T n).1 < 3 ∧ (rdQ T n).2 ≤ 400 ∧ (rdQ T n).2 < lxN T n := by
  have s := spn_tells (K := kK T n) 400 0 0 0 (by decide)
  rw [← rdQ_def] at s
  exact ⟨s.1, s.2.2.1, s.lt (fun i h1 h2 h3 => kK_next h1 h2 h3) (lxN_spec T n).1⟩
theorem rdM_bad {T : Nat → Nat} {n : Nat} (h : (rdQ T n).1 = 0) (h2 : (rdM T n).1 ≠ 0) : (rdM T n).1 < 8 ∧ (rdM T n).2.1 < lxN T n := by
  have b := mTells_bad (K := kK T n) (W := kW T n) (N := kN T n) 400 0 0 0 mA0
  rw [← rdQ_def, ← rdM_def] at b
  obtain ⟨b1, b2⟩ := b h h2
  exact ⟨b1, kK_sz _ (by omega)⟩
theorem rdM_ok {T : Nat → Nat} {n : Nat} (h : (rdQ T n).1 = 0) (h2 : (rdM T n).1 = 0) : mOK (rdM T n).2.2 ∧ nmOK (kK T n) (lxN T n) (rdM T n).2.2 ∧ lnOK (rdM T n).2.2 := by
  have b := mTells_ok (K := kK T n) (W := kW T n) (N := kN T n) kK_sz kW_lt 400 0 0 0 mA0
  rw [← rdQ_def, ← rdM_def] at b
  exact b h mOK_0 rfl (fun o ho => absurd ho (Nat.not_lt_zero _)) (fun o ho => absurd ho (Nat.not_lt_zero _)) h2
theorem p_start {I : Nat → Nat → Int32} {L : Nat → Nat → Int64} {Z : zZ} {B tx dx sz i : Nat} (h : isCls Z B tx) (hd : dx + tx = 21) (h3 : I (B + (dx + 1)) 3 = nI sz) (hsz : sz ≤ 401) (hi : i < sz) : fX8_start [.ref (B + (dx + 1)), .int (nI i)] (I, L, Z) = some (some (.int (I (B + (dx + 4)) i)), (I, L, Z)) := by
  show kX8_start_0 [some (Value.ref ((B + (dx + 1)))), some (Value.int (nI (i)))] [] (I, L, Z) = _
  simp (disch := omega) only [kX8_start_22, kX8_start_21, kX8_start_0, dl_1 h hd, dr_1_2 h hd, dl_4 h hd, h3, e_push, e_pushl, e_iload, e_lload, e_aload, e_istore, e_astore, e_lstore, e_iinc, e_iadd, e_isub, e_imul, e_iand, e_ior, e_ixor, e_ishl, e_ishr, e_iushr, e_idiv, e_irem, e_ladd, e_lsub, e_lmul, e_lcmp, e_mmax, e_mmin, e_i2l, e_l2i, e_i2b, e_i2c, e_dup, e_dup2, e_pop, e_icmp_eq, e_icmp_ne, e_icmp_lt, e_icmp_ge, e_icmp_gt, e_icmp_le, e_if_eq, e_if_ne, e_if_lt, e_if_ge, e_if_gt, e_if_le, e_getI, e_getR, e_putI, e_putZ, e_putR, e_iald, e_bald, e_zald, e_lald, e_aald, e_alen, e_iast, e_bast, e_zast, e_last, e_aast, e_iret, e_zret, e_lret, e_vret, e_obj, e_callV, e_callS, e_callT, e_acpy, e_ldcS, e_dn, e_ag, z_pop, List.getElem?_cons_zero, List.getElem?_cons_succ, List.set_cons_zero, List.set_cons_succ, List.length_cons, List.length_nil, z_nol, Option.map_some, Option.toList_some, Option.toList_none, List.cons_append, List.nil_append, n_lit, n_m1, n_m2, n_m1lt, n_m1le, n_rem, n_div, n_out, n_cl, n_eq, n_le, n_lt, n_add, n_mul, n_sub, n_nle, n_yle, n_nlt, n_ylt, n_neN, z_lay, z_sz, z_str, z_stI, z_stL, z_stR, eq_self, ↓reduceIte, true_and, and_true, and_self, false_and, and_false, or_self, false_or, or_false, true_or, or_true, not_true_eq_false, not_false_eq_true, Nat.reduceLeDiff, Nat.reduceLT, Nat.reduceAdd, Nat.reduceEqDiff, Nat.reduceMul, Nat.reduceSub, Value.category, Nat.zero_le, beq_self_eq_true]
theorem txL_of {Z : zZ} {B tx dx : Nat} (h : isCls Z B tx) (hd : dx + tx = 21) : txL Z (B + dx) := by
  unfold txL isTab
  simp only [Nat.add_assoc]
  exact ⟨dl_0 h hd, dr_0_1 h hd, dr_0_2 h hd, dr_0_3 h hd, ⟨dl_5 h hd, dr_5_3 h hd, dl_6 h hd⟩, cf_draft h hd, dl_13 h hd⟩
theorem mA0_0 {k : Nat} (h : k ≠ 0) : mA0 k = 0 := if_neg h
/-- what a text that was taken keeps -/
def rdK (J : Nat → Nat → Int32) (M : Nat → Nat → Int64) (B dx : Nat) (T : Nat → Nat) (n : Nat) (A : Nat → Nat) : Prop := tokC J M B dx (kK T n) (kW T n) (lxN T n) ∧ J (B + (dx + 5)) 0 = nI (A 0) ∧ J (B + (dx + 10)) 0 = nI (A 2) ∧ J (B + (dx + 10)) 1 = nI 0 ∧ J (B + (dx + 10)) 2 = nI 0 ∧ J (B + dx) 5 = nI (A 3) ∧ (∀ k, k < 16 → J (B + (dx + 6)) k = nI (gpV (fun k => A (10 + k)) (A 0) k)) ∧ (∀ r, r < 4 → J (B + (dx + 11)) r = nI (A (30 + r))) ∧ (∀ r i, r < 4 → i < A (30 + r) → J (B + (dx + 12)) (r * 8 + i) = nI (A (50 + (r * 8 + i)))) ∧ ∀ k, k < 4 → J (B + (dx + 13)) k = oS (A (100 + k))
theorem p_take {I : Nat → Nat → Int32} {L : Nat → Nat → Int64} {Z : zZ} {B tx dx n : Nat} {T : Nat → Nat} (h : isCls Z B tx) (hd : dx + tx = 21) (hS : strOk Z) (hT : tpC I B T n) : ∃ J M, fX7_take [.ref (B + dx), .ref (B + 1)] (I, L, Z) = some (none, (J, M, Z)) ∧ J (B + dx) 6 = nI (rdc T n) ∧ rdc T n < 8 ∧ J (B + dx) 7 = rdp T n ∧ (∀ a, a < B + dx ∨ B + (dx + 14) < a → J a = I a) ∧ (∀ a, a ≠ B + (dx + 3) → a ≠ B + (dx + 14) → M a = L a) ∧ (rdc T n = 0 → rdK J M B dx T n (rdM T n).2.2) := by
  have htx := h.1
  have hn := hT.1
  obtain ⟨J1, a1, a2, a3, a4, a5, ⟨a6, a7, a8⟩, a9, a10, a11, a12, a13⟩ := p_tellNothing (I := I) (L := L) (txL_of h hd)
  simp only [Nat.add_assoc] at a6 a7 a8 a9 a10 a11 a12 a13
  have hT1 : tpC J1 B T n := ⟨hT.1, by rw [a13 (B + 1) (by omega) (by omega) (by omega) (by omega) (by omega) (by omega)]; exact hT.2.1, fun i hi => by rw [a13 (B + 2) (by omega) (by omega) (by omega) (by omega) (by omega) (by omega)]; exact hT.2.2 i hi⟩
  obtain ⟨J2, K2, b1, b2, b3, b4, b5⟩ := p_scan (I := J1) (L := L) h hd hS hT1
  have tk := tokC_of b2 b3
  have nm := namC_of b3
  have sz := (lxN_spec T n).2.1
  have e6 : J2 (B + dx) 6 = nI 0 := by rw [b4 _ (by omega) (by omega) (by omega)]; exact a2
  have c1 := p_checkTells h hd tk e6
  obtain ⟨q1, q2, q3⟩ := rdQ_lt (T := T) (n := n)
  rw [← rdQ_def] at c1
  have z6 : ckQ J2 (B + dx) (rdQ T n) (B + dx) 6 = nI (rdQ T n).1 := ck_6
  have z8 : ckQ J2 (B + dx) (rdQ T n) (B + dx) 8 = nI (rdQ T n).2 := ck_8
  have tkq : tokC (ckQ J2 (B + dx) (rdQ T n)) K2 B dx (kK T n) (kW T n) (lxN T n) := by
    unfold tokC at tk ⊢
    rw [ck_off (show B + (dx + 1) ≠ B + dx by omega), ck_off (show B + (dx + 2) ≠ B + dx by omega)]
    exact tk
  have plc : ∀ J : Nat → Nat → Int32, J (B + (dx + 4)) = J2 (B + (dx + 4)) → ∀ i, i < lxN T n → J (B + (dx + 4)) i = nI (lxS T n i) := fun J e i hi => by rw [e]; exact (b3 i hi).2.1
  have stq : ∀ k1, fX7_take [.ref (B + dx), .ref (B + 1)] (I, L, Z) = k1 ↔ kX7_take_0 [some (Value.ref ((B + dx))), some (Value.ref ((B + 1)))] [] (I, L, Z) = k1 := fun _ => Iff.rfl
  by_cases g : (rdQ T n).1 = 0
  · have r0 : rcA (ckQ J2 (B + dx) (rdQ T n)) K2 B dx mA0 := by
      have o : ∀ a, a ≠ B + dx → a ≠ B + (dx + 1) → a ≠ B + (dx + 2) → a ≠ B + (dx + 4) → ckQ J2 (B + dx) (rdQ T n) a = J1 a := fun a o1 o2 o3 o4 => by rw [ck_off o1, b4 a o2 o3 o4]
      refine ⟨by rw [o _ (by omega) (by omega) (by omega) (by omega)]; exact a10, ?_, ⟨by rw [o _ (by omega) (by omega) (by omega) (by omega)]; exact a6, by rw [o _ (by omega) (by omega) (by omega) (by omega)]; exact a7, by rw [o _ (by omega) (by omega) (by omega) (by omega)]; exact a8⟩, ?_, fun k hk => ?_, fun r hr => ?_, fun r i hr hi => ?_, fun k hk => ?_, fun r hr => ?_⟩
      · rw [ck_fld (by decide) (by decide), b4 _ (by omega) (by omega) (by omega)]; exact a5
      · rw [ck_fld (by decide) (by decide), ck_fld (by decide) (by decide), b4 _ (by omega) (by omega) (by omega)]; exact ⟨a4, a3⟩
      · rw [o _ (by omega) (by omega) (by omega) (by omega), mA0_0 (by omega)]; exact a11 k hk
      · rw [o _ (by omega) (by omega) (by omega) (by omega), mA0_0 (by omega)]; exact a9 r hr
      · rw [mA0_0 (by omega)] at hi
        exact absurd hi (Nat.not_lt_zero _)
      · rw [o _ (by omega) (by omega) (by omega) (by omega), mA0_0 (by omega)]; exact a12 k hk
      · rw [mA0_0 (by omega)] at hr
        exact absurd hr (Nat.not_lt_zero _)
    rw [g] at z6
    have g' := g
    rw [rdQ_def] at g'
    obtain ⟨J3, M3, d1, d2⟩ := p_readTells (N := kN T n) h hd tkq kK_sz kW_lt nm g' z6 r0
    rw [← rdM_def] at d2
    obtain ⟨o1, o2, o3, o4, o5, o6, o7⟩ := d2
    have fr : ∀ a, a < B + dx ∨ B + (dx + 14) < a → J3 a = I a := fun a ha => by rw [o6 a (by omega), ck_off (by omega), b4 a (by omega) (by omega) (by omega), a13 a (by omega) (by omega) (by omega) (by omega) (by omega) (by omega)]
    have fl : ∀ a, a ≠ B + (dx + 3) → a ≠ B + (dx + 14) → M3 a = L a := fun a u1 u2 => by rw [o7 a u2, b5 a u1]
    have j4 : J3 (B + (dx + 4)) = J2 (B + (dx + 4)) := by rw [o6 _ (by omega), ck_off (by omega)]
    have j1 : J3 (B + (dx + 1)) 3 = nI (lxN T n) := by rw [o6 _ (by omega), ck_off (by omega)]; exact b2
    by_cases g2 : (rdM T n).1 = 0
    · have hA := (rdM_ok g g2).1
      obtain ⟨m1, m2, m3, m4, m5, m6, m7, m8, m9⟩ := hA
      have r := o5 g2
      rw [g2] at o1
      have r1 := r.2.1
      have r00 := r.1
      by_cases g3 : (rdM T n).2.2 0 ≤ (rdM T n).2.2 1
      · obtain ⟨u1, u2⟩ := rdc_6 g g2 g3
        have t1 : z_up J3 (B + dx) 6 (nI 6) (B + 1) 1 = nI n := by rw [zup_off (by omega), fr (B + 1) (by omega)]; exact hT.2.1
        refine ⟨z_up (z_up J3 (B + dx) 6 (nI 6)) (B + dx) 7 (nI n), M3, ?_, ?_, by rw [u1]; decide, ?_, fun a ha => ?_, fl, fun z => absurd z (by rw [u1]; decide)⟩
        · rw [stq]
          simp (disch := omega) only [kX7_take_0, kX7_take_27, kX7_take_90, dl_0 h hd, dl_1 h hd, dl_5 h hd, dr_0_0 h hd, dr_0_1 h hd, cl_1 h, a1, b1, c1, z6, d1, o1, r1, r00, t1, e_push, e_pushl, e_iload, e_lload, e_aload, e_istore, e_astore, e_lstore, e_iinc, e_iadd, e_isub, e_imul, e_iand, e_ior, e_ixor, e_ishl, e_ishr, e_iushr, e_idiv, e_irem, e_ladd, e_lsub, e_lmul, e_lcmp, e_mmax, e_mmin, e_i2l, e_l2i, e_i2b, e_i2c, e_dup, e_dup2, e_pop, e_icmp_eq, e_icmp_ne, e_icmp_lt, e_icmp_ge, e_icmp_gt, e_icmp_le, e_if_eq, e_if_ne, e_if_lt, e_if_ge, e_if_gt, e_if_le, e_getI, e_getR, e_putI, e_putZ, e_putR, e_iald, e_bald, e_zald, e_lald, e_aald, e_alen, e_iast, e_bast, e_zast, e_last, e_aast, e_iret, e_zret, e_lret, e_vret, e_obj, e_callV, e_callS, e_callT, e_acpy, e_ldcS, e_dn, e_ag, z_pop, List.getElem?_cons_zero, List.getElem?_cons_succ, List.set_cons_zero, List.set_cons_succ, List.length_cons, List.length_nil, z_nol, Option.map_some, Option.toList_some, Option.toList_none, List.cons_append, List.nil_append, n_lit, n_m1, n_m2, n_m1lt, n_m1le, n_rem, n_div, n_out, n_cl, n_eq, n_le, n_lt, n_add, n_mul, n_sub, n_nle, n_yle, n_nlt, n_ylt, n_neN, z_lay, z_sz, z_str, z_stI, z_stL, z_stR, eq_self, ↓reduceIte, true_and, and_true, and_self, false_and, and_false, or_self, false_or, or_false, true_or, or_true, not_true_eq_false, not_false_eq_true, Nat.reduceLeDiff, Nat.reduceLT, Nat.reduceAdd, Nat.reduceEqDiff, Nat.reduceMul, Nat.reduceSub, Value.category, Nat.zero_le, beq_self_eq_true]
        · rw [zup_ne (by omega), zup_at, u1]
        · rw [zup_at, u2]
        · rw [zup_off (by omega), zup_off (by omega)]; exact fr a ha
      · obtain ⟨u1, u2⟩ := rdc_0 g g2 g3
        have fg := p_fillGaps (I := J3) (L := M3) (C := fun k => (rdM T n).2.2 (10 + k)) ⟨dl_5 h hd, dr_5_3 h hd, dl_6 h hd⟩ (by omega) r00 m1 m2 (fun k hk => ⟨r.2.2.2.2.1 k hk, by have := m6 k hk; show (rdM T n).2.2 (10 + k) ≤ 4; omega⟩)
        have off : ∀ a, a ≠ B + (dx + 6) → fgI J3 (B + (dx + 6)) ((rdM T n).2.2 0) (fun k => (rdM T n).2.2 (10 + k)) 16 a = J3 a := fun a ha => funext fun k => if_neg (fun z => ha z.1)
        have at6 : ∀ k, k < 16 → fgI J3 (B + (dx + 6)) ((rdM T n).2.2 0) (fun k => (rdM T n).2.2 (10 + k)) 16 (B + (dx + 6)) k = nI (gpV (fun k => (rdM T n).2.2 (10 + k)) ((rdM T n).2.2 0) k) := fun k hk => if_pos ⟨rfl, hk⟩
        generalize fgI J3 (B + (dx + 6)) ((rdM T n).2.2 0) (fun k => (rdM T n).2.2 (10 + k)) 16 = J4 at fg off at6
        refine ⟨J4, M3, ?_, ?_, by rw [u1]; decide, ?_, fun a ha => ?_, fl, fun _ => ⟨?_, ?_, ?_, ?_, ?_, ?_, at6, fun r' hr => ?_, fun r' i hr hi => ?_, fun k hk => ?_⟩⟩
        · rw [stq]
          simp (disch := omega) only [kX7_take_0, kX7_take_27, kX7_take_90, dl_0 h hd, dl_1 h hd, dl_5 h hd, dr_0_0 h hd, dr_0_1 h hd, cl_1 h, a1, b1, c1, z6, d1, o1, r1, r00, fg, e_push, e_pushl, e_iload, e_lload, e_aload, e_istore, e_astore, e_lstore, e_iinc, e_iadd, e_isub, e_imul, e_iand, e_ior, e_ixor, e_ishl, e_ishr, e_iushr, e_idiv, e_irem, e_ladd, e_lsub, e_lmul, e_lcmp, e_mmax, e_mmin, e_i2l, e_l2i, e_i2b, e_i2c, e_dup, e_dup2, e_pop, e_icmp_eq, e_icmp_ne, e_icmp_lt, e_icmp_ge, e_icmp_gt, e_icmp_le, e_if_eq, e_if_ne, e_if_lt, e_if_ge, e_if_gt, e_if_le, e_getI, e_getR, e_putI, e_putZ, e_putR, e_iald, e_bald, e_zald, e_lald, e_aald, e_alen, e_iast, e_bast, e_zast, e_last, e_aast, e_iret, e_zret, e_lret, e_vret, e_obj, e_callV, e_callS, e_callT, e_acpy, e_ldcS, e_dn, e_ag, z_pop, List.getElem?_cons_zero, List.getElem?_cons_succ, List.set_cons_zero, List.set_cons_succ, List.length_cons, List.length_nil, z_nol, Option.map_some, Option.toList_some, Option.toList_none, List.cons_append, List.nil_append, n_lit, n_m1, n_m2, n_m1lt, n_m1le, n_rem, n_div, n_out, n_cl, n_eq, n_le, n_lt, n_add, n_mul, n_sub, n_nle, n_yle, n_nlt, n_ylt, n_neN, z_lay, z_sz, z_str, z_stI, z_stL, z_stR, eq_self, ↓reduceIte, true_and, and_true, and_self, false_and, and_false, or_self, false_or, or_false, true_or, or_true, not_true_eq_false, not_false_eq_true, Nat.reduceLeDiff, Nat.reduceLT, Nat.reduceAdd, Nat.reduceEqDiff, Nat.reduceMul, Nat.reduceSub, Value.category, Nat.zero_le, beq_self_eq_true]
        · rw [off _ (by omega), o1, u1]
        · rw [off _ (by omega), u2]; exact r.2.2.2.1.2
        · rw [off _ (by omega)]; exact fr a ha
        · have t := o6.tok o7 tkq
          unfold tokC at t ⊢
          rw [off _ (by omega), off _ (by omega)]
          exact t
        · rw [off _ (by omega)]; exact r.1
        · rw [off _ (by omega)]; exact r.2.2.1.1
        · rw [off _ (by omega)]; exact r.2.2.1.2.1
        · rw [off _ (by omega)]; exact r.2.2.1.2.2
        · rw [off _ (by omega)]; exact r.2.2.2.1.1
        · rw [off _ (by omega)]; exact r.2.2.2.2.2.1 r' hr
        · rw [off _ (by omega)]; exact r.2.2.2.2.2.2.1 r' i hr hi
        · rw [off _ (by omega)]; exact r.2.2.2.2.2.2.2.1 k hk
    · obtain ⟨u1, u2⟩ := rdc_M g g2
      obtain ⟨v1, v2⟩ := rdM_bad g g2
      have st := p_start (L := M3) h hd j1 sz v2
      rw [plc J3 j4 _ v2] at st
      refine ⟨z_up J3 (B + dx) 7 (nI (lxS T n (rdM T n).2.1)), M3, ?_, ?_, by rw [u1]; exact v1, ?_, fun a ha => ?_, fl, fun z => absurd z (by rw [u1]; exact g2)⟩
      · rw [stq]
        simp (disch := omega) only [kX7_take_0, kX7_take_27, kX7_take_90, dl_0 h hd, dl_1 h hd, dl_5 h hd, dr_0_0 h hd, dr_0_1 h hd, cl_1 h, a1, b1, c1, z6, d1, o1, o3, g2, st, e_push, e_pushl, e_iload, e_lload, e_aload, e_istore, e_astore, e_lstore, e_iinc, e_iadd, e_isub, e_imul, e_iand, e_ior, e_ixor, e_ishl, e_ishr, e_iushr, e_idiv, e_irem, e_ladd, e_lsub, e_lmul, e_lcmp, e_mmax, e_mmin, e_i2l, e_l2i, e_i2b, e_i2c, e_dup, e_dup2, e_pop, e_icmp_eq, e_icmp_ne, e_icmp_lt, e_icmp_ge, e_icmp_gt, e_icmp_le, e_if_eq, e_if_ne, e_if_lt, e_if_ge, e_if_gt, e_if_le, e_getI, e_getR, e_putI, e_putZ, e_putR, e_iald, e_bald, e_zald, e_lald, e_aald, e_alen, e_iast, e_bast, e_zast, e_last, e_aast, e_iret, e_zret, e_lret, e_vret, e_obj, e_callV, e_callS, e_callT, e_acpy, e_ldcS, e_dn, e_ag, z_pop, List.getElem?_cons_zero, List.getElem?_cons_succ, List.set_cons_zero, List.set_cons_succ, List.length_cons, List.length_nil, z_nol, Option.map_some, Option.toList_some, Option.toList_none, List.cons_append, List.nil_append, n_lit, n_m1, n_m2, n_m1lt, n_m1le, n_rem, n_div, n_out, n_cl, n_eq, n_le, n_lt, n_add, n_mul, n_sub, n_nle, n_yle, n_nlt, n_ylt, n_neN, z_lay, z_sz, z_str, z_stI, z_stL, z_stR, eq_self, ↓reduceIte, true_and, and_true, and_self, false_and, and_false, or_self, false_or, or_false, true_or, or_true, not_true_eq_false, not_false_eq_true, Nat.reduceLeDiff, Nat.reduceLT, Nat.reduceAdd, Nat.reduceEqDiff, Nat.reduceMul, Nat.reduceSub, Value.category, Nat.zero_le, beq_self_eq_true]
      · rw [zup_ne (by omega), o1, u1]
      · rw [zup_at, u2]
      · rw [zup_off (by omega)]; exact fr a ha
  · obtain ⟨u1, u2⟩ := rdc_Q g
    have j1 : ckQ J2 (B + dx) (rdQ T n) (B + (dx + 1)) 3 = nI (lxN T n) := by rw [ck_off (by omega)]; exact b2
    have st := p_start (L := K2) h hd j1 sz q3
    rw [plc _ (ck_off (by omega)) _ q3] at st
    refine ⟨z_up (ckQ J2 (B + dx) (rdQ T n)) (B + dx) 7 (nI (lxS T n (rdQ T n).2)), K2, ?_, ?_, by rw [u1]; omega, ?_, fun a ha => ?_, fun a z1 z2 => b5 a z1, fun z => absurd z (by rw [u1]; exact g)⟩
    · rw [stq]
      simp (disch := omega) only [kX7_take_0, kX7_take_27, kX7_take_90, dl_0 h hd, dl_1 h hd, dl_5 h hd, dr_0_0 h hd, dr_0_1 h hd, cl_1 h, a1, b1, c1, z6, z8, g, st, e_push, e_pushl, e_iload, e_lload, e_aload, e_istore, e_astore, e_lstore, e_iinc, e_iadd, e_isub, e_imul, e_iand, e_ior, e_ixor, e_ishl, e_ishr, e_iushr, e_idiv, e_irem, e_ladd, e_lsub, e_lmul, e_lcmp, e_mmax, e_mmin, e_i2l, e_l2i, e_i2b, e_i2c, e_dup, e_dup2, e_pop, e_icmp_eq, e_icmp_ne, e_icmp_lt, e_icmp_ge, e_icmp_gt, e_icmp_le, e_if_eq, e_if_ne, e_if_lt, e_if_ge, e_if_gt, e_if_le, e_getI, e_getR, e_putI, e_putZ, e_putR, e_iald, e_bald, e_zald, e_lald, e_aald, e_alen, e_iast, e_bast, e_zast, e_last, e_aast, e_iret, e_zret, e_lret, e_vret, e_obj, e_callV, e_callS, e_callT, e_acpy, e_ldcS, e_dn, e_ag, z_pop, List.getElem?_cons_zero, List.getElem?_cons_succ, List.set_cons_zero, List.set_cons_succ, List.length_cons, List.length_nil, z_nol, Option.map_some, Option.toList_some, Option.toList_none, List.cons_append, List.nil_append, n_lit, n_m1, n_m2, n_m1lt, n_m1le, n_rem, n_div, n_out, n_cl, n_eq, n_le, n_lt, n_add, n_mul, n_sub, n_nle, n_yle, n_nlt, n_ylt, n_neN, z_lay, z_sz, z_str, z_stI, z_stL, z_stR, eq_self, ↓reduceIte, true_and, and_true, and_self, false_and, and_false, or_self, false_or, or_false, true_or, or_true, not_true_eq_false, not_false_eq_true, Nat.reduceLeDiff, Nat.reduceLT, Nat.reduceAdd, Nat.reduceEqDiff, Nat.reduceMul, Nat.reduceSub, Value.category, Nat.zero_le, beq_self_eq_true]
    · rw [zup_ne (by omega), z6, u1]
    · rw [zup_at, u2]
    · rw [zup_off (by omega), ck_off (by omega), b4 a (by omega) (by omega) (by omega), a13 a (by omega) (by omega) (by omega) (by omega) (by omega) (by omega)]
