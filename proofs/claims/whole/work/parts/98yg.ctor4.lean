/-! the constructor of a text -/
def tL (l : Nat → Option zT) (a : Nat) : Nat → Option zT := (lzN (lzN (lzN (lzN (lzN (lzN (lzN (lzN (lzN (lzN (lzN (lzN (lzN (lzN l (a + 1) (.inr 8)) (a + 2) (.inl (0, 401))) (a + 3) (.inl (3, 401))) (a + 4) (.inl (0, 401))) (a + 5) (.inr 5)) (a + 6) (.inl (0, 16))) (a + 7) (.inl (0, 36))) (a + 8) (.inl (0, 16))) (a + 9) (.inl (0, 16))) (a + 10) (.inr 1)) (a + 11) (.inl (0, 4))) (a + 12) (.inl (0, 32))) (a + 13) (.inl (0, 4))) (a + 14) (.inl (3, 4)))
def tR (r : Nat → Nat → Option Nat) (a : Nat) : Nat → Nat → Option Nat := (rzU (rzN (rzU (rzN (rzU (rzU (rzN (rzU (rzN (rzN (rzU (rzU (rzN (rzU (rzN (rzU (rzN (rzU (rzN (rzN (rzU (rzU (rzN (rzU (rzN (rzU (rzN (rzN r (a + 1)) (a + 2)) (a + 1) 0 (a + 2)) (a + 3)) (a + 1) 1 (a + 3)) (a + 4)) (a + 1) 2 (a + 4)) a 0 (a + 1)) (a + 5)) (a + 6)) (a + 5) 3 (a + 6)) (a + 7)) (a + 5) 4 (a + 7)) (a + 8)) (a + 5) 5 (a + 8)) (a + 9)) (a + 5) 6 (a + 9)) a 1 (a + 5)) (a + 10)) (a + 11)) (a + 10) 3 (a + 11)) (a + 12)) (a + 10) 4 (a + 12)) a 2 (a + 10)) (a + 13)) a 3 (a + 13)) (a + 14)) a 4 (a + 14))
theorem p_init7 {I : Nat → Nat → Int32} {L : Nat → Nat → Int64} {B a s : Nat} {l : Nat → Option zT} {r : Nat → Nat → Option Nat} {sA : Nat → Nat} (hI : frI I s) (hL : frL L s) (hs : s ≤ B + (a + 1)) (hl : l a = some (.inr 7)) : ∃ J, fX7_init [.ref (B + a)] (I, L, zz B (a + 1) l r sA) = some (none, (J, L, zz B (a + 15) (tL l a) (tR r a) sA)) ∧ J (B + a) 6 = nI 0 ∧ J (B + a) 5 = nI 0 ∧ J (B + (a + 5)) 0 = nI 2 ∧ (∀ k, k < 16 → J (B + (a + 6)) k = nI (gpV (fun _ => 0) 2 k)) ∧ (∀ k, k < 4 → J (B + (a + 13)) k = nM1) ∧ ∀ q, q ≠ B + a → q ≠ B + (a + 5) → q ≠ B + (a + 6) → q ≠ B + (a + 10) → q ≠ B + (a + 11) → q ≠ B + (a + 13) → J q = I q := by
  have h8 := p_init8 (sA := sA) (B := B) (a := (a + 1)) (n := (a + 2)) (l := (lzN l (a + 1) (.inr 8))) (r := (rzN r (a + 1))) hI hL (by omega) (by omega) (by simp (disch := omega) only [lzN_at, lzN_ne])
  have h5 := p_init5 (sA := sA) (B := B) (a := (a + 5)) (n := (a + 6)) (l := (lzN (lzN (lzN (lzN (lzN l (a + 1) (.inr 8)) (a + 2) (.inl (0, 401))) (a + 3) (.inl (3, 401))) (a + 4) (.inl (0, 401))) (a + 5) (.inr 5))) (r := (rzN (rzU (rzU (rzN (rzU (rzN (rzU (rzN (rzN r (a + 1)) (a + 2)) (a + 1) 0 (a + 2)) (a + 3)) (a + 1) 1 (a + 3)) (a + 4)) (a + 1) 2 (a + 4)) a 0 (a + 1)) (a + 5))) hI hL (by omega) (by omega) (by simp (disch := omega) only [lzN_at, lzN_ne])
  have h1 := p_init1 (sA := sA) (B := B) (a := (a + 10)) (n := (a + 11)) (l := (lzN (lzN (lzN (lzN (lzN (lzN (lzN (lzN (lzN (lzN l (a + 1) (.inr 8)) (a + 2) (.inl (0, 401))) (a + 3) (.inl (3, 401))) (a + 4) (.inl (0, 401))) (a + 5) (.inr 5)) (a + 6) (.inl (0, 16))) (a + 7) (.inl (0, 36))) (a + 8) (.inl (0, 16))) (a + 9) (.inl (0, 16))) (a + 10) (.inr 1))) (r := (rzN (rzU (rzU (rzN (rzU (rzN (rzU (rzN (rzU (rzN (rzN (rzU (rzU (rzN (rzU (rzN (rzU (rzN (rzN r (a + 1)) (a + 2)) (a + 1) 0 (a + 2)) (a + 3)) (a + 1) 1 (a + 3)) (a + 4)) (a + 1) 2 (a + 4)) a 0 (a + 1)) (a + 5)) (a + 6)) (a + 5) 3 (a + 6)) (a + 7)) (a + 5) 4 (a + 7)) (a + 8)) (a + 5) 5 (a + 8)) (a + 9)) (a + 5) 6 (a + 9)) a 1 (a + 5)) (a + 10))) hI hL (by omega) (by omega) (by simp (disch := omega) only [lzN_at, lzN_ne])
  simp only [Nat.add_assoc, Nat.reduceAdd] at h8 h5 h1
  have first : ∀ σ, kX7_init_0 (B + (a + 15)) [some (Value.ref ((B + a)))] [] (I, L, zz B (a + 1) l r sA) = σ ↔ (q_aload 0 (q_callV 7 fX7_tellNothing 0 (q_aload 0 (q_getR 7 1 (q_callV 5 fX5_fillGaps 0 q_vret))))) [some (Value.ref ((B + a)))] [] (I, L, zz B (a + 15) (tL l a) (tR r a) sA) = σ := fun σ => by
    generalize hX : (q_aload 0 (q_callV 7 fX7_tellNothing 0 (q_aload 0 (q_getR 7 1 (q_callV 5 fX5_fillGaps 0 q_vret))))) = X
    show (q_aload 0 (q_obj (q_aload 0 (q_new 8 (B + (a + 15)) (q_dup (q_ctor fX8_init 0 3 (B + (a + 15)) (q_putR 7 0 (q_aload 0 (q_new 5 (B + (a + 15)) (q_dup (q_ctor fX5_init 0 4 (B + (a + 15)) (q_putR 7 1 (q_aload 0 (q_new 1 (B + (a + 15)) (q_dup (q_ctor fX1_init 0 2 (B + (a + 15)) (q_putR 7 2 (q_aload 0 (q_push 4 (q_newa 0 2048 (B + (a + 15)) (q_putR 7 3 (q_aload 0 (q_push 4 (q_newa 3 2048 (B + (a + 15)) (q_putR 7 4 (q_aload 0 (q_callV 7 fX7_tellNothing 0 (q_aload 0 (q_getR 7 1 (q_callV 5 fX5_fillGaps 0 q_vret)))))))))))))))))))))))))))))) [some (Value.ref ((B + a)))] [] (I, L, zz B (a + 1) l r sA) = σ ↔ _
    rw [hX]
    unfold tL tR
    simp (disch := omega) only [c_new hI hL, c_newa hI hL, hl, h8, h5, h1, c_putR, e_ctor, lzN_ne, lzN_at, zz_l, zz_s, zz_r, e_push, e_pushl, e_iload, e_lload, e_aload, e_istore, e_astore, e_lstore, e_iinc, e_iadd, e_isub, e_imul, e_iand, e_ior, e_ixor, e_ishl, e_ishr, e_iushr, e_idiv, e_irem, e_ladd, e_lsub, e_lmul, e_lcmp, e_mmax, e_mmin, e_i2l, e_l2i, e_i2b, e_i2c, e_dup, e_dup2, e_pop, e_icmp_eq, e_icmp_ne, e_icmp_lt, e_icmp_ge, e_icmp_gt, e_icmp_le, e_if_eq, e_if_ne, e_if_lt, e_if_ge, e_if_gt, e_if_le, e_getI, e_getR, e_putI, e_putZ, e_iald, e_bald, e_zald, e_lald, e_aald, e_alen, e_iast, e_bast, e_zast, e_last, e_aast, e_iret, e_zret, e_lret, e_vret, e_obj, e_callV, e_callS, e_callT, e_acpy, e_ldcS, e_dn, e_ag, z_pop, List.getElem?_cons_zero, List.getElem?_cons_succ, List.set_cons_zero, List.set_cons_succ, List.length_cons, List.length_nil, z_nol, Option.map_some, Option.toList_some, Option.toList_none, List.cons_append, List.nil_append, n_lit, n_m1, n_m2, n_m1lt, n_m1le, n_rem, n_div, n_out, n_cl, n_eq, n_le, n_lt, n_add, n_mul, n_sub, n_nle, n_yle, n_nlt, n_ylt, n_neN, z_lay, z_sz, z_str, z_stI, z_stL, z_stR, eq_self, ↓reduceIte, true_and, and_true, and_self, false_and, and_false, or_self, false_or, or_false, true_or, or_true, not_true_eq_false, not_false_eq_true, Nat.reduceLeDiff, Nat.reduceLT, Nat.reduceAdd, Nat.reduceEqDiff, Nat.reduceMul, Nat.reduceSub, Value.category, Nat.zero_le, beq_self_eq_true, Nat.add_assoc]
  have ea : ∀ k, (zz B (a + 15) (tL l a) (tR r a) sA).2.1 (B + a + k) = tL l a (a + k) := fun k => by rw [Nat.add_assoc]; exact zz_l
  have er : ∀ k f, (zz B (a + 15) (tL l a) (tR r a) sA).1 (B + a + k) f = (tR r a (a + k) f).map (B + ·) := fun k f => by rw [Nat.add_assoc]; exact zz_r
  have la : ∀ k, k = 0 → tL l a (a + k) = some (.inr 7) := fun k hk => by
    subst hk
    unfold tL
    simp (disch := omega) only [lzN_ne, lzN_at, Nat.add_zero, hl]
  have tx : txL (zz B (a + 15) (tL l a) (tR r a) sA) (B + a) := by
    have z0 := ea 0
    have rr := er 0
    rw [Nat.add_zero] at z0
    simp only [Nat.add_zero] at rr z0
    unfold txL isTab isFam
    refine ⟨?_, ?_, ?_, ?_, ⟨?_, ?_, ?_⟩, ⟨?_, ?_, ?_, ?_, ?_⟩, ?_⟩
    · rw [z0]; exact la 0 rfl
    · rw [rr]; unfold tR; simp (disch := omega) only [rzU_at, rzU_n1, rzU_n2, rzN_ne, Option.map_some, Nat.add_assoc]
    · rw [rr]; unfold tR; simp (disch := omega) only [rzU_at, rzU_n1, rzU_n2, rzN_ne, Option.map_some, Nat.add_assoc]
    · rw [rr]; unfold tR; simp (disch := omega) only [rzU_at, rzU_n1, rzU_n2, rzN_ne, Option.map_some, Nat.add_assoc]
    · rw [ea]; unfold tL; simp (disch := omega) only [lzN_ne, lzN_at]
    · rw [er]; unfold tR; simp (disch := omega) only [rzU_at, rzU_n1, rzU_n2, rzN_ne, Option.map_some, Nat.add_assoc]
    · rw [ea]; unfold tL; simp (disch := omega) only [lzN_ne, lzN_at]
    · rw [ea]; unfold tL; simp (disch := omega) only [lzN_ne, lzN_at]
    · rw [er]; unfold tR; simp (disch := omega) only [rzU_at, rzU_n1, rzU_n2, rzN_ne, Option.map_some, Nat.add_assoc]
    · rw [er]; unfold tR; simp (disch := omega) only [rzU_at, rzU_n1, rzU_n2, rzN_ne, Option.map_some, Nat.add_assoc]
    · rw [ea]; unfold tL; simp (disch := omega) only [lzN_ne, lzN_at]
    · rw [ea]; unfold tL; simp (disch := omega) only [lzN_ne, lzN_at]
    · rw [ea]; unfold tL; simp (disch := omega) only [lzN_ne, lzN_at]
  obtain ⟨J1, a1, a2, a3, a4, a5, a6, a7, a8, a9, a10, a11⟩ := p_tellNothing (I := I) (L := L) tx
  have fg := p_fillGaps (I := J1) (L := L) (C := fun _ => 0) (nc := 2) tx.2.2.2.2.1 (by omega) a8 (by decide) (by decide) (fun k hk => ⟨a9 k hk, Nat.zero_le _⟩)
  have off : ∀ q, q ≠ B + (a + 6) → fgI J1 (B + a + 6) 2 (fun _ => 0) 16 q = J1 q := fun q hq => funext fun k => if_neg (fun z => hq (by rw [z.1]; rfl))
  have at6 : ∀ k, k < 16 → fgI J1 (B + a + 6) 2 (fun _ => 0) 16 (B + (a + 6)) k = nI (gpV (fun _ => 0) 2 k) := fun k hk => if_pos ⟨rfl, hk⟩
  have t7 := tx.1
  have t1 := tx.2.1
  have t5 := tx.2.2.2.2.1.1
  generalize fgI J1 (B + a + 6) 2 (fun _ => 0) 16 = J2 at fg off at6
  generalize zz B (a + 15) (tL l a) (tR r a) sA = Z at first a1 fg t7 t1 t5 ⊢
  refine ⟨J2, ?_, ?_, ?_, ?_, at6, fun k hk => ?_, fun q q1 q2 q3 q4 q5 q6 => ?_⟩
  · show kX7_init_0 (B + (a + 15)) [some (Value.ref ((B + a)))] [] (I, L, zz B (a + 1) l r sA) = _
    rw [first]
    simp (disch := omega) only [t7, t1, t5, a1, fg, e_push, e_pushl, e_iload, e_lload, e_aload, e_istore, e_astore, e_lstore, e_iinc, e_iadd, e_isub, e_imul, e_iand, e_ior, e_ixor, e_ishl, e_ishr, e_iushr, e_idiv, e_irem, e_ladd, e_lsub, e_lmul, e_lcmp, e_mmax, e_mmin, e_i2l, e_l2i, e_i2b, e_i2c, e_dup, e_dup2, e_pop, e_icmp_eq, e_icmp_ne, e_icmp_lt, e_icmp_ge, e_icmp_gt, e_icmp_le, e_if_eq, e_if_ne, e_if_lt, e_if_ge, e_if_gt, e_if_le, e_getI, e_getR, e_putI, e_putZ, e_putR, e_iald, e_bald, e_zald, e_lald, e_aald, e_alen, e_iast, e_bast, e_zast, e_last, e_aast, e_iret, e_zret, e_lret, e_vret, e_obj, e_callV, e_callS, e_callT, e_acpy, e_ldcS, e_dn, e_ag, z_pop, List.getElem?_cons_zero, List.getElem?_cons_succ, List.set_cons_zero, List.set_cons_succ, List.length_cons, List.length_nil, z_nol, Option.map_some, Option.toList_some, Option.toList_none, List.cons_append, List.nil_append, n_lit, n_m1, n_m2, n_m1lt, n_m1le, n_rem, n_div, n_out, n_cl, n_eq, n_le, n_lt, n_add, n_mul, n_sub, n_nle, n_yle, n_nlt, n_ylt, n_neN, z_lay, z_sz, z_str, z_stI, z_stL, z_stR, eq_self, ↓reduceIte, true_and, and_true, and_self, false_and, and_false, or_self, false_or, or_false, true_or, or_true, not_true_eq_false, not_false_eq_true, Nat.reduceLeDiff, Nat.reduceLT, Nat.reduceAdd, Nat.reduceEqDiff, Nat.reduceMul, Nat.reduceSub, Value.category, Nat.zero_le, beq_self_eq_true]
  · rw [off _ (by omega)]; exact a2
  · rw [off _ (by omega)]; exact a4
  · rw [off _ (by omega)]; exact a8
  · rw [off _ (by omega)]; exact a10 k hk
  · rw [off q q3]; exact a11 q q1 q2 q3 q4 q5 q6
