/-! read: the reference cuts the text into tokens -/
def tkR (J : Nat → Nat → Int32) (L : Nat → Nat → Int64) (M : Nat) (T : Nat → Nat) (n j : Nat) : Prop := J (M + 3) j = nI (rk (lxK T n (lxS T n j))) ∧ J (M + 4) j = nI (lxS T n j) ∧ (lxK T n (lxS T n j) = 21 → J (M + 5) j = nI (kW T n j)) ∧ (lxK T n (lxS T n j) = 20 → L (M + 6) j = Int64.ofNat (num 27 (fun i => T (lxS T n j + i) - 96) (kL T n j)))
def cutF (I J : Nat → Nat → Int32) (M : Nat) : Prop := (∀ a, a ≠ M → a ≠ M + 3 → a ≠ M + 4 → a ≠ M + 5 → J a = I a) ∧ ∀ f, f ≠ 10 → J M f = I M f
theorem cutF.refl (I : Nat → Nat → Int32) (M : Nat) : cutF I I M := ⟨fun _ _ _ _ _ => rfl, fun _ _ => rfl⟩
theorem cutF.tok {I J : Nat → Nat → Int32} {M k : Nat} {kd pl vl : Int32} (h : cutF I J M) : cutF I (z_up (z_up (z_up (z_up J (M + 3) k kd) (M + 4) k pl) (M + 5) k vl) M 10 (nI (k + 1))) M := by
  refine ⟨fun a h0 h3 h4 h5 => ?_, fun f hf => ?_⟩
  · rw [zup_off h0, zup_off h5, zup_off h4, zup_off h3]; exact h.1 a h0 h3 h4 h5
  · rw [zup_ne hf, zup_off (by omega), zup_off (by omega), zup_off (by omega)]; exact h.2 f hf
theorem cutF.tp {I J : Nat → Nat → Int32} {M n : Nat} {T : Nat → Nat} (h : cutF I J M) (hT : tpR I M T n) : tpR J M T n := ⟨hT.1, by rw [h.2 4 (by decide)]; exact hT.2.1, fun i hi => by rw [h.1 (M + 2) (by omega) (by omega) (by omega) (by omega)]; exact hT.2.2 i hi⟩
/-- a token more -/
theorem tkR_more {J : Nat → Nat → Int32} {L : Nat → Nat → Int64} {M n k v : Nat} {T : Nat → Nat} {nm : Int64} (h : ∀ j, j < k → tkR J L M T n j) (hv : lxK T n (lxS T n k) = 21 → v = kW T n k) (hnm : lxK T n (lxS T n k) = 20 → nm = Int64.ofNat (num 27 (fun i => T (lxS T n k + i) - 96) (kL T n k))) : ∀ j, j < k + 1 → tkR (z_up (z_up (z_up (z_up J (M + 3) k (nI (rk (lxK T n (lxS T n k))))) (M + 4) k (nI (lxS T n k))) (M + 5) k (nI v)) M 10 (nI (k + 1))) (z_up L (M + 6) k nm) M T n j := by
  intro j hj
  by_cases g : j = k
  · subst g
    refine ⟨?_, ?_, fun z => ?_, fun z => ?_⟩
    · rw [zup_off (by omega), zup_off (by omega), zup_off (by omega), zup_at]
    · rw [zup_off (by omega), zup_off (by omega), zup_at]
    · rw [zup_off (by omega), zup_at, hv z]
    · rw [lup_at, hnm z]
  · obtain ⟨a1, a2, a3, a4⟩ := h j (by omega)
    refine ⟨?_, ?_, fun z => ?_, fun z => ?_⟩
    · rw [zup_off (by omega), zup_off (by omega), zup_off (by omega), zup_ne g]; exact a1
    · rw [zup_off (by omega), zup_off (by omega), zup_ne g, zup_off (by omega)]; exact a2
    · rw [zup_off (by omega), zup_ne g, zup_off (by omega), zup_off (by omega)]; exact a3 z
    · rw [lup_ne g]; exact a4 z
theorem lxTo_at {f : Nat → Prop} [DecidablePred f] {T : Nat → Nat} {n p : Nat} (hp : p < n) (h : ¬ f (T p)) : lxTo f T n p = p := (lxTo_uniq f T (Nat.le_of_lt hp) (Nat.le_refl _) (Nat.le_of_lt hp) (fun i h1 h2 => absurd h2 (by omega)) (fun _ => h)).symm
theorem lxTo_one {f : Nat → Prop} [DecidablePred f] {T : Nat → Nat} {n p : Nat} (hp : p < n) (h : f (T p)) : lxTo f T n p = lxTo f T n (p + 1) := by
  obtain ⟨a1, a2, a3, a4⟩ := lxTo_spec f T (show p + 1 ≤ n by omega)
  refine (lxTo_uniq f T (Nat.le_of_lt hp) (by omega) a2 (fun i h1 h2 => ?_) a4).symm
  rcases Nat.eq_or_lt_of_le h1 with z | z
  · rw [← z]; exact h
  · exact a3 i z h2
/-- letters: how many, and their number, of eight at most -/
theorem r_cutL {I : Nat → Nat → Int32} {L : Nat → Nat → Int64} {Z : zZ} {M n p : Nat} {T : Nat → Nat} {y6 y7 : Option Value} {c : Int32} (h : isMod Z M) (hK : wKey L (M - 200)) (hM : 200 ≤ M) (hT : tpR I M T n) (hp : p < n) (hl : isLe (T p)) (k : Nat) (h10 : I M 10 = nI k) (hk : k < 401) :
    kX12_cut_85 [some (Value.ref (M)), some (Value.int (nI (p))), some (Value.int (c)), some (Value.int (nI (0))), some (Value.long (Int64.ofNat 0)), none, y6, y7] [] (I, L, Z) = some (.inl ([some (Value.ref (M)), some (Value.int (nI (lxE T n p))), some (Value.int (c)), some (Value.int (nI (lxE T n p - p))), some (Value.long (Int64.ofNat (num 27 (fun i => T (p + i) - 96) (min (lxE T n p - p) 8)))), none, some (Value.int (nI (rk (lxK T n p)))), (if 8 < lxE T n p - p then y7 else some (.int (nI 20)))], (z_up (z_up (z_up (z_up I (M + 3) k (nI (rk (lxK T n p)))) (M + 4) k (nI p)) (M + 5) k (nI 0)) M 10 (nI (k + 1)), z_up L (M + 6) k (Int64.ofNat (num 27 (fun i => T (p + i) - 96) (min (lxE T n p - p) 8))), Z))) := by
  have hn := hT.1
  obtain ⟨e1, e2, e3⟩ := lxE_le T (Nat.le_of_lt hp)
  have la := let_all hp hl
  have eK := lxK_let hp hl
  have en : ¬ isLe (byR T n (p + (lxE T n p - p))) := by
    rw [show p + (lxE T n p - p) = lxE T n p by omega]
    unfold byR
    by_cases g : lxE T n p < n
    · rw [if_pos g, lxE_let hp hl]
      rw [lxE_let hp hl] at g
      exact (lxTo_spec isLe T (Nat.le_of_lt hp)).2.2.2 g
    · rw [if_neg g]
      unfold isLe
      omega
  generalize hE : lxE T n p = e at e1 e2 e3 la en eK ⊢
  have fin : kX12_cut_124 [some (Value.ref (M)), some (Value.int (nI (p))), some (Value.int (c)), some (Value.int (nI (e - p))), some (Value.long (Int64.ofNat (num 27 (fun i => T (p + i) - 96) (min (e - p) 8)))), none, y6, y7] [] (I, L, Z) = some (.inl ([some (Value.ref (M)), some (Value.int (nI (e))), some (Value.int (c)), some (Value.int (nI (e - p))), some (Value.long (Int64.ofNat (num 27 (fun i => T (p + i) - 96) (min (e - p) 8)))), none, some (Value.int (nI (rk (lxK T n p)))), (if 8 < e - p then y7 else some (.int (nI 20)))], (z_up (z_up (z_up (z_up I (M + 3) k (nI (rk (lxK T n p)))) (M + 4) k (nI p)) (M + 5) k (nI 0)) M 10 (nI (k + 1)), z_up L (M + 6) k (Int64.ofNat (num 27 (fun i => T (p + i) - 96) (min (e - p) 8))), Z))) := by
    have ep : p + (e - p) = e := by omega
    generalize hN : num 27 (fun i => T (p + i) - 96) (min (e - p) 8) = N
    have t : ∀ kd : Int32, fX12_token [.ref M, .int kd, .int (nI p), .int (nI 0), .long (Int64.ofNat N)] (I, L, Z) = some (none, (z_up (z_up (z_up (z_up I (M + 3) k kd) (M + 4) k (nI p)) (M + 5) k (nI 0)) M 10 (nI (k + 1)), z_up L (M + 6) k (Int64.ofNat N), Z)) := fun kd => r_token h h10 (by omega)
    by_cases g : 8 < e - p
    · have e3 : rk (lxK T n p) = 3 := by rw [eK, if_pos g]; rfl
      rw [e3, if_pos g]
      simp (disch := omega) only [kX12_cut_124, kX12_cut_135, kX12_cut_179, kX12_cut_291, h.1, t, ep, e_push, e_pushl, e_iload, e_lload, e_aload, e_istore, e_astore, e_lstore, e_iinc, e_iadd, e_isub, e_imul, e_iand, e_ior, e_ixor, e_ishl, e_ishr, e_iushr, e_idiv, e_irem, e_ladd, e_lsub, e_lmul, e_lcmp, e_mmax, e_mmin, e_i2l, e_l2i, e_i2b, e_i2c, e_dup, e_dup2, e_pop, e_icmp_eq, e_icmp_ne, e_icmp_lt, e_icmp_ge, e_icmp_gt, e_icmp_le, e_if_eq, e_if_ne, e_if_lt, e_if_ge, e_if_gt, e_if_le, e_getI, e_getR, e_putI, e_putZ, e_putR, e_iald, e_bald, e_zald, e_lald, e_aald, e_alen, e_iast, e_bast, e_zast, e_last, e_aast, e_iret, e_zret, e_lret, e_vret, e_obj, e_callV, e_callS, e_callT, e_acpy, e_ldcS, e_dn, e_ag, z_pop, List.getElem?_cons_zero, List.getElem?_cons_succ, List.set_cons_zero, List.set_cons_succ, List.length_cons, List.length_nil, z_nol, Option.map_some, Option.toList_some, Option.toList_none, List.cons_append, List.nil_append, n_lit, n_m1, n_m2, n_m1lt, n_m1le, n_rem, n_div, n_out, n_cl, n_eq, n_le, n_lt, n_add, n_mul, n_sub, n_nle, n_yle, n_nlt, n_ylt, n_neN, z_lay, z_sz, z_str, z_stI, z_stL, z_stR, eq_self, ↓reduceIte, true_and, and_true, and_self, false_and, and_false, or_self, false_or, or_false, true_or, or_true, not_true_eq_false, not_false_eq_true, Nat.reduceLeDiff, Nat.reduceLT, Nat.reduceAdd, Nat.reduceEqDiff, Nat.reduceMul, Nat.reduceSub, Value.category, Nat.zero_le, beq_self_eq_true]
    · have e3 : rk (lxK T n p) = kdR T p e 20 := by rw [eK, if_neg g, kdR_20]
      rw [e3, if_neg g]
      rw [show min (e - p) 8 = e - p by omega] at hN
      have lp : q_lp bX12_cut_146 [some (Value.ref (M)), some (Value.int (nI (p))), some (Value.int (c)), some (Value.int (nI (e - p))), some (Value.long (Int64.ofNat N)), none, some (Value.int (nI (1))), some (Value.int (nI (0)))] [] (I, L, Z) = some (.inl ([some (Value.ref (M)), some (Value.int (nI (e))), some (Value.int (c)), some (Value.int (nI (e - p))), some (Value.long (Int64.ofNat N)), none, some (Value.int (nI (kdR T p e 20))), some (Value.int (nI (20)))], (z_up (z_up (z_up (z_up I (M + 3) k (nI (kdR T p e 20))) (M + 4) k (nI p)) (M + 5) k (nI 0)) M 10 (nI (k + 1)), z_up L (M + 6) k (Int64.ofNat N), Z))) := by
        refine lp_for (body := bX12_cut_146) (fun w => [some (Value.ref (M)), some (Value.int (nI (p))), some (Value.int (c)), some (Value.int (nI (e - p))), some (Value.long (Int64.ofNat N)), none, some (Value.int (nI (kdR T p e w))), some (Value.int (nI (w)))]) (fun _ => (I, L, Z)) 20 ?_ ?_
        · simp (disch := omega) only [bX12_cut_146, kX12_cut_179, kX12_cut_291, h.1, t, ep, Option.map_some, e_push, e_pushl, e_iload, e_lload, e_aload, e_istore, e_astore, e_lstore, e_iinc, e_iadd, e_isub, e_imul, e_iand, e_ior, e_ixor, e_ishl, e_ishr, e_iushr, e_idiv, e_irem, e_ladd, e_lsub, e_lmul, e_lcmp, e_mmax, e_mmin, e_i2l, e_l2i, e_i2b, e_i2c, e_dup, e_dup2, e_pop, e_icmp_eq, e_icmp_ne, e_icmp_lt, e_icmp_ge, e_icmp_gt, e_icmp_le, e_if_eq, e_if_ne, e_if_lt, e_if_ge, e_if_gt, e_if_le, e_getI, e_getR, e_putI, e_putZ, e_putR, e_iald, e_bald, e_zald, e_lald, e_aald, e_alen, e_iast, e_bast, e_zast, e_last, e_aast, e_iret, e_zret, e_lret, e_vret, e_obj, e_callV, e_callS, e_callT, e_acpy, e_ldcS, e_dn, e_ag, z_pop, List.getElem?_cons_zero, List.getElem?_cons_succ, List.set_cons_zero, List.set_cons_succ, List.length_cons, List.length_nil, z_nol, Option.map_some, Option.toList_some, Option.toList_none, List.cons_append, List.nil_append, n_lit, n_m1, n_m2, n_m1lt, n_m1le, n_rem, n_div, n_out, n_cl, n_eq, n_le, n_lt, n_add, n_mul, n_sub, n_nle, n_yle, n_nlt, n_ylt, n_neN, z_lay, z_sz, z_str, z_stI, z_stL, z_stR, eq_self, ↓reduceIte, true_and, and_true, and_self, false_and, and_false, or_self, false_or, or_false, true_or, or_true, not_true_eq_false, not_false_eq_true, Nat.reduceLeDiff, Nat.reduceLT, Nat.reduceAdd, Nat.reduceEqDiff, Nat.reduceMul, Nat.reduceSub, Value.category, Nat.zero_le, beq_self_eq_true]
        · intro w hw
          have bw := kdR_lt (T := T) (p := p) (e := e) (k := w) (by omega)
          have kv := wd_key w hw
          have kw := hK w _ kv
          rw [show M - 200 + 200 + 7 = M + 7 by omega] at kw
          have iw := isWd_key (T := T) hw e1 (by omega) la
          rw [hN] at iw
          have lt1 : N < 2 ^ 62 := by
            rw [← hN]
            have l1 : num 27 (fun i => T (p + i) - 96) (e - p) < 27 ^ (e - p) := num_lt (fun i hi => by
              obtain ⟨u1, u2⟩ := la i hi
              show T (p + i) - 96 < 27
              omega)
            have l2 : 27 ^ (e - p) ≤ 27 ^ 8 := Nat.pow_le_pow_right (by decide) (by omega)
            have l3 : 27 ^ 8 < 2 ^ 62 := by decide
            omega
          have lt2 : num 27 (fun i => wB (w * 8 + i) - 96) (wdL w) < 2 ^ 62 := by
            have l1 : num 27 (fun i => wB (w * 8 + i) - 96) (wdL w) < 27 ^ wdL w := num_lt (fun i hi => by
              have w2 := wd_len w hw
              obtain ⟨u1, u2⟩ := (wd_let w hw i (by omega)).1 hi
              show wB (w * 8 + i) - 96 < 27
              omega)
            have l2 : 27 ^ wdL w ≤ 27 ^ 8 := Nat.pow_le_pow_right (by decide) (wd_len w hw)
            have l3 : 27 ^ 8 < 2 ^ 62 := by decide
            omega
          have ie := i64_inj lt2 lt1
          by_cases g2 : isWd T p e w
          · have q : (Int64.ofNat (num 27 (fun i => wB (w * 8 + i) - 96) (wdL w)) = Int64.ofNat N) = True := eq_true (ie.mpr (iw.mp g2).symm)
            rw [kdR_y hw g2]
            simp (disch := omega) only [bX12_cut_146, kX12_cut_173, h.1, mr_keys h, ml_keys h, kw, lc_eq, q, e_push, e_pushl, e_iload, e_lload, e_aload, e_istore, e_astore, e_lstore, e_iinc, e_iadd, e_isub, e_imul, e_iand, e_ior, e_ixor, e_ishl, e_ishr, e_iushr, e_idiv, e_irem, e_ladd, e_lsub, e_lmul, e_lcmp, e_mmax, e_mmin, e_i2l, e_l2i, e_i2b, e_i2c, e_dup, e_dup2, e_pop, e_icmp_eq, e_icmp_ne, e_icmp_lt, e_icmp_ge, e_icmp_gt, e_icmp_le, e_if_eq, e_if_ne, e_if_lt, e_if_ge, e_if_gt, e_if_le, e_getI, e_getR, e_putI, e_putZ, e_putR, e_iald, e_bald, e_zald, e_lald, e_aald, e_alen, e_iast, e_bast, e_zast, e_last, e_aast, e_iret, e_zret, e_lret, e_vret, e_obj, e_callV, e_callS, e_callT, e_acpy, e_ldcS, e_dn, e_ag, z_pop, List.getElem?_cons_zero, List.getElem?_cons_succ, List.set_cons_zero, List.set_cons_succ, List.length_cons, List.length_nil, z_nol, Option.map_some, Option.toList_some, Option.toList_none, List.cons_append, List.nil_append, n_lit, n_m1, n_m2, n_m1lt, n_m1le, n_rem, n_div, n_out, n_cl, n_eq, n_le, n_lt, n_add, n_mul, n_sub, n_nle, n_yle, n_nlt, n_ylt, n_neN, z_lay, z_sz, z_str, z_stI, z_stL, z_stR, eq_self, ↓reduceIte, true_and, and_true, and_self, false_and, and_false, or_self, false_or, or_false, true_or, or_true, not_true_eq_false, not_false_eq_true, Nat.reduceLeDiff, Nat.reduceLT, Nat.reduceAdd, Nat.reduceEqDiff, Nat.reduceMul, Nat.reduceSub, Value.category, Nat.zero_le, beq_self_eq_true]
          · have q : (Int64.ofNat (num 27 (fun i => wB (w * 8 + i) - 96) (wdL w)) = Int64.ofNat N) = False := eq_false (fun z => g2 (iw.mpr (ie.mp z).symm))
            rw [kdR_n g2]
            simp (disch := omega) only [bX12_cut_146, kX12_cut_173, h.1, mr_keys h, ml_keys h, kw, lc_eq, q, e_push, e_pushl, e_iload, e_lload, e_aload, e_istore, e_astore, e_lstore, e_iinc, e_iadd, e_isub, e_imul, e_iand, e_ior, e_ixor, e_ishl, e_ishr, e_iushr, e_idiv, e_irem, e_ladd, e_lsub, e_lmul, e_lcmp, e_mmax, e_mmin, e_i2l, e_l2i, e_i2b, e_i2c, e_dup, e_dup2, e_pop, e_icmp_eq, e_icmp_ne, e_icmp_lt, e_icmp_ge, e_icmp_gt, e_icmp_le, e_if_eq, e_if_ne, e_if_lt, e_if_ge, e_if_gt, e_if_le, e_getI, e_getR, e_putI, e_putZ, e_putR, e_iald, e_bald, e_zald, e_lald, e_aald, e_alen, e_iast, e_bast, e_zast, e_last, e_aast, e_iret, e_zret, e_lret, e_vret, e_obj, e_callV, e_callS, e_callT, e_acpy, e_ldcS, e_dn, e_ag, z_pop, List.getElem?_cons_zero, List.getElem?_cons_succ, List.set_cons_zero, List.set_cons_succ, List.length_cons, List.length_nil, z_nol, Option.map_some, Option.toList_some, Option.toList_none, List.cons_append, List.nil_append, n_lit, n_m1, n_m2, n_m1lt, n_m1le, n_rem, n_div, n_out, n_cl, n_eq, n_le, n_lt, n_add, n_mul, n_sub, n_nle, n_yle, n_nlt, n_ylt, n_neN, z_lay, z_sz, z_str, z_stI, z_stL, z_stR, eq_self, ↓reduceIte, true_and, and_true, and_self, false_and, and_false, or_self, false_or, or_false, true_or, or_true, not_true_eq_false, not_false_eq_true, Nat.reduceLeDiff, Nat.reduceLT, Nat.reduceAdd, Nat.reduceEqDiff, Nat.reduceMul, Nat.reduceSub, Value.category, Nat.zero_le, beq_self_eq_true]
      simp (disch := omega) only [kX12_cut_124, kX12_cut_135, kX12_cut_146, lp, e_push, e_pushl, e_iload, e_lload, e_aload, e_istore, e_astore, e_lstore, e_iinc, e_iadd, e_isub, e_imul, e_iand, e_ior, e_ixor, e_ishl, e_ishr, e_iushr, e_idiv, e_irem, e_ladd, e_lsub, e_lmul, e_lcmp, e_mmax, e_mmin, e_i2l, e_l2i, e_i2b, e_i2c, e_dup, e_dup2, e_pop, e_icmp_eq, e_icmp_ne, e_icmp_lt, e_icmp_ge, e_icmp_gt, e_icmp_le, e_if_eq, e_if_ne, e_if_lt, e_if_ge, e_if_gt, e_if_le, e_getI, e_getR, e_putI, e_putZ, e_putR, e_iald, e_bald, e_zald, e_lald, e_aald, e_alen, e_iast, e_bast, e_zast, e_last, e_aast, e_iret, e_zret, e_lret, e_vret, e_obj, e_callV, e_callS, e_callT, e_acpy, e_ldcS, e_dn, e_ag, z_pop, List.getElem?_cons_zero, List.getElem?_cons_succ, List.set_cons_zero, List.set_cons_succ, List.length_cons, List.length_nil, z_nol, Option.map_some, Option.toList_some, Option.toList_none, List.cons_append, List.nil_append, n_lit, n_m1, n_m2, n_m1lt, n_m1le, n_rem, n_div, n_out, n_cl, n_eq, n_le, n_lt, n_add, n_mul, n_sub, n_nle, n_yle, n_nlt, n_ylt, n_neN, z_lay, z_sz, z_str, z_stI, z_stL, z_stR, eq_self, ↓reduceIte, true_and, and_true, and_self, false_and, and_false, or_self, false_or, or_false, true_or, or_true, not_true_eq_false, not_false_eq_true, Nat.reduceLeDiff, Nat.reduceLT, Nat.reduceAdd, Nat.reduceEqDiff, Nat.reduceMul, Nat.reduceSub, Value.category, Nat.zero_le, beq_self_eq_true]
  have e0 : num 27 (fun i => T (p + i) - 96) (min 0 8) = 0 := rfl
  show q_lp bX12_cut_85 _ [] _ = _
  have key := lp_for (body := bX12_cut_85) (fun m => [some (Value.ref (M)), some (Value.int (nI (p))), some (Value.int (c)), some (Value.int (nI (m))), some (Value.long (Int64.ofNat (num 27 (fun i => T (p + i) - 96) (min m 8)))), none, y6, y7]) (fun _ => (I, L, Z)) (e - p) (o := some (.inl ([some (Value.ref (M)), some (Value.int (nI (e))), some (Value.int (c)), some (Value.int (nI (e - p))), some (Value.long (Int64.ofNat (num 27 (fun i => T (p + i) - 96) (min (e - p) 8)))), none, some (Value.int (nI (rk (lxK T n p)))), (if 8 < e - p then y7 else some (.int (nI 20)))], (z_up (z_up (z_up (z_up I (M + 3) k (nI (rk (lxK T n p)))) (M + 4) k (nI p)) (M + 5) k (nI 0)) M 10 (nI (k + 1)), z_up L (M + 6) k (Int64.ofNat (num 27 (fun i => T (p + i) - 96) (min (e - p) 8))), Z)))) ?_ ?_
  · exact key
  · have b := r_byteAt (L := L) h hT (p + (e - p)) (by omega)
    have b2 := r_isLetter (I := I) (L := L) (Z := Z) (byR_lt hT (p + (e - p)))
    rw [if_neg en] at b2
    simp (disch := omega) only [bX12_cut_85, h.1, b, b2, fin, Option.map_some, e_push, e_pushl, e_iload, e_lload, e_aload, e_istore, e_astore, e_lstore, e_iinc, e_iadd, e_isub, e_imul, e_iand, e_ior, e_ixor, e_ishl, e_ishr, e_iushr, e_idiv, e_irem, e_ladd, e_lsub, e_lmul, e_lcmp, e_mmax, e_mmin, e_i2l, e_l2i, e_i2b, e_i2c, e_dup, e_dup2, e_pop, e_icmp_eq, e_icmp_ne, e_icmp_lt, e_icmp_ge, e_icmp_gt, e_icmp_le, e_if_eq, e_if_ne, e_if_lt, e_if_ge, e_if_gt, e_if_le, e_getI, e_getR, e_putI, e_putZ, e_putR, e_iald, e_bald, e_zald, e_lald, e_aald, e_alen, e_iast, e_bast, e_zast, e_last, e_aast, e_iret, e_zret, e_lret, e_vret, e_obj, e_callV, e_callS, e_callT, e_acpy, e_ldcS, e_dn, e_ag, z_pop, List.getElem?_cons_zero, List.getElem?_cons_succ, List.set_cons_zero, List.set_cons_succ, List.length_cons, List.length_nil, z_nol, Option.map_some, Option.toList_some, Option.toList_none, List.cons_append, List.nil_append, n_lit, n_m1, n_m2, n_m1lt, n_m1le, n_rem, n_div, n_out, n_cl, n_eq, n_le, n_lt, n_add, n_mul, n_sub, n_nle, n_yle, n_nlt, n_ylt, n_neN, z_lay, z_sz, z_str, z_stI, z_stL, z_stR, eq_self, ↓reduceIte, true_and, and_true, and_self, false_and, and_false, or_self, false_or, or_false, true_or, or_true, not_true_eq_false, not_false_eq_true, Nat.reduceLeDiff, Nat.reduceLT, Nat.reduceAdd, Nat.reduceEqDiff, Nat.reduceMul, Nat.reduceSub, Value.category, Nat.zero_le, beq_self_eq_true]
  · intro m hm
    have b := r_byteAt (L := L) h hT (p + m) (by omega)
    have b3 : byR T n (p + m) = T (p + m) := if_pos (by omega)
    rw [b3] at b
    have c2 := la m hm
    have b2 := r_isLetter (I := I) (L := L) (Z := Z) (show T (p + m) < 256 by have := c2.2; omega)
    rw [if_pos c2] at b2
    by_cases g : 8 ≤ m
    · have ee : min (m + 1) 8 = min m 8 := by omega
      rw [ee]
      simp (disch := omega) only [bX12_cut_85, kX12_cut_118, h.1, b, b2, e_push, e_pushl, e_iload, e_lload, e_aload, e_istore, e_astore, e_lstore, e_iinc, e_iadd, e_isub, e_imul, e_iand, e_ior, e_ixor, e_ishl, e_ishr, e_iushr, e_idiv, e_irem, e_ladd, e_lsub, e_lmul, e_lcmp, e_mmax, e_mmin, e_i2l, e_l2i, e_i2b, e_i2c, e_dup, e_dup2, e_pop, e_icmp_eq, e_icmp_ne, e_icmp_lt, e_icmp_ge, e_icmp_gt, e_icmp_le, e_if_eq, e_if_ne, e_if_lt, e_if_ge, e_if_gt, e_if_le, e_getI, e_getR, e_putI, e_putZ, e_putR, e_iald, e_bald, e_zald, e_lald, e_aald, e_alen, e_iast, e_bast, e_zast, e_last, e_aast, e_iret, e_zret, e_lret, e_vret, e_obj, e_callV, e_callS, e_callT, e_acpy, e_ldcS, e_dn, e_ag, z_pop, List.getElem?_cons_zero, List.getElem?_cons_succ, List.set_cons_zero, List.set_cons_succ, List.length_cons, List.length_nil, z_nol, Option.map_some, Option.toList_some, Option.toList_none, List.cons_append, List.nil_append, n_lit, n_m1, n_m2, n_m1lt, n_m1le, n_rem, n_div, n_out, n_cl, n_eq, n_le, n_lt, n_add, n_mul, n_sub, n_nle, n_yle, n_nlt, n_ylt, n_neN, z_lay, z_sz, z_str, z_stI, z_stL, z_stR, eq_self, ↓reduceIte, true_and, and_true, and_self, false_and, and_false, or_self, false_or, or_false, true_or, or_true, not_true_eq_false, not_false_eq_true, Nat.reduceLeDiff, Nat.reduceLT, Nat.reduceAdd, Nat.reduceEqDiff, Nat.reduceMul, Nat.reduceSub, Value.category, Nat.zero_le, beq_self_eq_true]
    · have ee : min (m + 1) 8 = m + 1 := by omega
      have ef : min m 8 = m := by omega
      have ap := r_appends (I := I) (L := L) (Z := Z) (c := T (p + m)) (x := num 27 (fun i => T (p + i) - 96) m) c2.1 (by have := c2.2; omega)
      have ap : fX12_appends [.long (Int64.ofNat (num 27 (fun i => T (p + i) - 96) m)), .int (nI (T (p + m)))] (I, L, Z) = some (some (.long (Int64.ofNat (num 27 (fun i => T (p + i) - 96) (m + 1)))), (I, L, Z)) := ap
      rw [ee, ef]
      simp (disch := omega) only [bX12_cut_85, kX12_cut_118, h.1, b, b2, ap, e_push, e_pushl, e_iload, e_lload, e_aload, e_istore, e_astore, e_lstore, e_iinc, e_iadd, e_isub, e_imul, e_iand, e_ior, e_ixor, e_ishl, e_ishr, e_iushr, e_idiv, e_irem, e_ladd, e_lsub, e_lmul, e_lcmp, e_mmax, e_mmin, e_i2l, e_l2i, e_i2b, e_i2c, e_dup, e_dup2, e_pop, e_icmp_eq, e_icmp_ne, e_icmp_lt, e_icmp_ge, e_icmp_gt, e_icmp_le, e_if_eq, e_if_ne, e_if_lt, e_if_ge, e_if_gt, e_if_le, e_getI, e_getR, e_putI, e_putZ, e_putR, e_iald, e_bald, e_zald, e_lald, e_aald, e_alen, e_iast, e_bast, e_zast, e_last, e_aast, e_iret, e_zret, e_lret, e_vret, e_obj, e_callV, e_callS, e_callT, e_acpy, e_ldcS, e_dn, e_ag, z_pop, List.getElem?_cons_zero, List.getElem?_cons_succ, List.set_cons_zero, List.set_cons_succ, List.length_cons, List.length_nil, z_nol, Option.map_some, Option.toList_some, Option.toList_none, List.cons_append, List.nil_append, n_lit, n_m1, n_m2, n_m1lt, n_m1le, n_rem, n_div, n_out, n_cl, n_eq, n_le, n_lt, n_add, n_mul, n_sub, n_nle, n_yle, n_nlt, n_ylt, n_neN, z_lay, z_sz, z_str, z_stI, z_stL, z_stR, eq_self, ↓reduceIte, true_and, and_true, and_self, false_and, and_false, or_self, false_or, or_false, true_or, or_true, not_true_eq_false, not_false_eq_true, Nat.reduceLeDiff, Nat.reduceLT, Nat.reduceAdd, Nat.reduceEqDiff, Nat.reduceMul, Nat.reduceSub, Value.category, Nat.zero_le, beq_self_eq_true]
theorem r_cutD {I : Nat → Nat → Int32} {L : Nat → Nat → Int64} {Z : zZ} {M n p : Nat} {T : Nat → Nat} {y5 y6 y7 : Option Value} {c : Int32} (h : isMod Z M) (hT : tpR I M T n) (hp : p < n) (hl : ¬ isLe (T p)) (hd : isDi (T p)) (k : Nat) (h10 : I M 10 = nI k) (hk : k < 401) :
    kX12_cut_208 [some (Value.ref (M)), some (Value.int (nI (p))), some (Value.int (c)), some (Value.int (nI (0))), some (Value.int (nI (0))), y5, y6, y7] [] (I, L, Z) = some (.inl ([some (Value.ref (M)), some (Value.int (nI (lxE T n p))), some (Value.int (c)), some (Value.int (nI (lxE T n p - p))), some (Value.int (nI (num 10 (fun i => T (p + i) - 48) (min (lxE T n p - p) 4)))), y5, y6, y7], (z_up (z_up (z_up (z_up I (M + 3) k (nI (rk (lxK T n p)))) (M + 4) k (nI p)) (M + 5) k (nI (num 10 (fun i => T (p + i) - 48) (min (lxE T n p - p) 4)))) M 10 (nI (k + 1)), z_up L (M + 6) k 0, Z))) := by
  have hn := hT.1
  obtain ⟨e1, e2, e3⟩ := lxE_le T (Nat.le_of_lt hp)
  have la := dig_all hp hl hd
  have eK := lxK_dig hp hl hd
  have en : ¬ isDi (byR T n (p + (lxE T n p - p))) := by
    rw [show p + (lxE T n p - p) = lxE T n p by omega]
    unfold byR
    by_cases g : lxE T n p < n
    · rw [if_pos g, lxE_dig hp hl hd]
      rw [lxE_dig hp hl hd] at g
      exact (lxTo_spec isDi T (Nat.le_of_lt hp)).2.2.2 g
    · rw [if_neg g]
      unfold isDi
      omega
  generalize hE : lxE T n p = e at e1 e2 e3 la en eK ⊢
  have ep : p + (e - p) = e := by omega
  have nl : ∀ m, m ≤ e - p → num 10 (fun i => T (p + i) - 48) (min m 4) < 10000 := fun m hm => by
    have l1 : num 10 (fun i => T (p + i) - 48) (min m 4) < 10 ^ min m 4 := num_lt (fun i hi => by
      obtain ⟨u1, u2⟩ := la i (by omega)
      show T (p + i) - 48 < 10
      omega)
    have l2 : 10 ^ min m 4 ≤ 10 ^ 4 := Nat.pow_le_pow_right (by decide) (by omega)
    have l3 : 10 ^ 4 = 10000 := by decide
    omega
  show q_lp bX12_cut_208 _ [] _ = _
  have key := lp_for (body := bX12_cut_208) (fun m => [some (Value.ref (M)), some (Value.int (nI (p))), some (Value.int (c)), some (Value.int (nI (m))), some (Value.int (nI (num 10 (fun i => T (p + i) - 48) (min m 4)))), y5, y6, y7]) (fun _ => (I, L, Z)) (e - p) (o := some (.inl ([some (Value.ref (M)), some (Value.int (nI (e))), some (Value.int (c)), some (Value.int (nI (e - p))), some (Value.int (nI (num 10 (fun i => T (p + i) - 48) (min (e - p) 4)))), y5, y6, y7], (z_up (z_up (z_up (z_up I (M + 3) k (nI (rk (lxK T n p)))) (M + 4) k (nI p)) (M + 5) k (nI (num 10 (fun i => T (p + i) - 48) (min (e - p) 4)))) M 10 (nI (k + 1)), z_up L (M + 6) k 0, Z)))) ?_ ?_
  · exact key
  · have b := r_byteAt (L := L) h hT (p + (e - p)) (by omega)
    have b2 := r_isDigit (I := I) (L := L) (Z := Z) (byR_lt hT (p + (e - p)))
    rw [if_neg en] at b2
    rw [ep] at b b2
    have t : ∀ kd vl : Int32, fX12_token [.ref M, .int kd, .int (nI p), .int vl, .long 0] (I, L, Z) = some (none, (z_up (z_up (z_up (z_up I (M + 3) k kd) (M + 4) k (nI p)) (M + 5) k vl) M 10 (nI (k + 1)), z_up L (M + 6) k 0, Z)) := fun kd vl => r_token h h10 (by omega)
    by_cases g : 4 < e - p
    · have e3 : rk (lxK T n p) = 3 := by rw [eK, if_pos g]; rfl
      rw [e3]
      generalize num 10 (fun i => T (p + i) - 48) (min (e - p) 4) = N
      simp (disch := omega) only [bX12_cut_208, kX12_cut_250, kX12_cut_261, kX12_cut_291, h.1, b, b2, t, ep, Option.map_some, e_push, e_pushl, e_iload, e_lload, e_aload, e_istore, e_astore, e_lstore, e_iinc, e_iadd, e_isub, e_imul, e_iand, e_ior, e_ixor, e_ishl, e_ishr, e_iushr, e_idiv, e_irem, e_ladd, e_lsub, e_lmul, e_lcmp, e_mmax, e_mmin, e_i2l, e_l2i, e_i2b, e_i2c, e_dup, e_dup2, e_pop, e_icmp_eq, e_icmp_ne, e_icmp_lt, e_icmp_ge, e_icmp_gt, e_icmp_le, e_if_eq, e_if_ne, e_if_lt, e_if_ge, e_if_gt, e_if_le, e_getI, e_getR, e_putI, e_putZ, e_putR, e_iald, e_bald, e_zald, e_lald, e_aald, e_alen, e_iast, e_bast, e_zast, e_last, e_aast, e_iret, e_zret, e_lret, e_vret, e_obj, e_callV, e_callS, e_callT, e_acpy, e_ldcS, e_dn, e_ag, z_pop, List.getElem?_cons_zero, List.getElem?_cons_succ, List.set_cons_zero, List.set_cons_succ, List.length_cons, List.length_nil, z_nol, Option.map_some, Option.toList_some, Option.toList_none, List.cons_append, List.nil_append, n_lit, n_m1, n_m2, n_m1lt, n_m1le, n_rem, n_div, n_out, n_cl, n_eq, n_le, n_lt, n_add, n_mul, n_sub, n_nle, n_yle, n_nlt, n_ylt, n_neN, z_lay, z_sz, z_str, z_stI, z_stL, z_stR, eq_self, ↓reduceIte, true_and, and_true, and_self, false_and, and_false, or_self, false_or, or_false, true_or, or_true, not_true_eq_false, not_false_eq_true, Nat.reduceLeDiff, Nat.reduceLT, Nat.reduceAdd, Nat.reduceEqDiff, Nat.reduceMul, Nat.reduceSub, Value.category, Nat.zero_le, beq_self_eq_true]
    · have e3 : rk (lxK T n p) = 2 := by rw [eK, if_neg g]; rfl
      rw [e3]
      generalize num 10 (fun i => T (p + i) - 48) (min (e - p) 4) = N
      simp (disch := omega) only [bX12_cut_208, kX12_cut_250, kX12_cut_261, kX12_cut_291, h.1, b, b2, t, ep, Option.map_some, e_push, e_pushl, e_iload, e_lload, e_aload, e_istore, e_astore, e_lstore, e_iinc, e_iadd, e_isub, e_imul, e_iand, e_ior, e_ixor, e_ishl, e_ishr, e_iushr, e_idiv, e_irem, e_ladd, e_lsub, e_lmul, e_lcmp, e_mmax, e_mmin, e_i2l, e_l2i, e_i2b, e_i2c, e_dup, e_dup2, e_pop, e_icmp_eq, e_icmp_ne, e_icmp_lt, e_icmp_ge, e_icmp_gt, e_icmp_le, e_if_eq, e_if_ne, e_if_lt, e_if_ge, e_if_gt, e_if_le, e_getI, e_getR, e_putI, e_putZ, e_putR, e_iald, e_bald, e_zald, e_lald, e_aald, e_alen, e_iast, e_bast, e_zast, e_last, e_aast, e_iret, e_zret, e_lret, e_vret, e_obj, e_callV, e_callS, e_callT, e_acpy, e_ldcS, e_dn, e_ag, z_pop, List.getElem?_cons_zero, List.getElem?_cons_succ, List.set_cons_zero, List.set_cons_succ, List.length_cons, List.length_nil, z_nol, Option.map_some, Option.toList_some, Option.toList_none, List.cons_append, List.nil_append, n_lit, n_m1, n_m2, n_m1lt, n_m1le, n_rem, n_div, n_out, n_cl, n_eq, n_le, n_lt, n_add, n_mul, n_sub, n_nle, n_yle, n_nlt, n_ylt, n_neN, z_lay, z_sz, z_str, z_stI, z_stL, z_stR, eq_self, ↓reduceIte, true_and, and_true, and_self, false_and, and_false, or_self, false_or, or_false, true_or, or_true, not_true_eq_false, not_false_eq_true, Nat.reduceLeDiff, Nat.reduceLT, Nat.reduceAdd, Nat.reduceEqDiff, Nat.reduceMul, Nat.reduceSub, Value.category, Nat.zero_le, beq_self_eq_true]
  · intro m hm
    have b := r_byteAt (L := L) h hT (p + m) (by omega)
    have b3 : byR T n (p + m) = T (p + m) := if_pos (by omega)
    rw [b3] at b
    have c2 := la m hm
    have b2 := r_isDigit (I := I) (L := L) (Z := Z) (show T (p + m) < 256 by have := c2.2; omega)
    rw [if_pos c2] at b2
    obtain ⟨u1, u2⟩ := c2
    by_cases g : 4 ≤ m
    · have ee : min (m + 1) 4 = min m 4 := by omega
      rw [ee]
      simp (disch := omega) only [bX12_cut_208, kX12_cut_244, h.1, b, b2, e_push, e_pushl, e_iload, e_lload, e_aload, e_istore, e_astore, e_lstore, e_iinc, e_iadd, e_isub, e_imul, e_iand, e_ior, e_ixor, e_ishl, e_ishr, e_iushr, e_idiv, e_irem, e_ladd, e_lsub, e_lmul, e_lcmp, e_mmax, e_mmin, e_i2l, e_l2i, e_i2b, e_i2c, e_dup, e_dup2, e_pop, e_icmp_eq, e_icmp_ne, e_icmp_lt, e_icmp_ge, e_icmp_gt, e_icmp_le, e_if_eq, e_if_ne, e_if_lt, e_if_ge, e_if_gt, e_if_le, e_getI, e_getR, e_putI, e_putZ, e_putR, e_iald, e_bald, e_zald, e_lald, e_aald, e_alen, e_iast, e_bast, e_zast, e_last, e_aast, e_iret, e_zret, e_lret, e_vret, e_obj, e_callV, e_callS, e_callT, e_acpy, e_ldcS, e_dn, e_ag, z_pop, List.getElem?_cons_zero, List.getElem?_cons_succ, List.set_cons_zero, List.set_cons_succ, List.length_cons, List.length_nil, z_nol, Option.map_some, Option.toList_some, Option.toList_none, List.cons_append, List.nil_append, n_lit, n_m1, n_m2, n_m1lt, n_m1le, n_rem, n_div, n_out, n_cl, n_eq, n_le, n_lt, n_add, n_mul, n_sub, n_nle, n_yle, n_nlt, n_ylt, n_neN, z_lay, z_sz, z_str, z_stI, z_stL, z_stR, eq_self, ↓reduceIte, true_and, and_true, and_self, false_and, and_false, or_self, false_or, or_false, true_or, or_true, not_true_eq_false, not_false_eq_true, Nat.reduceLeDiff, Nat.reduceLT, Nat.reduceAdd, Nat.reduceEqDiff, Nat.reduceMul, Nat.reduceSub, Value.category, Nat.zero_le, beq_self_eq_true]
    · have ee : min (m + 1) 4 = m + 1 := by omega
      have ef : min m 4 = m := by omega
      have l := nl m (by omega)
      rw [ef] at l
      have ap : num 10 (fun i => T (p + i) - 48) (m + 1) = 10 * num 10 (fun i => T (p + i) - 48) m + T (p + m) - 48 := by
        show num 10 (fun i => T (p + i) - 48) m * 10 + (T (p + m) - 48) = _
        omega
      rw [ee, ef, ap]
      simp (disch := omega) only [bX12_cut_208, kX12_cut_244, h.1, b, b2, e_push, e_pushl, e_iload, e_lload, e_aload, e_istore, e_astore, e_lstore, e_iinc, e_iadd, e_isub, e_imul, e_iand, e_ior, e_ixor, e_ishl, e_ishr, e_iushr, e_idiv, e_irem, e_ladd, e_lsub, e_lmul, e_lcmp, e_mmax, e_mmin, e_i2l, e_l2i, e_i2b, e_i2c, e_dup, e_dup2, e_pop, e_icmp_eq, e_icmp_ne, e_icmp_lt, e_icmp_ge, e_icmp_gt, e_icmp_le, e_if_eq, e_if_ne, e_if_lt, e_if_ge, e_if_gt, e_if_le, e_getI, e_getR, e_putI, e_putZ, e_putR, e_iald, e_bald, e_zald, e_lald, e_aald, e_alen, e_iast, e_bast, e_zast, e_last, e_aast, e_iret, e_zret, e_lret, e_vret, e_obj, e_callV, e_callS, e_callT, e_acpy, e_ldcS, e_dn, e_ag, z_pop, List.getElem?_cons_zero, List.getElem?_cons_succ, List.set_cons_zero, List.set_cons_succ, List.length_cons, List.length_nil, z_nol, Option.map_some, Option.toList_some, Option.toList_none, List.cons_append, List.nil_append, n_lit, n_m1, n_m2, n_m1lt, n_m1le, n_rem, n_div, n_out, n_cl, n_eq, n_le, n_lt, n_add, n_mul, n_sub, n_nle, n_yle, n_nlt, n_ylt, n_neN, z_lay, z_sz, z_str, z_stI, z_stL, z_stR, eq_self, ↓reduceIte, true_and, and_true, and_self, false_and, and_false, or_self, false_or, or_false, true_or, or_true, not_true_eq_false, not_false_eq_true, Nat.reduceLeDiff, Nat.reduceLT, Nat.reduceAdd, Nat.reduceEqDiff, Nat.reduceMul, Nat.reduceSub, Value.category, Nat.zero_le, beq_self_eq_true]
