/-! sets that stay by themselves -/
def sbN (s t : Nat) : Prop := ∀ j, s.testBit j = true → t.testBit j = true
theorem sbN.refl (s : Nat) : sbN s s := fun _ h => h
theorem sbN.trans {s t u : Nat} (h1 : sbN s t) (h2 : sbN t u) : sbN s u := fun j h => h2 j (h1 j h)
theorem sbN.anti {s t : Nat} (h1 : sbN s t) (h2 : sbN t s) : s = t := Nat.eq_of_testBit_eq (fun j => by
  cases e1 : s.testBit j with
  | true => exact (h1 j e1).symm
  | false => cases e2 : t.testBit j with
    | true => rw [h2 j e2] at e1; cases e1
    | false => rfl)
theorem sb_or {s k : Nat} : sbN s (s ||| 2 ^ k) := fun j h => by rw [Nat.testBit_or, h, Bool.true_or]
theorem sb_orT {s k t : Nat} (h : sbN s t) (hk : t.testBit k = true) : sbN (s ||| 2 ^ k) t := fun j hj => by
  rw [Nat.testBit_or, Nat.testBit_two_pow] at hj
  rcases Bool.or_eq_true_iff.mp hj with q | q
  · exact h j q
  · rw [← of_decide_eq_true q]; exact hk
theorem tb_orK {s k : Nat} : (s ||| 2 ^ k).testBit k = true := by rw [Nat.testBit_or, Nat.testBit_two_pow_self, Bool.or_true]
theorem tb_lt {s n j : Nat} (hs : s < 2 ^ n) (h : s.testBit j = true) : j < n := Classical.byContradiction fun q => by
  rw [Nat.testBit_lt_two_pow (Nat.lt_of_lt_of_le hs (Nat.pow_le_pow_right (by omega) (by omega)))] at h
  cases h
def clsd (ch : Nat → Nat → Nat) (t : Nat) : Prop := ∀ l r, t.testBit l = true → t.testBit r = true → t.testBit (ch l r) = true
theorem pc_mono : ∀ s, s < 16 → ∀ t, t < 16 → s ||| t = t → s ≠ t → pcN s < pcN t := by decide
theorem sb_or_eq {s t : Nat} (h : sbN s t) : s ||| t = t := Nat.eq_of_testBit_eq (fun j => by
  rw [Nat.testBit_or]
  cases e1 : s.testBit j with
  | true => rw [h j e1, Bool.true_or]
  | false => rw [Bool.false_or])
def cl1 (ch : Nat → Nat → Nat) (s l r : Nat) : Nat := if s / 2 ^ l % 2 = 1 ∧ s / 2 ^ r % 2 = 1 then s ||| 2 ^ ch l r else s
def clR (ch : Nat → Nat → Nat) (l s : Nat) : Nat → Nat
  | 0 => s
  | k + 1 => cl1 ch (clR ch l s k) l k
def clL (ch : Nat → Nat → Nat) (nc s : Nat) : Nat → Nat
  | 0 => s
  | k + 1 => clR ch k (clL ch nc s k) nc
def clN (ch : Nat → Nat → Nat) (nc s : Nat) : Nat → Nat
  | 0 => s
  | k + 1 => clL ch nc (clN ch nc s k) nc
theorem cl1_sb (ch : Nat → Nat → Nat) (s l r : Nat) : sbN s (cl1 ch s l r) := by
  unfold cl1
  split
  · exact sb_or
  · exact sbN.refl s
theorem clR_sb (ch : Nat → Nat → Nat) (l s : Nat) : ∀ k, sbN s (clR ch l s k)
  | 0 => sbN.refl s
  | k + 1 => (clR_sb ch l s k).trans (cl1_sb _ _ _ _)
theorem clL_sb (ch : Nat → Nat → Nat) (nc s : Nat) : ∀ k, sbN s (clL ch nc s k)
  | 0 => sbN.refl s
  | k + 1 => (clL_sb ch nc s k).trans (clR_sb _ _ _ _)
theorem clN_sb (ch : Nat → Nat → Nat) (nc s : Nat) : ∀ k, sbN s (clN ch nc s k)
  | 0 => sbN.refl s
  | k + 1 => (clN_sb ch nc s k).trans (clL_sb _ _ _ _)
theorem cl1_in {ch : Nat → Nat → Nat} {s l r t : Nat} (ht : clsd ch t) (h : sbN s t) : sbN (cl1 ch s l r) t := by
  unfold cl1
  split
  · rename_i q
    exact sb_orT h (ht l r (h l (tb_iff.mp q.1)) (h r (tb_iff.mp q.2)))
  · exact h
theorem clR_in {ch : Nat → Nat → Nat} {s l t : Nat} (ht : clsd ch t) (h : sbN s t) : ∀ k, sbN (clR ch l s k) t
  | 0 => h
  | k + 1 => cl1_in ht (clR_in ht h k)
theorem clL_in {ch : Nat → Nat → Nat} {s nc t : Nat} (ht : clsd ch t) (h : sbN s t) : ∀ k, sbN (clL ch nc s k) t
  | 0 => h
  | k + 1 => clR_in ht (clL_in ht h k) nc
theorem clN_in {ch : Nat → Nat → Nat} {s nc t : Nat} (ht : clsd ch t) (h : sbN s t) : ∀ k, sbN (clN ch nc s k) t
  | 0 => h
  | k + 1 => clL_in ht (clN_in ht h k) nc
theorem clR_mono {ch : Nat → Nat → Nat} {l s : Nat} : ∀ {k m : Nat}, k ≤ m → sbN (clR ch l s k) (clR ch l s m) := by
  intro k m h
  induction m with
  | zero => rw [show k = 0 by omega]; exact sbN.refl _
  | succ m ih =>
    rcases Nat.lt_or_ge k (m + 1) with q | q
    · exact (ih (by omega)).trans (cl1_sb _ _ _ _)
    · rw [show k = m + 1 by omega]; exact sbN.refl _
theorem clL_mono {ch : Nat → Nat → Nat} {nc s : Nat} : ∀ {k m : Nat}, k ≤ m → sbN (clL ch nc s k) (clL ch nc s m) := by
  intro k m h
  induction m with
  | zero => rw [show k = 0 by omega]; exact sbN.refl _
  | succ m ih =>
    rcases Nat.lt_or_ge k (m + 1) with q | q
    · exact (ih (by omega)).trans (clR_sb _ _ _ _)
    · rw [show k = m + 1 by omega]; exact sbN.refl _
theorem clL_has {ch : Nat → Nat → Nat} {nc s l r : Nat} (hl : l < nc) (hr : r < nc) (h1 : s.testBit l = true) (h2 : s.testBit r = true) : (clL ch nc s nc).testBit (ch l r) = true := by
  have e1 := clL_sb ch nc s l
  have e2 := clR_sb ch l (clL ch nc s l) r
  have e3 : (clR ch l (clL ch nc s l) (r + 1)).testBit (ch l r) = true := by
    show (cl1 ch (clR ch l (clL ch nc s l) r) l r).testBit (ch l r) = true
    unfold cl1
    rw [if_pos ⟨tb_iff.mpr (e2 l (e1 l h1)), tb_iff.mpr (e2 r (e1 r h2))⟩]
    exact tb_orK
  have e4 := clR_mono (ch := ch) (l := l) (s := clL ch nc s l) (show r + 1 ≤ nc by omega) _ e3
  exact clL_mono (ch := ch) (nc := nc) (s := s) (show l + 1 ≤ nc by omega) _ e4
theorem cl1_lt {ch : Nat → Nat → Nat} {nc s l r : Nat} (hch : ∀ a b, a < nc → b < nc → ch a b < nc) (hs : s < 2 ^ nc) (hl : l < nc) (hr : r < nc) : cl1 ch s l r < 2 ^ nc := by
  unfold cl1
  split
  · exact or_lt16 hs (p2_lt (hch _ _ hl hr))
  · exact hs
theorem clR_lt {ch : Nat → Nat → Nat} {nc s l : Nat} (hch : ∀ a b, a < nc → b < nc → ch a b < nc) (hs : s < 2 ^ nc) (hl : l < nc) : ∀ {k : Nat}, k ≤ nc → clR ch l s k < 2 ^ nc
  | 0, _ => hs
  | k + 1, h => cl1_lt hch (clR_lt hch hs hl (by omega)) hl (by omega)
theorem clL_lt {ch : Nat → Nat → Nat} {nc s : Nat} (hch : ∀ a b, a < nc → b < nc → ch a b < nc) (hs : s < 2 ^ nc) : ∀ {k : Nat}, k ≤ nc → clL ch nc s k < 2 ^ nc
  | 0, _ => hs
  | k + 1, h => clR_lt hch (clL_lt hch hs (by omega)) (by omega) (Nat.le_refl _)
theorem clN_lt {ch : Nat → Nat → Nat} {nc s : Nat} (hch : ∀ a b, a < nc → b < nc → ch a b < nc) (hs : s < 2 ^ nc) : ∀ k : Nat, clN ch nc s k < 2 ^ nc
  | 0 => hs
  | k + 1 => clL_lt hch (clN_lt hch hs k) (Nat.le_refl _)
theorem clL_fix {ch : Nat → Nat → Nat} {nc s : Nat} (hs : s < 2 ^ nc) (h : clL ch nc s nc = s) : clsd ch s := fun l r h1 h2 => by
  have := clL_has (ch := ch) (tb_lt hs h1) (tb_lt hs h2) h1 h2
  rwa [h] at this
theorem pc_le {nc s : Nat} (h : nc ≤ 4) (hs : s < 2 ^ nc) : pcN s ≤ nc := by
  have : ∀ nc, nc < 5 → ∀ s, s < 2 ^ nc → pcN s ≤ nc := by decide
  exact this nc (by omega) s hs
theorem pc_pos : ∀ s, s < 16 → 1 ≤ s → 1 ≤ pcN s := by decide
theorem clN_fix {ch : Nat → Nat → Nat} {nc s : Nat} (h4 : nc ≤ 4) (hch : ∀ a b, a < nc → b < nc → ch a b < nc) (hs : s < 2 ^ nc) (h1 : 1 ≤ s) : clsd ch (clN ch nc s nc) := by
  have h16 := lt16 h4
  have key : ∀ k, clsd ch (clN ch nc s k) ∨ 1 + k ≤ pcN (clN ch nc s k) := by
    intro k
    induction k with
    | zero => exact Or.inr (pc_pos s (by omega) h1)
    | succ k ih =>
      have l1 := clN_lt hch hs k
      have l2 := clN_lt hch hs (k + 1)
      rcases ih with q | q
      · left
        have e : clN ch nc s (k + 1) = clN ch nc s k := sbN.anti (clL_in q (sbN.refl _) nc) (clL_sb _ _ _ _)
        rw [e]; exact q
      · rcases Classical.em (clN ch nc s (k + 1) = clN ch nc s k) with e | e
        · left
          rw [e]
          exact clL_fix l1 e
        · right
          have e2 : clN ch nc s (k + 1) = clL ch nc (clN ch nc s k) nc := rfl
          rw [e2] at l2 e ⊢
          have := pc_mono _ (by omega) _ (by omega) (sb_or_eq (clL_sb ch nc (clN ch nc s k) nc)) (fun z => e z.symm)
          omega
  rcases key nc with q | q
  · exact q
  · have := pc_le h4 (clN_lt hch hs nc)
    omega
theorem p_hasCol {s k : Nat} {σ : zS} (hs : s < 16) (hk : k < 4) : fX5_hasColour [.int (nI s), .int (nI k)] σ = some (some (.int (nI (s / 2 ^ k % 2))), σ) := by
  have b := n_bit k hk s hs
  show kX5_hasColour_0 [some (.int (nI (s))), some (.int (nI (k)))] [] σ = _
  rcases (by omega : s / 2 ^ k % 2 = 0 ∨ s / 2 ^ k % 2 = 1) with e | e
  · rw [e] at b ⊢
    simp (disch := omega) only [kX5_hasColour_13, kX5_hasColour_0, b, e_push, e_pushl, e_iload, e_lload, e_aload, e_istore, e_astore, e_lstore, e_iinc, e_iadd, e_isub, e_imul, e_iand, e_ior, e_ixor, e_ishl, e_ishr, e_iushr, e_idiv, e_irem, e_ladd, e_lsub, e_lmul, e_lcmp, e_mmax, e_mmin, e_i2l, e_l2i, e_i2b, e_i2c, e_dup, e_dup2, e_pop, e_icmp_eq, e_icmp_ne, e_icmp_lt, e_icmp_ge, e_icmp_gt, e_icmp_le, e_if_eq, e_if_ne, e_if_lt, e_if_ge, e_if_gt, e_if_le, e_getI, e_getR, e_putI, e_putZ, e_putR, e_iald, e_bald, e_zald, e_lald, e_aald, e_alen, e_iast, e_bast, e_zast, e_last, e_aast, e_iret, e_zret, e_lret, e_vret, e_obj, e_callV, e_callS, e_callT, e_acpy, e_ldcS, e_dn, e_ag, z_pop, List.getElem?_cons_zero, List.getElem?_cons_succ, List.set_cons_zero, List.set_cons_succ, List.length_cons, List.length_nil, z_nol, Option.map_some, Option.toList_some, Option.toList_none, List.cons_append, List.nil_append, n_lit, n_m1, n_m2, n_m1lt, n_m1le, n_rem, n_div, n_out, n_cl, n_eq, n_le, n_lt, n_add, n_mul, n_sub, n_nle, n_yle, n_nlt, n_ylt, n_neN, z_lay, z_sz, z_str, z_stI, z_stL, z_stR, eq_self, ↓reduceIte, true_and, and_true, and_self, false_and, and_false, or_self, false_or, or_false, true_or, or_true, not_true_eq_false, not_false_eq_true, Nat.reduceLeDiff, Nat.reduceLT, Nat.reduceAdd, Nat.reduceEqDiff, Nat.reduceMul, Nat.reduceSub, Value.category, Nat.zero_le, beq_self_eq_true]
  · rw [e] at b ⊢
    simp (disch := omega) only [kX5_hasColour_13, kX5_hasColour_0, b, e_push, e_pushl, e_iload, e_lload, e_aload, e_istore, e_astore, e_lstore, e_iinc, e_iadd, e_isub, e_imul, e_iand, e_ior, e_ixor, e_ishl, e_ishr, e_iushr, e_idiv, e_irem, e_ladd, e_lsub, e_lmul, e_lcmp, e_mmax, e_mmin, e_i2l, e_l2i, e_i2b, e_i2c, e_dup, e_dup2, e_pop, e_icmp_eq, e_icmp_ne, e_icmp_lt, e_icmp_ge, e_icmp_gt, e_icmp_le, e_if_eq, e_if_ne, e_if_lt, e_if_ge, e_if_gt, e_if_le, e_getI, e_getR, e_putI, e_putZ, e_putR, e_iald, e_bald, e_zald, e_lald, e_aald, e_alen, e_iast, e_bast, e_zast, e_last, e_aast, e_iret, e_zret, e_lret, e_vret, e_obj, e_callV, e_callS, e_callT, e_acpy, e_ldcS, e_dn, e_ag, z_pop, List.getElem?_cons_zero, List.getElem?_cons_succ, List.set_cons_zero, List.set_cons_succ, List.length_cons, List.length_nil, z_nol, Option.map_some, Option.toList_some, Option.toList_none, List.cons_append, List.nil_append, n_lit, n_m1, n_m2, n_m1lt, n_m1le, n_rem, n_div, n_out, n_cl, n_eq, n_le, n_lt, n_add, n_mul, n_sub, n_nle, n_yle, n_nlt, n_ylt, n_neN, z_lay, z_sz, z_str, z_stI, z_stL, z_stR, eq_self, ↓reduceIte, true_and, and_true, and_self, false_and, and_false, or_self, false_or, or_false, true_or, or_true, not_true_eq_false, not_false_eq_true, Nat.reduceLeDiff, Nat.reduceLT, Nat.reduceAdd, Nat.reduceEqDiff, Nat.reduceMul, Nat.reduceSub, Value.category, Nat.zero_le, beq_self_eq_true]
theorem p_closure {I : Nat → Nat → Int32} {L : Nat → Nat → Int64} {Z : zZ} {b cb nc s : Nat} {ch : Nat → Nat → Nat} (h : isTab Z b cb) (hn : I b 0 = nI nc) (h2 : 2 ≤ nc) (h4 : nc ≤ 4) (hT : tabI I cb ch) (hch : ∀ a b, a < nc → b < nc → ch a b < nc) (hs : s < 2 ^ nc) : fX5_closureOf [.ref b, .int (nI s)] (I, L, Z) = some (some (.int (nI (clN ch nc s nc))), (I, L, Z)) := by
  have h16 := lt16 h4
  show kX5_closureOf_0 [some (.ref (b)), some (.int (nI (s))), none, none, none, none] [] (I, L, Z) = _
  simp (disch := omega) only [kX5_closureOf_0, kX5_closureOf_4, e_push, e_pushl, e_iload, e_lload, e_aload, e_istore, e_astore, e_lstore, e_iinc, e_iadd, e_isub, e_imul, e_iand, e_ior, e_ixor, e_ishl, e_ishr, e_iushr, e_idiv, e_irem, e_ladd, e_lsub, e_lmul, e_lcmp, e_mmax, e_mmin, e_i2l, e_l2i, e_i2b, e_i2c, e_dup, e_dup2, e_pop, e_icmp_eq, e_icmp_ne, e_icmp_lt, e_icmp_ge, e_icmp_gt, e_icmp_le, e_if_eq, e_if_ne, e_if_lt, e_if_ge, e_if_gt, e_if_le, e_getI, e_getR, e_putI, e_putZ, e_putR, e_iald, e_bald, e_zald, e_lald, e_aald, e_alen, e_iast, e_bast, e_zast, e_last, e_aast, e_iret, e_zret, e_lret, e_vret, e_obj, e_callV, e_callS, e_callT, e_acpy, e_ldcS, e_dn, e_ag, z_pop, List.getElem?_cons_zero, List.getElem?_cons_succ, List.set_cons_zero, List.set_cons_succ, List.length_cons, List.length_nil, z_nol, Option.map_some, Option.toList_some, Option.toList_none, List.cons_append, List.nil_append, n_lit, n_m1, n_m2, n_m1lt, n_m1le, n_rem, n_div, n_out, n_cl, n_eq, n_le, n_lt, n_add, n_mul, n_sub, n_nle, n_yle, n_nlt, n_ylt, n_neN, z_lay, z_sz, z_str, z_stI, z_stL, z_stR, eq_self, ↓reduceIte, true_and, and_true, and_self, false_and, and_false, or_self, false_or, or_false, true_or, or_true, not_true_eq_false, not_false_eq_true, Nat.reduceLeDiff, Nat.reduceLT, Nat.reduceAdd, Nat.reduceEqDiff, Nat.reduceMul, Nat.reduceSub, Value.category, Nat.zero_le, beq_self_eq_true]
  refine lp_one (fun k ls σ => ∃ x y, ls = [some (.ref (b)), some (.int (nI (s))), some (.int (nI (clN ch nc s k))), some (.int (nI (k))), x, y] ∧ σ = (I, L, Z)) nc ⟨none, none, rfl, rfl⟩ ?_ ?_
  · rintro ls σ ⟨x, y, rfl, rfl⟩
    simp (disch := omega) only [bX5_closureOf_4, kX5_closureOf_85, h.1, hn, e_push, e_pushl, e_iload, e_lload, e_aload, e_istore, e_astore, e_lstore, e_iinc, e_iadd, e_isub, e_imul, e_iand, e_ior, e_ixor, e_ishl, e_ishr, e_iushr, e_idiv, e_irem, e_ladd, e_lsub, e_lmul, e_lcmp, e_mmax, e_mmin, e_i2l, e_l2i, e_i2b, e_i2c, e_dup, e_dup2, e_pop, e_icmp_eq, e_icmp_ne, e_icmp_lt, e_icmp_ge, e_icmp_gt, e_icmp_le, e_if_eq, e_if_ne, e_if_lt, e_if_ge, e_if_gt, e_if_le, e_getI, e_getR, e_putI, e_putZ, e_putR, e_iald, e_bald, e_zald, e_lald, e_aald, e_alen, e_iast, e_bast, e_zast, e_last, e_aast, e_iret, e_zret, e_lret, e_vret, e_obj, e_callV, e_callS, e_callT, e_acpy, e_ldcS, e_dn, e_ag, z_pop, List.getElem?_cons_zero, List.getElem?_cons_succ, List.set_cons_zero, List.set_cons_succ, List.length_cons, List.length_nil, z_nol, Option.map_some, Option.toList_some, Option.toList_none, List.cons_append, List.nil_append, n_lit, n_m1, n_m2, n_m1lt, n_m1le, n_rem, n_div, n_out, n_cl, n_eq, n_le, n_lt, n_add, n_mul, n_sub, n_nle, n_yle, n_nlt, n_ylt, n_neN, z_lay, z_sz, z_str, z_stI, z_stL, z_stR, eq_self, ↓reduceIte, true_and, and_true, and_self, false_and, and_false, or_self, false_or, or_false, true_or, or_true, not_true_eq_false, not_false_eq_true, Nat.reduceLeDiff, Nat.reduceLT, Nat.reduceAdd, Nat.reduceEqDiff, Nat.reduceMul, Nat.reduceSub, Value.category, Nat.zero_le, beq_self_eq_true]
  · rintro k hk ls σ ⟨x, y, rfl, rfl⟩
    have l1 := clN_lt hch hs k
    generalize ht : clN ch nc s k = t at l1
    have e1 : bX5_closureOf_4 [some (.ref (b)), some (.int (nI (s))), some (.int (nI (t))), some (.int (nI (k))), x, y] [] (I, L, Z) = q_lp bX5_closureOf_15 [some (.ref (b)), some (.int (nI (s))), some (.int (nI (t))), some (.int (nI (k))), some (.int (nI (0))), y] [] (I, L, Z) := by
      simp (disch := omega) only [bX5_closureOf_4, kX5_closureOf_15, h.1, hn, e_push, e_pushl, e_iload, e_lload, e_aload, e_istore, e_astore, e_lstore, e_iinc, e_iadd, e_isub, e_imul, e_iand, e_ior, e_ixor, e_ishl, e_ishr, e_iushr, e_idiv, e_irem, e_ladd, e_lsub, e_lmul, e_lcmp, e_mmax, e_mmin, e_i2l, e_l2i, e_i2b, e_i2c, e_dup, e_dup2, e_pop, e_icmp_eq, e_icmp_ne, e_icmp_lt, e_icmp_ge, e_icmp_gt, e_icmp_le, e_if_eq, e_if_ne, e_if_lt, e_if_ge, e_if_gt, e_if_le, e_getI, e_getR, e_putI, e_putZ, e_putR, e_iald, e_bald, e_zald, e_lald, e_aald, e_alen, e_iast, e_bast, e_zast, e_last, e_aast, e_iret, e_zret, e_lret, e_vret, e_obj, e_callV, e_callS, e_callT, e_acpy, e_ldcS, e_dn, e_ag, z_pop, List.getElem?_cons_zero, List.getElem?_cons_succ, List.set_cons_zero, List.set_cons_succ, List.length_cons, List.length_nil, z_nol, Option.map_some, Option.toList_some, Option.toList_none, List.cons_append, List.nil_append, n_lit, n_m1, n_m2, n_m1lt, n_m1le, n_rem, n_div, n_out, n_cl, n_eq, n_le, n_lt, n_add, n_mul, n_sub, n_nle, n_yle, n_nlt, n_ylt, n_neN, z_lay, z_sz, z_str, z_stI, z_stL, z_stR, eq_self, ↓reduceIte, true_and, and_true, and_self, false_and, and_false, or_self, false_or, or_false, true_or, or_true, not_true_eq_false, not_false_eq_true, Nat.reduceLeDiff, Nat.reduceLT, Nat.reduceAdd, Nat.reduceEqDiff, Nat.reduceMul, Nat.reduceSub, Value.category, Nat.zero_le, beq_self_eq_true]
    refine ⟨[some (.ref (b)), some (.int (nI (s))), some (.int (nI (clN ch nc s (k + 1)))), some (.int (nI (k + 1))), some (.int (nI (nc))), some (.int (nI (nc)))], (I, L, Z), ?_, _, _, rfl, rfl⟩
    rw [e1]
    refine lp_one (fun l ls σ => ls = [some (.ref (b)), some (.int (nI (s))), some (.int (nI (clL ch nc t l))), some (.int (nI (k))), some (.int (nI (l))), (if l = 0 then y else some (.int (nI nc)))] ∧ σ = (I, L, Z)) nc ⟨by rw [if_pos rfl]; rfl, rfl⟩ ?_ ?_
    · rintro ls σ ⟨rfl, rfl⟩
      have e2 : clN ch nc s (k + 1) = clL ch nc t nc := by rw [← ht]; rfl
      rw [if_neg (by omega), e2]
      simp (disch := omega) only [bX5_closureOf_15, kX5_closureOf_79, h.1, hn, e_push, e_pushl, e_iload, e_lload, e_aload, e_istore, e_astore, e_lstore, e_iinc, e_iadd, e_isub, e_imul, e_iand, e_ior, e_ixor, e_ishl, e_ishr, e_iushr, e_idiv, e_irem, e_ladd, e_lsub, e_lmul, e_lcmp, e_mmax, e_mmin, e_i2l, e_l2i, e_i2b, e_i2c, e_dup, e_dup2, e_pop, e_icmp_eq, e_icmp_ne, e_icmp_lt, e_icmp_ge, e_icmp_gt, e_icmp_le, e_if_eq, e_if_ne, e_if_lt, e_if_ge, e_if_gt, e_if_le, e_getI, e_getR, e_putI, e_putZ, e_putR, e_iald, e_bald, e_zald, e_lald, e_aald, e_alen, e_iast, e_bast, e_zast, e_last, e_aast, e_iret, e_zret, e_lret, e_vret, e_obj, e_callV, e_callS, e_callT, e_acpy, e_ldcS, e_dn, e_ag, z_pop, List.getElem?_cons_zero, List.getElem?_cons_succ, List.set_cons_zero, List.set_cons_succ, List.length_cons, List.length_nil, z_nol, Option.map_some, Option.toList_some, Option.toList_none, List.cons_append, List.nil_append, n_lit, n_m1, n_m2, n_m1lt, n_m1le, n_rem, n_div, n_out, n_cl, n_eq, n_le, n_lt, n_add, n_mul, n_sub, n_nle, n_yle, n_nlt, n_ylt, n_neN, z_lay, z_sz, z_str, z_stI, z_stL, z_stR, eq_self, ↓reduceIte, true_and, and_true, and_self, false_and, and_false, or_self, false_or, or_false, true_or, or_true, not_true_eq_false, not_false_eq_true, Nat.reduceLeDiff, Nat.reduceLT, Nat.reduceAdd, Nat.reduceEqDiff, Nat.reduceMul, Nat.reduceSub, Value.category, Nat.zero_le, beq_self_eq_true]
    · rintro l hl ls σ ⟨rfl, rfl⟩
      have l2 := clL_lt hch l1 (k := l) (by omega)
      generalize (if l = 0 then y else some (Value.int (nI nc))) = y'
      have e3 : bX5_closureOf_15 [some (.ref (b)), some (.int (nI (s))), some (.int (nI (clL ch nc t l))), some (.int (nI (k))), some (.int (nI (l))), y'] [] (I, L, Z) = q_lp bX5_closureOf_27 [some (.ref (b)), some (.int (nI (s))), some (.int (nI (clL ch nc t l))), some (.int (nI (k))), some (.int (nI (l))), some (.int (nI (0)))] [] (I, L, Z) := by
        simp (disch := omega) only [bX5_closureOf_15, kX5_closureOf_27, h.1, hn, e_push, e_pushl, e_iload, e_lload, e_aload, e_istore, e_astore, e_lstore, e_iinc, e_iadd, e_isub, e_imul, e_iand, e_ior, e_ixor, e_ishl, e_ishr, e_iushr, e_idiv, e_irem, e_ladd, e_lsub, e_lmul, e_lcmp, e_mmax, e_mmin, e_i2l, e_l2i, e_i2b, e_i2c, e_dup, e_dup2, e_pop, e_icmp_eq, e_icmp_ne, e_icmp_lt, e_icmp_ge, e_icmp_gt, e_icmp_le, e_if_eq, e_if_ne, e_if_lt, e_if_ge, e_if_gt, e_if_le, e_getI, e_getR, e_putI, e_putZ, e_putR, e_iald, e_bald, e_zald, e_lald, e_aald, e_alen, e_iast, e_bast, e_zast, e_last, e_aast, e_iret, e_zret, e_lret, e_vret, e_obj, e_callV, e_callS, e_callT, e_acpy, e_ldcS, e_dn, e_ag, z_pop, List.getElem?_cons_zero, List.getElem?_cons_succ, List.set_cons_zero, List.set_cons_succ, List.length_cons, List.length_nil, z_nol, Option.map_some, Option.toList_some, Option.toList_none, List.cons_append, List.nil_append, n_lit, n_m1, n_m2, n_m1lt, n_m1le, n_rem, n_div, n_out, n_cl, n_eq, n_le, n_lt, n_add, n_mul, n_sub, n_nle, n_yle, n_nlt, n_ylt, n_neN, z_lay, z_sz, z_str, z_stI, z_stL, z_stR, eq_self, ↓reduceIte, true_and, and_true, and_self, false_and, and_false, or_self, false_or, or_false, true_or, or_true, not_true_eq_false, not_false_eq_true, Nat.reduceLeDiff, Nat.reduceLT, Nat.reduceAdd, Nat.reduceEqDiff, Nat.reduceMul, Nat.reduceSub, Value.category, Nat.zero_le, beq_self_eq_true]
      refine ⟨[some (.ref (b)), some (.int (nI (s))), some (.int (nI (clL ch nc t (l + 1)))), some (.int (nI (k))), some (.int (nI (l + 1))), some (.int (nI (nc)))], (I, L, Z), ?_, by rw [if_neg (by omega)], rfl⟩
      rw [e3]
      refine lp_for (fun r => [some (.ref (b)), some (.int (nI (s))), some (.int (nI (clR ch l (clL ch nc t l) r))), some (.int (nI (k))), some (.int (nI (l))), some (.int (nI (r)))]) (fun _ => (I, L, Z)) nc ?_ ?_
      · have e4 : clL ch nc t (l + 1) = clR ch l (clL ch nc t l) nc := rfl
        rw [e4]
        simp (disch := omega) only [bX5_closureOf_27, kX5_closureOf_73, h.1, hn, e_push, e_pushl, e_iload, e_lload, e_aload, e_istore, e_astore, e_lstore, e_iinc, e_iadd, e_isub, e_imul, e_iand, e_ior, e_ixor, e_ishl, e_ishr, e_iushr, e_idiv, e_irem, e_ladd, e_lsub, e_lmul, e_lcmp, e_mmax, e_mmin, e_i2l, e_l2i, e_i2b, e_i2c, e_dup, e_dup2, e_pop, e_icmp_eq, e_icmp_ne, e_icmp_lt, e_icmp_ge, e_icmp_gt, e_icmp_le, e_if_eq, e_if_ne, e_if_lt, e_if_ge, e_if_gt, e_if_le, e_getI, e_getR, e_putI, e_putZ, e_putR, e_iald, e_bald, e_zald, e_lald, e_aald, e_alen, e_iast, e_bast, e_zast, e_last, e_aast, e_iret, e_zret, e_lret, e_vret, e_obj, e_callV, e_callS, e_callT, e_acpy, e_ldcS, e_dn, e_ag, z_pop, List.getElem?_cons_zero, List.getElem?_cons_succ, List.set_cons_zero, List.set_cons_succ, List.length_cons, List.length_nil, z_nol, Option.map_some, Option.toList_some, Option.toList_none, List.cons_append, List.nil_append, n_lit, n_m1, n_m2, n_m1lt, n_m1le, n_rem, n_div, n_out, n_cl, n_eq, n_le, n_lt, n_add, n_mul, n_sub, n_nle, n_yle, n_nlt, n_ylt, n_neN, z_lay, z_sz, z_str, z_stI, z_stL, z_stR, eq_self, ↓reduceIte, true_and, and_true, and_self, false_and, and_false, or_self, false_or, or_false, true_or, or_true, not_true_eq_false, not_false_eq_true, Nat.reduceLeDiff, Nat.reduceLT, Nat.reduceAdd, Nat.reduceEqDiff, Nat.reduceMul, Nat.reduceSub, Value.category, Nat.zero_le, beq_self_eq_true]
      · intro r hr
        have l3 := clR_lt (l := l) hch l2 hl (k := r) (by omega)
        have e5 : clR ch l (clL ch nc t l) (r + 1) = cl1 ch (clR ch l (clL ch nc t l) r) l r := rfl
        rw [e5]
        generalize clR ch l (clL ch nc t l) r = u at l3
        have c1 := p_hasCol (σ := (I, L, Z)) (s := u) (k := l) (by omega) (by omega)
        have c2 := p_hasCol (σ := (I, L, Z)) (s := u) (k := r) (by omega) (by omega)
        have c3 := p_childOf (I := I) (L := L) (x := l) (y := r) h hT (by omega) (by omega)
        have g3 := hch l r hl hr
        rcases (by omega : u / 2 ^ l % 2 = 0 ∨ u / 2 ^ l % 2 = 1) with q1 | q1
        · rw [q1] at c1
          have e6 : cl1 ch u l r = u := if_neg (by omega)
          rw [e6]
          simp (disch := omega) only [bX5_closureOf_27, kX5_closureOf_67, h.1, hn, c1, e_push, e_pushl, e_iload, e_lload, e_aload, e_istore, e_astore, e_lstore, e_iinc, e_iadd, e_isub, e_imul, e_iand, e_ior, e_ixor, e_ishl, e_ishr, e_iushr, e_idiv, e_irem, e_ladd, e_lsub, e_lmul, e_lcmp, e_mmax, e_mmin, e_i2l, e_l2i, e_i2b, e_i2c, e_dup, e_dup2, e_pop, e_icmp_eq, e_icmp_ne, e_icmp_lt, e_icmp_ge, e_icmp_gt, e_icmp_le, e_if_eq, e_if_ne, e_if_lt, e_if_ge, e_if_gt, e_if_le, e_getI, e_getR, e_putI, e_putZ, e_putR, e_iald, e_bald, e_zald, e_lald, e_aald, e_alen, e_iast, e_bast, e_zast, e_last, e_aast, e_iret, e_zret, e_lret, e_vret, e_obj, e_callV, e_callS, e_callT, e_acpy, e_ldcS, e_dn, e_ag, z_pop, List.getElem?_cons_zero, List.getElem?_cons_succ, List.set_cons_zero, List.set_cons_succ, List.length_cons, List.length_nil, z_nol, Option.map_some, Option.toList_some, Option.toList_none, List.cons_append, List.nil_append, n_lit, n_m1, n_m2, n_m1lt, n_m1le, n_rem, n_div, n_out, n_cl, n_eq, n_le, n_lt, n_add, n_mul, n_sub, n_nle, n_yle, n_nlt, n_ylt, n_neN, z_lay, z_sz, z_str, z_stI, z_stL, z_stR, eq_self, ↓reduceIte, true_and, and_true, and_self, false_and, and_false, or_self, false_or, or_false, true_or, or_true, not_true_eq_false, not_false_eq_true, Nat.reduceLeDiff, Nat.reduceLT, Nat.reduceAdd, Nat.reduceEqDiff, Nat.reduceMul, Nat.reduceSub, Value.category, Nat.zero_le, beq_self_eq_true]
        · rw [q1] at c1
          rcases (by omega : u / 2 ^ r % 2 = 0 ∨ u / 2 ^ r % 2 = 1) with q2 | q2
          · rw [q2] at c2
            have e6 : cl1 ch u l r = u := if_neg (by omega)
            rw [e6]
            simp (disch := omega) only [bX5_closureOf_27, kX5_closureOf_67, h.1, hn, c1, c2, e_push, e_pushl, e_iload, e_lload, e_aload, e_istore, e_astore, e_lstore, e_iinc, e_iadd, e_isub, e_imul, e_iand, e_ior, e_ixor, e_ishl, e_ishr, e_iushr, e_idiv, e_irem, e_ladd, e_lsub, e_lmul, e_lcmp, e_mmax, e_mmin, e_i2l, e_l2i, e_i2b, e_i2c, e_dup, e_dup2, e_pop, e_icmp_eq, e_icmp_ne, e_icmp_lt, e_icmp_ge, e_icmp_gt, e_icmp_le, e_if_eq, e_if_ne, e_if_lt, e_if_ge, e_if_gt, e_if_le, e_getI, e_getR, e_putI, e_putZ, e_putR, e_iald, e_bald, e_zald, e_lald, e_aald, e_alen, e_iast, e_bast, e_zast, e_last, e_aast, e_iret, e_zret, e_lret, e_vret, e_obj, e_callV, e_callS, e_callT, e_acpy, e_ldcS, e_dn, e_ag, z_pop, List.getElem?_cons_zero, List.getElem?_cons_succ, List.set_cons_zero, List.set_cons_succ, List.length_cons, List.length_nil, z_nol, Option.map_some, Option.toList_some, Option.toList_none, List.cons_append, List.nil_append, n_lit, n_m1, n_m2, n_m1lt, n_m1le, n_rem, n_div, n_out, n_cl, n_eq, n_le, n_lt, n_add, n_mul, n_sub, n_nle, n_yle, n_nlt, n_ylt, n_neN, z_lay, z_sz, z_str, z_stI, z_stL, z_stR, eq_self, ↓reduceIte, true_and, and_true, and_self, false_and, and_false, or_self, false_or, or_false, true_or, or_true, not_true_eq_false, not_false_eq_true, Nat.reduceLeDiff, Nat.reduceLT, Nat.reduceAdd, Nat.reduceEqDiff, Nat.reduceMul, Nat.reduceSub, Value.category, Nat.zero_le, beq_self_eq_true]
          · rw [q2] at c2
            have e6 : cl1 ch u l r = u ||| 2 ^ ch l r := if_pos ⟨q1, q2⟩
            rw [e6]
            simp (disch := omega) only [bX5_closureOf_27, kX5_closureOf_67, h.1, hn, c1, c2, c3, n_shl, n_or, e_push, e_pushl, e_iload, e_lload, e_aload, e_istore, e_astore, e_lstore, e_iinc, e_iadd, e_isub, e_imul, e_iand, e_ior, e_ixor, e_ishl, e_ishr, e_iushr, e_idiv, e_irem, e_ladd, e_lsub, e_lmul, e_lcmp, e_mmax, e_mmin, e_i2l, e_l2i, e_i2b, e_i2c, e_dup, e_dup2, e_pop, e_icmp_eq, e_icmp_ne, e_icmp_lt, e_icmp_ge, e_icmp_gt, e_icmp_le, e_if_eq, e_if_ne, e_if_lt, e_if_ge, e_if_gt, e_if_le, e_getI, e_getR, e_putI, e_putZ, e_putR, e_iald, e_bald, e_zald, e_lald, e_aald, e_alen, e_iast, e_bast, e_zast, e_last, e_aast, e_iret, e_zret, e_lret, e_vret, e_obj, e_callV, e_callS, e_callT, e_acpy, e_ldcS, e_dn, e_ag, z_pop, List.getElem?_cons_zero, List.getElem?_cons_succ, List.set_cons_zero, List.set_cons_succ, List.length_cons, List.length_nil, z_nol, Option.map_some, Option.toList_some, Option.toList_none, List.cons_append, List.nil_append, n_lit, n_m1, n_m2, n_m1lt, n_m1le, n_rem, n_div, n_out, n_cl, n_eq, n_le, n_lt, n_add, n_mul, n_sub, n_nle, n_yle, n_nlt, n_ylt, n_neN, z_lay, z_sz, z_str, z_stI, z_stL, z_stR, eq_self, ↓reduceIte, true_and, and_true, and_self, false_and, and_false, or_self, false_or, or_false, true_or, or_true, not_true_eq_false, not_false_eq_true, Nat.reduceLeDiff, Nat.reduceLT, Nat.reduceAdd, Nat.reduceEqDiff, Nat.reduceMul, Nat.reduceSub, Value.category, Nat.zero_le, beq_self_eq_true]
/-! the reference -/
theorem n_bit2 : ∀ a, a < 4 → ∀ b, b < 4 → ∀ s, s < 16 → (nI s >>> (nI a &&& nI 31)) &&& (nI s >>> (nI b &&& nI 31)) &&& nI 1 = nI (s / 2 ^ a % 2 * (s / 2 ^ b % 2)) := by decide
def rfK (ch : Nat → Nat → Nat) (w : Nat) : Nat → Nat
  | 0 => w
  | k + 1 => if w / 2 ^ (k / 4) % 2 * (w / 2 ^ (k % 4) % 2) = 1 then rfK ch w k ||| 2 ^ ch (k / 4) (k % 4) else rfK ch w k
theorem rfK_sb (ch : Nat → Nat → Nat) (w : Nat) : ∀ k, sbN w (rfK ch w k)
  | 0 => sbN.refl w
  | k + 1 => by
    rw [rfK]
    split
    · exact (rfK_sb ch w k).trans sb_or
    · exact rfK_sb ch w k
theorem bb_iff {w a b : Nat} : w / 2 ^ a % 2 * (w / 2 ^ b % 2) = 1 ↔ w.testBit a = true ∧ w.testBit b = true := by
  rw [← tb_iff, ← tb_iff]
  rcases (by omega : w / 2 ^ a % 2 = 0 ∨ w / 2 ^ a % 2 = 1) with q | q <;> rcases (by omega : w / 2 ^ b % 2 = 0 ∨ w / 2 ^ b % 2 = 1) with q2 | q2 <;> simp [q, q2]
theorem rfK_in {ch : Nat → Nat → Nat} {w t : Nat} (ht : clsd ch t) (h : sbN w t) : ∀ k, sbN (rfK ch w k) t
  | 0 => h
  | k + 1 => by
    rw [rfK]
    split
    · rename_i q
      have q := bb_iff.mp q
      exact sb_orT (rfK_in ht h k) (ht _ _ (h _ q.1) (h _ q.2))
    · exact rfK_in ht h k
theorem rfK_mono {ch : Nat → Nat → Nat} {w : Nat} : ∀ {k m : Nat}, k ≤ m → sbN (rfK ch w k) (rfK ch w m) := by
  intro k m h
  induction m with
  | zero => rw [show k = 0 by omega]; exact sbN.refl _
  | succ m ih =>
    rcases Nat.lt_or_ge k (m + 1) with q | q
    · refine (ih (by omega)).trans ?_
      rw [rfK]
      split
      · exact sb_or
      · exact sbN.refl _
    · rw [show k = m + 1 by omega]; exact sbN.refl _
theorem rfK_fix {ch : Nat → Nat → Nat} {nc w : Nat} (h4 : nc ≤ 4) (hw : w < 2 ^ nc) (h : rfK ch w 16 = w) : clsd ch w := fun l r h1 h2 => by
  have a1 := tb_lt hw h1
  have a2 := tb_lt hw h2
  have e : (rfK ch w (l * 4 + r + 1)).testBit (ch l r) = true := by
    rw [rfK, show (l * 4 + r) / 4 = l by omega, show (l * 4 + r) % 4 = r by omega, if_pos (bb_iff.mpr ⟨h1, h2⟩)]
    exact tb_orK
  have := rfK_mono (ch := ch) (w := w) (show l * 4 + r + 1 ≤ 16 by omega) _ e
  rwa [h] at this
theorem rfK_lt {ch : Nat → Nat → Nat} {nc w : Nat} (hch : ∀ a b, a < nc → b < nc → ch a b < nc) (hw : w < 2 ^ nc) : ∀ k, rfK ch w k < 2 ^ nc
  | 0 => hw
  | k + 1 => by
    rw [rfK]
    split
    · rename_i q
      have q := bb_iff.mp q
      exact or_lt16 (rfK_lt hch hw k) (p2_lt (hch _ _ (tb_lt hw q.1) (tb_lt hw q.2)))
    · exact rfK_lt hch hw k
theorem r_shut_lp {I : Nat → Nat → Int32} {L : Nat → Nat → Int64} {Z : zZ} {M lv nc x : Nat} {ch : Nat → Nat → Nat} (h : isMod Z M) (hT : refTab I M lv nc ch) (hch : ∀ a b, a < nc → b < nc → ch a b < nc) : ∀ m s w (y : Option Value), 16 - s = m → s < 2 ^ nc → w < 16 → (w ≠ s ∨ clsd ch s) → ∃ C, q_lp bX12_shut_22 [some (.ref (M)), some (.int (nI (x))), some (.int (nI (s))), some (.int (nI (w))), y] [] (I, L, Z) = some (some (.int (nI C)), (I, L, Z)) ∧ sbN s C ∧ clsd ch C ∧ ∀ t, clsd ch t → sbN s t → sbN C t := by
  have h4 := hT.2.2.2.2.1
  have h16 := lt16 h4
  intro m
  induction m using Nat.strongRecOn with
  | _ m ih =>
    intro s w y hm hs hw hc
    by_cases q : s = w
    · refine ⟨s, ?_, sbN.refl s, hc.resolve_left (fun z => z q.symm), fun t _ h => h⟩
      rw [q_lp_eq]
      have e1 : bX12_shut_22 [some (.ref (M)), some (.int (nI (x))), some (.int (nI (s))), some (.int (nI (w))), y] [] (I, L, Z) = some (.inr (some (.int (nI s)), (I, L, Z))) := by
        simp (disch := omega) only [bX12_shut_22, kX12_shut_84, q, e_push, e_pushl, e_iload, e_lload, e_aload, e_istore, e_astore, e_lstore, e_iinc, e_iadd, e_isub, e_imul, e_iand, e_ior, e_ixor, e_ishl, e_ishr, e_iushr, e_idiv, e_irem, e_ladd, e_lsub, e_lmul, e_lcmp, e_mmax, e_mmin, e_i2l, e_l2i, e_i2b, e_i2c, e_dup, e_dup2, e_pop, e_icmp_eq, e_icmp_ne, e_icmp_lt, e_icmp_ge, e_icmp_gt, e_icmp_le, e_if_eq, e_if_ne, e_if_lt, e_if_ge, e_if_gt, e_if_le, e_getI, e_getR, e_putI, e_putZ, e_putR, e_iald, e_bald, e_zald, e_lald, e_aald, e_alen, e_iast, e_bast, e_zast, e_last, e_aast, e_iret, e_zret, e_lret, e_vret, e_obj, e_callV, e_callS, e_callT, e_acpy, e_ldcS, e_dn, e_ag, z_pop, List.getElem?_cons_zero, List.getElem?_cons_succ, List.set_cons_zero, List.set_cons_succ, List.length_cons, List.length_nil, z_nol, Option.map_some, Option.toList_some, Option.toList_none, List.cons_append, List.nil_append, n_lit, n_m1, n_m2, n_m1lt, n_m1le, n_rem, n_div, n_out, n_cl, n_eq, n_le, n_lt, n_add, n_mul, n_sub, n_nle, n_yle, n_nlt, n_ylt, n_neN, z_lay, z_sz, z_str, z_stI, z_stL, z_stR, eq_self, ↓reduceIte, true_and, and_true, and_self, false_and, and_false, or_self, false_or, or_false, true_or, or_true, not_true_eq_false, not_false_eq_true, Nat.reduceLeDiff, Nat.reduceLT, Nat.reduceAdd, Nat.reduceEqDiff, Nat.reduceMul, Nat.reduceSub, Value.category, Nat.zero_le, beq_self_eq_true]
      rw [e1]
    · have e1 : bX12_shut_22 [some (.ref (M)), some (.int (nI (x))), some (.int (nI (s))), some (.int (nI (w))), y] [] (I, L, Z) = q_lp bX12_shut_32 [some (.ref (M)), some (.int (nI (x))), some (.int (nI (s))), some (.int (nI (s))), some (.int (nI (0)))] [] (I, L, Z) := by
        simp (disch := omega) only [bX12_shut_22, kX12_shut_32, q, e_push, e_pushl, e_iload, e_lload, e_aload, e_istore, e_astore, e_lstore, e_iinc, e_iadd, e_isub, e_imul, e_iand, e_ior, e_ixor, e_ishl, e_ishr, e_iushr, e_idiv, e_irem, e_ladd, e_lsub, e_lmul, e_lcmp, e_mmax, e_mmin, e_i2l, e_l2i, e_i2b, e_i2c, e_dup, e_dup2, e_pop, e_icmp_eq, e_icmp_ne, e_icmp_lt, e_icmp_ge, e_icmp_gt, e_icmp_le, e_if_eq, e_if_ne, e_if_lt, e_if_ge, e_if_gt, e_if_le, e_getI, e_getR, e_putI, e_putZ, e_putR, e_iald, e_bald, e_zald, e_lald, e_aald, e_alen, e_iast, e_bast, e_zast, e_last, e_aast, e_iret, e_zret, e_lret, e_vret, e_obj, e_callV, e_callS, e_callT, e_acpy, e_ldcS, e_dn, e_ag, z_pop, List.getElem?_cons_zero, List.getElem?_cons_succ, List.set_cons_zero, List.set_cons_succ, List.length_cons, List.length_nil, z_nol, Option.map_some, Option.toList_some, Option.toList_none, List.cons_append, List.nil_append, n_lit, n_m1, n_m2, n_m1lt, n_m1le, n_rem, n_div, n_out, n_cl, n_eq, n_le, n_lt, n_add, n_mul, n_sub, n_nle, n_yle, n_nlt, n_ylt, n_neN, z_lay, z_sz, z_str, z_stI, z_stL, z_stR, eq_self, ↓reduceIte, true_and, and_true, and_self, false_and, and_false, or_self, false_or, or_false, true_or, or_true, not_true_eq_false, not_false_eq_true, Nat.reduceLeDiff, Nat.reduceLT, Nat.reduceAdd, Nat.reduceEqDiff, Nat.reduceMul, Nat.reduceSub, Value.category, Nat.zero_le, beq_self_eq_true]
      have e2 : q_lp bX12_shut_32 [some (.ref (M)), some (.int (nI (x))), some (.int (nI (s))), some (.int (nI (s))), some (.int (nI (0)))] [] (I, L, Z) = some (.inl ([some (.ref (M)), some (.int (nI (x))), some (.int (nI (rfK ch s 16))), some (.int (nI (s))), some (.int (nI (16)))], (I, L, Z))) := by
        refine lp_for (fun k => [some (.ref (M)), some (.int (nI (x))), some (.int (nI (rfK ch s k))), some (.int (nI (s))), some (.int (nI (k)))]) (fun _ => (I, L, Z)) 16 ?_ ?_
        · simp (disch := omega) only [bX12_shut_32, kX12_shut_81, e_push, e_pushl, e_iload, e_lload, e_aload, e_istore, e_astore, e_lstore, e_iinc, e_iadd, e_isub, e_imul, e_iand, e_ior, e_ixor, e_ishl, e_ishr, e_iushr, e_idiv, e_irem, e_ladd, e_lsub, e_lmul, e_lcmp, e_mmax, e_mmin, e_i2l, e_l2i, e_i2b, e_i2c, e_dup, e_dup2, e_pop, e_icmp_eq, e_icmp_ne, e_icmp_lt, e_icmp_ge, e_icmp_gt, e_icmp_le, e_if_eq, e_if_ne, e_if_lt, e_if_ge, e_if_gt, e_if_le, e_getI, e_getR, e_putI, e_putZ, e_putR, e_iald, e_bald, e_zald, e_lald, e_aald, e_alen, e_iast, e_bast, e_zast, e_last, e_aast, e_iret, e_zret, e_lret, e_vret, e_obj, e_callV, e_callS, e_callT, e_acpy, e_ldcS, e_dn, e_ag, z_pop, List.getElem?_cons_zero, List.getElem?_cons_succ, List.set_cons_zero, List.set_cons_succ, List.length_cons, List.length_nil, z_nol, Option.map_some, Option.toList_some, Option.toList_none, List.cons_append, List.nil_append, n_lit, n_m1, n_m2, n_m1lt, n_m1le, n_rem, n_div, n_out, n_cl, n_eq, n_le, n_lt, n_add, n_mul, n_sub, n_nle, n_yle, n_nlt, n_ylt, n_neN, z_lay, z_sz, z_str, z_stI, z_stL, z_stR, eq_self, ↓reduceIte, true_and, and_true, and_self, false_and, and_false, or_self, false_or, or_false, true_or, or_true, not_true_eq_false, not_false_eq_true, Nat.reduceLeDiff, Nat.reduceLT, Nat.reduceAdd, Nat.reduceEqDiff, Nat.reduceMul, Nat.reduceSub, Value.category, Nat.zero_le, beq_self_eq_true]
        · intro k hk
          have b := n_bit2 (k / 4) (by omega) (k % 4) (by omega) s (by omega)
          have c3 := r_childOf (I := I) (L := L) (a := k / 4) (b := k % 4) h hT (by omega) (by omega)
          have l3 := rfK_lt hch hs k
          have t3 := (hT.2.2.2.2.2 (k / 4) (k % 4) (by omega) (by omega)).1
          have e5 : rfK ch s (k + 1) = if s / 2 ^ (k / 4) % 2 * (s / 2 ^ (k % 4) % 2) = 1 then rfK ch s k ||| 2 ^ ch (k / 4) (k % 4) else rfK ch s k := rfl
          have b1 : s / 2 ^ (k / 4) % 2 * (s / 2 ^ (k % 4) % 2) = 0 ∨ s / 2 ^ (k / 4) % 2 * (s / 2 ^ (k % 4) % 2) = 1 := by
            rcases (by omega : s / 2 ^ (k / 4) % 2 = 0 ∨ s / 2 ^ (k / 4) % 2 = 1) with q | q <;> rcases (by omega : s / 2 ^ (k % 4) % 2 = 0 ∨ s / 2 ^ (k % 4) % 2 = 1) with q2 | q2 <;> simp [q, q2]
          rcases b1 with q1 | q1
          · rw [q1] at b
            rw [e5, if_neg (by omega)]
            simp (disch := omega) only [bX12_shut_32, kX12_shut_75, b, e_push, e_pushl, e_iload, e_lload, e_aload, e_istore, e_astore, e_lstore, e_iinc, e_iadd, e_isub, e_imul, e_iand, e_ior, e_ixor, e_ishl, e_ishr, e_iushr, e_idiv, e_irem, e_ladd, e_lsub, e_lmul, e_lcmp, e_mmax, e_mmin, e_i2l, e_l2i, e_i2b, e_i2c, e_dup, e_dup2, e_pop, e_icmp_eq, e_icmp_ne, e_icmp_lt, e_icmp_ge, e_icmp_gt, e_icmp_le, e_if_eq, e_if_ne, e_if_lt, e_if_ge, e_if_gt, e_if_le, e_getI, e_getR, e_putI, e_putZ, e_putR, e_iald, e_bald, e_zald, e_lald, e_aald, e_alen, e_iast, e_bast, e_zast, e_last, e_aast, e_iret, e_zret, e_lret, e_vret, e_obj, e_callV, e_callS, e_callT, e_acpy, e_ldcS, e_dn, e_ag, z_pop, List.getElem?_cons_zero, List.getElem?_cons_succ, List.set_cons_zero, List.set_cons_succ, List.length_cons, List.length_nil, z_nol, Option.map_some, Option.toList_some, Option.toList_none, List.cons_append, List.nil_append, n_lit, n_m1, n_m2, n_m1lt, n_m1le, n_rem, n_div, n_out, n_cl, n_eq, n_le, n_lt, n_add, n_mul, n_sub, n_nle, n_yle, n_nlt, n_ylt, n_neN, z_lay, z_sz, z_str, z_stI, z_stL, z_stR, eq_self, ↓reduceIte, true_and, and_true, and_self, false_and, and_false, or_self, false_or, or_false, true_or, or_true, not_true_eq_false, not_false_eq_true, Nat.reduceLeDiff, Nat.reduceLT, Nat.reduceAdd, Nat.reduceEqDiff, Nat.reduceMul, Nat.reduceSub, Value.category, Nat.zero_le, beq_self_eq_true]
          · rw [q1] at b
            rw [e5, if_pos q1]
            simp (disch := omega) only [bX12_shut_32, kX12_shut_75, h.1, b, c3, n_shl, n_or, e_push, e_pushl, e_iload, e_lload, e_aload, e_istore, e_astore, e_lstore, e_iinc, e_iadd, e_isub, e_imul, e_iand, e_ior, e_ixor, e_ishl, e_ishr, e_iushr, e_idiv, e_irem, e_ladd, e_lsub, e_lmul, e_lcmp, e_mmax, e_mmin, e_i2l, e_l2i, e_i2b, e_i2c, e_dup, e_dup2, e_pop, e_icmp_eq, e_icmp_ne, e_icmp_lt, e_icmp_ge, e_icmp_gt, e_icmp_le, e_if_eq, e_if_ne, e_if_lt, e_if_ge, e_if_gt, e_if_le, e_getI, e_getR, e_putI, e_putZ, e_putR, e_iald, e_bald, e_zald, e_lald, e_aald, e_alen, e_iast, e_bast, e_zast, e_last, e_aast, e_iret, e_zret, e_lret, e_vret, e_obj, e_callV, e_callS, e_callT, e_acpy, e_ldcS, e_dn, e_ag, z_pop, List.getElem?_cons_zero, List.getElem?_cons_succ, List.set_cons_zero, List.set_cons_succ, List.length_cons, List.length_nil, z_nol, Option.map_some, Option.toList_some, Option.toList_none, List.cons_append, List.nil_append, n_lit, n_m1, n_m2, n_m1lt, n_m1le, n_rem, n_div, n_out, n_cl, n_eq, n_le, n_lt, n_add, n_mul, n_sub, n_nle, n_yle, n_nlt, n_ylt, n_neN, z_lay, z_sz, z_str, z_stI, z_stL, z_stR, eq_self, ↓reduceIte, true_and, and_true, and_self, false_and, and_false, or_self, false_or, or_false, true_or, or_true, not_true_eq_false, not_false_eq_true, Nat.reduceLeDiff, Nat.reduceLT, Nat.reduceAdd, Nat.reduceEqDiff, Nat.reduceMul, Nat.reduceSub, Value.category, Nat.zero_le, beq_self_eq_true]
      have l4 := rfK_lt hch hs 16
      have sb := rfK_sb ch s 16
      by_cases q2 : rfK ch s 16 = s
      · have cs := rfK_fix h4 hs q2
        refine ⟨s, ?_, sbN.refl s, cs, fun t _ h => h⟩
        have e3 : q_lp bX12_shut_22 [some (.ref (M)), some (.int (nI (x))), some (.int (nI (s))), some (.int (nI (s))), some (.int (nI (16)))] [] (I, L, Z) = some (some (.int (nI s)), (I, L, Z)) := by
          have e4 : bX12_shut_22 [some (.ref (M)), some (.int (nI (x))), some (.int (nI (s))), some (.int (nI (s))), some (.int (nI (16)))] [] (I, L, Z) = some (.inr (some (.int (nI s)), (I, L, Z))) := by
            simp (disch := omega) only [bX12_shut_22, kX12_shut_84, e_push, e_pushl, e_iload, e_lload, e_aload, e_istore, e_astore, e_lstore, e_iinc, e_iadd, e_isub, e_imul, e_iand, e_ior, e_ixor, e_ishl, e_ishr, e_iushr, e_idiv, e_irem, e_ladd, e_lsub, e_lmul, e_lcmp, e_mmax, e_mmin, e_i2l, e_l2i, e_i2b, e_i2c, e_dup, e_dup2, e_pop, e_icmp_eq, e_icmp_ne, e_icmp_lt, e_icmp_ge, e_icmp_gt, e_icmp_le, e_if_eq, e_if_ne, e_if_lt, e_if_ge, e_if_gt, e_if_le, e_getI, e_getR, e_putI, e_putZ, e_putR, e_iald, e_bald, e_zald, e_lald, e_aald, e_alen, e_iast, e_bast, e_zast, e_last, e_aast, e_iret, e_zret, e_lret, e_vret, e_obj, e_callV, e_callS, e_callT, e_acpy, e_ldcS, e_dn, e_ag, z_pop, List.getElem?_cons_zero, List.getElem?_cons_succ, List.set_cons_zero, List.set_cons_succ, List.length_cons, List.length_nil, z_nol, Option.map_some, Option.toList_some, Option.toList_none, List.cons_append, List.nil_append, n_lit, n_m1, n_m2, n_m1lt, n_m1le, n_rem, n_div, n_out, n_cl, n_eq, n_le, n_lt, n_add, n_mul, n_sub, n_nle, n_yle, n_nlt, n_ylt, n_neN, z_lay, z_sz, z_str, z_stI, z_stL, z_stR, eq_self, ↓reduceIte, true_and, and_true, and_self, false_and, and_false, or_self, false_or, or_false, true_or, or_true, not_true_eq_false, not_false_eq_true, Nat.reduceLeDiff, Nat.reduceLT, Nat.reduceAdd, Nat.reduceEqDiff, Nat.reduceMul, Nat.reduceSub, Value.category, Nat.zero_le, beq_self_eq_true]
          rw [q_lp_eq, e4]
        rw [q_lp_eq, e1, e2, q2]
        exact e3
      · have lt : s < rfK ch s 16 := by
          have : s ≤ s ||| rfK ch s 16 := Nat.left_le_or
          rw [sb_or_eq sb] at this
          omega
        obtain ⟨C, c1, c2, c3, c4⟩ := ih (16 - rfK ch s 16) (by omega) (rfK ch s 16) s (some (.int (nI 16))) rfl l4 (by omega) (Or.inl (by omega))
        refine ⟨C, ?_, sb.trans c2, c3, fun t ht hst => c4 t ht (rfK_in ht hst 16)⟩
        rw [q_lp_eq, e1, e2]
        exact c1
theorem o_shut {I : Nat → Nat → Int32} {L : Nat → Nat → Int64} {Z : zZ} {B tx lv nc : Nat} {ch : Nat → Nat → Nat} {rows : Nat} {len : Nat → Nat} {col : Nat → Nat → Nat} {tm pd : Int32} (hW : wRest I L Z B tx lv nc ch rows) (hF : wFam I B tx lv nc ch rows len col tm pd) (x : Int32) : askOp fX11_shut fX12_shut [.int x] I L Z B tx := by
  have h := hW.1
  have hM := hW.2.1
  obtain ⟨hV, hR, -⟩ := id hF
  obtain ⟨h1, h2, h3, h4, h5, h6⟩ := id hV
  have hT := hR.1
  have h16 := lt16 h3
  have hB := r_base (L := L) hM hT
  have p0 : 1 ≤ 2 ^ nc := Nat.two_pow_pos nc
  rcases out_or x (n := 2 ^ nc) (by omega) with qx | ⟨s, hs, rfl⟩
  · refine ⟨nM1, I, I, ?_, sameC.refl _ _ _, ?_, sameR.refl _ _⟩
    · show kX11_shut_0 [some (.ref (B)), some (.int (x))] [] (I, L, Z) = _
      by_cases q : x < nI 1
      · simp (disch := omega) only [kX11_shut_21, kX11_shut_0, q, e_push, e_pushl, e_iload, e_lload, e_aload, e_istore, e_astore, e_lstore, e_iinc, e_iadd, e_isub, e_imul, e_iand, e_ior, e_ixor, e_ishl, e_ishr, e_iushr, e_idiv, e_irem, e_ladd, e_lsub, e_lmul, e_lcmp, e_mmax, e_mmin, e_i2l, e_l2i, e_i2b, e_i2c, e_dup, e_dup2, e_pop, e_icmp_eq, e_icmp_ne, e_icmp_lt, e_icmp_ge, e_icmp_gt, e_icmp_le, e_if_eq, e_if_ne, e_if_lt, e_if_ge, e_if_gt, e_if_le, e_getI, e_getR, e_putI, e_putZ, e_putR, e_iald, e_bald, e_zald, e_lald, e_aald, e_alen, e_iast, e_bast, e_zast, e_last, e_aast, e_iret, e_zret, e_lret, e_vret, e_obj, e_callV, e_callS, e_callT, e_acpy, e_ldcS, e_dn, e_ag, z_pop, List.getElem?_cons_zero, List.getElem?_cons_succ, List.set_cons_zero, List.set_cons_succ, List.length_cons, List.length_nil, z_nol, Option.map_some, Option.toList_some, Option.toList_none, List.cons_append, List.nil_append, n_lit, n_m1, n_m2, n_m1lt, n_m1le, n_rem, n_div, n_out, n_cl, n_eq, n_le, n_lt, n_add, n_mul, n_sub, n_nle, n_yle, n_nlt, n_ylt, n_neN, z_lay, z_sz, z_str, z_stI, z_stL, z_stR, eq_self, ↓reduceIte, true_and, and_true, and_self, false_and, and_false, or_self, false_or, or_false, true_or, or_true, not_true_eq_false, not_false_eq_true, Nat.reduceLeDiff, Nat.reduceLT, Nat.reduceAdd, Nat.reduceEqDiff, Nat.reduceMul, Nat.reduceSub, Value.category, Nat.zero_le, beq_self_eq_true]
      · have q0 : ¬ x < nI 0 := fun z => q (by rw [Int32.lt_iff_toInt_lt, nI_toInt (by omega)] at z ⊢; omega)
        have q2 := n_ltF (by omega) qx q0
        simp (disch := omega) only [kX11_shut_21, kX11_shut_0, cl_B h, cr_0_0 h, cr_0_4 h, cr_0_5 h, cr_0_6 h, cr_0_7 h, cr_0_8 h, cr_0_9 h, cr_0_10 h, cr_0_11 h, cr_0_12 h, h.2.2.2.1, cl_1 h, cl_33 h, cl_36 h, cl_39 h, cl_40 h, cl_42 h, cl_45 h, cl_178 h, cl_186 h, cl_191 h, tl_0 h, tl_5 h, tr_0_0 h, tr_0_1 h, tr_0_2 h, tl_1 h, tl_10 h, q, h1, n_shl, q2, e_push, e_pushl, e_iload, e_lload, e_aload, e_istore, e_astore, e_lstore, e_iinc, e_iadd, e_isub, e_imul, e_iand, e_ior, e_ixor, e_ishl, e_ishr, e_iushr, e_idiv, e_irem, e_ladd, e_lsub, e_lmul, e_lcmp, e_mmax, e_mmin, e_i2l, e_l2i, e_i2b, e_i2c, e_dup, e_dup2, e_pop, e_icmp_eq, e_icmp_ne, e_icmp_lt, e_icmp_ge, e_icmp_gt, e_icmp_le, e_if_eq, e_if_ne, e_if_lt, e_if_ge, e_if_gt, e_if_le, e_getI, e_getR, e_putI, e_putZ, e_putR, e_iald, e_bald, e_zald, e_lald, e_aald, e_alen, e_iast, e_bast, e_zast, e_last, e_aast, e_iret, e_zret, e_lret, e_vret, e_obj, e_callV, e_callS, e_callT, e_acpy, e_ldcS, e_dn, e_ag, z_pop, List.getElem?_cons_zero, List.getElem?_cons_succ, List.set_cons_zero, List.set_cons_succ, List.length_cons, List.length_nil, z_nol, Option.map_some, Option.toList_some, Option.toList_none, List.cons_append, List.nil_append, n_lit, n_m1, n_m2, n_m1lt, n_m1le, n_rem, n_div, n_out, n_cl, n_eq, n_le, n_lt, n_add, n_mul, n_sub, n_nle, n_yle, n_nlt, n_ylt, n_neN, z_lay, z_sz, z_str, z_stI, z_stL, z_stR, eq_self, ↓reduceIte, true_and, and_true, and_self, false_and, and_false, or_self, false_or, or_false, true_or, or_true, not_true_eq_false, not_false_eq_true, Nat.reduceLeDiff, Nat.reduceLT, Nat.reduceAdd, Nat.reduceEqDiff, Nat.reduceMul, Nat.reduceSub, Value.category, Nat.zero_le, beq_self_eq_true]
    · have q1 := in_no qx (by omega) (by omega)
      have q2 : ¬ (nI 1 ≤ x ∧ x ≤ nI (2 ^ nc - 1)) := fun z => q1 ⟨by have := z.1; rw [Int32.le_iff_toInt_le, nI_toInt (by omega)] at this ⊢; omega, z.2⟩
      show kX12_shut_0 [some (.ref ((B + 200))), some (.int (x)), none, none, none] [] (I, L, Z) = _
      simp (disch := omega) only [kX12_shut_84, kX12_shut_81, kX12_shut_75, kX12_shut_32, kX12_shut_22, kX12_shut_0, hM.1, hB, n_shl, r_in, q2, e_push, e_pushl, e_iload, e_lload, e_aload, e_istore, e_astore, e_lstore, e_iinc, e_iadd, e_isub, e_imul, e_iand, e_ior, e_ixor, e_ishl, e_ishr, e_iushr, e_idiv, e_irem, e_ladd, e_lsub, e_lmul, e_lcmp, e_mmax, e_mmin, e_i2l, e_l2i, e_i2b, e_i2c, e_dup, e_dup2, e_pop, e_icmp_eq, e_icmp_ne, e_icmp_lt, e_icmp_ge, e_icmp_gt, e_icmp_le, e_if_eq, e_if_ne, e_if_lt, e_if_ge, e_if_gt, e_if_le, e_getI, e_getR, e_putI, e_putZ, e_putR, e_iald, e_bald, e_zald, e_lald, e_aald, e_alen, e_iast, e_bast, e_zast, e_last, e_aast, e_iret, e_zret, e_lret, e_vret, e_obj, e_callV, e_callS, e_callT, e_acpy, e_ldcS, e_dn, e_ag, z_pop, List.getElem?_cons_zero, List.getElem?_cons_succ, List.set_cons_zero, List.set_cons_succ, List.length_cons, List.length_nil, z_nol, Option.map_some, Option.toList_some, Option.toList_none, List.cons_append, List.nil_append, n_lit, n_m1, n_m2, n_m1lt, n_m1le, n_rem, n_div, n_out, n_cl, n_eq, n_le, n_lt, n_add, n_mul, n_sub, n_nle, n_yle, n_nlt, n_ylt, n_neN, z_lay, z_sz, z_str, z_stI, z_stL, z_stR, eq_self, ↓reduceIte, true_and, and_true, and_self, false_and, and_false, or_self, false_or, or_false, true_or, or_true, not_true_eq_false, not_false_eq_true, Nat.reduceLeDiff, Nat.reduceLT, Nat.reduceAdd, Nat.reduceEqDiff, Nat.reduceMul, Nat.reduceSub, Value.category, Nat.zero_le, beq_self_eq_true]
  · by_cases q : s = 0
    · subst q
      refine ⟨nM1, I, I, ?_, sameC.refl _ _ _, ?_, sameR.refl _ _⟩
      · show kX11_shut_0 [some (.ref (B)), some (.int (nI (0)))] [] (I, L, Z) = _
        simp (disch := omega) only [kX11_shut_21, kX11_shut_0, e_push, e_pushl, e_iload, e_lload, e_aload, e_istore, e_astore, e_lstore, e_iinc, e_iadd, e_isub, e_imul, e_iand, e_ior, e_ixor, e_ishl, e_ishr, e_iushr, e_idiv, e_irem, e_ladd, e_lsub, e_lmul, e_lcmp, e_mmax, e_mmin, e_i2l, e_l2i, e_i2b, e_i2c, e_dup, e_dup2, e_pop, e_icmp_eq, e_icmp_ne, e_icmp_lt, e_icmp_ge, e_icmp_gt, e_icmp_le, e_if_eq, e_if_ne, e_if_lt, e_if_ge, e_if_gt, e_if_le, e_getI, e_getR, e_putI, e_putZ, e_putR, e_iald, e_bald, e_zald, e_lald, e_aald, e_alen, e_iast, e_bast, e_zast, e_last, e_aast, e_iret, e_zret, e_lret, e_vret, e_obj, e_callV, e_callS, e_callT, e_acpy, e_ldcS, e_dn, e_ag, z_pop, List.getElem?_cons_zero, List.getElem?_cons_succ, List.set_cons_zero, List.set_cons_succ, List.length_cons, List.length_nil, z_nol, Option.map_some, Option.toList_some, Option.toList_none, List.cons_append, List.nil_append, n_lit, n_m1, n_m2, n_m1lt, n_m1le, n_rem, n_div, n_out, n_cl, n_eq, n_le, n_lt, n_add, n_mul, n_sub, n_nle, n_yle, n_nlt, n_ylt, n_neN, z_lay, z_sz, z_str, z_stI, z_stL, z_stR, eq_self, ↓reduceIte, true_and, and_true, and_self, false_and, and_false, or_self, false_or, or_false, true_or, or_true, not_true_eq_false, not_false_eq_true, Nat.reduceLeDiff, Nat.reduceLT, Nat.reduceAdd, Nat.reduceEqDiff, Nat.reduceMul, Nat.reduceSub, Value.category, Nat.zero_le, beq_self_eq_true]
      · show kX12_shut_0 [some (.ref ((B + 200))), some (.int (nI (0))), none, none, none] [] (I, L, Z) = _
        simp (disch := omega) only [kX12_shut_84, kX12_shut_81, kX12_shut_75, kX12_shut_32, kX12_shut_22, kX12_shut_0, hM.1, hB, n_shl, r_in, e_push, e_pushl, e_iload, e_lload, e_aload, e_istore, e_astore, e_lstore, e_iinc, e_iadd, e_isub, e_imul, e_iand, e_ior, e_ixor, e_ishl, e_ishr, e_iushr, e_idiv, e_irem, e_ladd, e_lsub, e_lmul, e_lcmp, e_mmax, e_mmin, e_i2l, e_l2i, e_i2b, e_i2c, e_dup, e_dup2, e_pop, e_icmp_eq, e_icmp_ne, e_icmp_lt, e_icmp_ge, e_icmp_gt, e_icmp_le, e_if_eq, e_if_ne, e_if_lt, e_if_ge, e_if_gt, e_if_le, e_getI, e_getR, e_putI, e_putZ, e_putR, e_iald, e_bald, e_zald, e_lald, e_aald, e_alen, e_iast, e_bast, e_zast, e_last, e_aast, e_iret, e_zret, e_lret, e_vret, e_obj, e_callV, e_callS, e_callT, e_acpy, e_ldcS, e_dn, e_ag, z_pop, List.getElem?_cons_zero, List.getElem?_cons_succ, List.set_cons_zero, List.set_cons_succ, List.length_cons, List.length_nil, z_nol, Option.map_some, Option.toList_some, Option.toList_none, List.cons_append, List.nil_append, n_lit, n_m1, n_m2, n_m1lt, n_m1le, n_rem, n_div, n_out, n_cl, n_eq, n_le, n_lt, n_add, n_mul, n_sub, n_nle, n_yle, n_nlt, n_ylt, n_neN, z_lay, z_sz, z_str, z_stI, z_stL, z_stR, eq_self, ↓reduceIte, true_and, and_true, and_self, false_and, and_false, or_self, false_or, or_false, true_or, or_true, not_true_eq_false, not_false_eq_true, Nat.reduceLeDiff, Nat.reduceLT, Nat.reduceAdd, Nat.reduceEqDiff, Nat.reduceMul, Nat.reduceSub, Value.category, Nat.zero_le, beq_self_eq_true]
    · have a1 := p_closure (L := L) (ct_tx h) h1 h2 h3 h4 h5 hs
      obtain ⟨C, c1, c2, c3, c4⟩ := r_shut_lp (L := L) (x := s) hM hT h5 (16 - s) s 0 none rfl hs (by omega) (Or.inl (by omega))
      have e : C = clN ch nc s nc := sbN.anti (c4 _ (clN_fix h3 h5 hs (by omega)) (clN_sb _ _ _ _)) (clN_in c3 c2 nc)
      subst e
      refine ⟨nI (clN ch nc s nc), I, I, ?_, sameC.refl _ _ _, ?_, sameR.refl _ _⟩
      · show kX11_shut_0 [some (.ref (B)), some (.int (nI (s)))] [] (I, L, Z) = _
        simp (disch := omega) only [kX11_shut_21, kX11_shut_0, cl_B h, cr_0_0 h, cr_0_4 h, cr_0_5 h, cr_0_6 h, cr_0_7 h, cr_0_8 h, cr_0_9 h, cr_0_10 h, cr_0_11 h, cr_0_12 h, h.2.2.2.1, cl_1 h, cl_33 h, cl_36 h, cl_39 h, cl_40 h, cl_42 h, cl_45 h, cl_178 h, cl_186 h, cl_191 h, tl_0 h, tl_5 h, tr_0_0 h, tr_0_1 h, tr_0_2 h, tl_1 h, tl_10 h, h1, n_shl, a1, e_push, e_pushl, e_iload, e_lload, e_aload, e_istore, e_astore, e_lstore, e_iinc, e_iadd, e_isub, e_imul, e_iand, e_ior, e_ixor, e_ishl, e_ishr, e_iushr, e_idiv, e_irem, e_ladd, e_lsub, e_lmul, e_lcmp, e_mmax, e_mmin, e_i2l, e_l2i, e_i2b, e_i2c, e_dup, e_dup2, e_pop, e_icmp_eq, e_icmp_ne, e_icmp_lt, e_icmp_ge, e_icmp_gt, e_icmp_le, e_if_eq, e_if_ne, e_if_lt, e_if_ge, e_if_gt, e_if_le, e_getI, e_getR, e_putI, e_putZ, e_putR, e_iald, e_bald, e_zald, e_lald, e_aald, e_alen, e_iast, e_bast, e_zast, e_last, e_aast, e_iret, e_zret, e_lret, e_vret, e_obj, e_callV, e_callS, e_callT, e_acpy, e_ldcS, e_dn, e_ag, z_pop, List.getElem?_cons_zero, List.getElem?_cons_succ, List.set_cons_zero, List.set_cons_succ, List.length_cons, List.length_nil, z_nol, Option.map_some, Option.toList_some, Option.toList_none, List.cons_append, List.nil_append, n_lit, n_m1, n_m2, n_m1lt, n_m1le, n_rem, n_div, n_out, n_cl, n_eq, n_le, n_lt, n_add, n_mul, n_sub, n_nle, n_yle, n_nlt, n_ylt, n_neN, z_lay, z_sz, z_str, z_stI, z_stL, z_stR, eq_self, ↓reduceIte, true_and, and_true, and_self, false_and, and_false, or_self, false_or, or_false, true_or, or_true, not_true_eq_false, not_false_eq_true, Nat.reduceLeDiff, Nat.reduceLT, Nat.reduceAdd, Nat.reduceEqDiff, Nat.reduceMul, Nat.reduceSub, Value.category, Nat.zero_le, beq_self_eq_true]
      · show kX12_shut_0 [some (.ref ((B + 200))), some (.int (nI (s))), none, none, none] [] (I, L, Z) = _
        simp (disch := omega) only [kX12_shut_84, kX12_shut_81, kX12_shut_75, kX12_shut_32, kX12_shut_22, kX12_shut_0, hM.1, hB, n_shl, r_in, c1, e_push, e_pushl, e_iload, e_lload, e_aload, e_istore, e_astore, e_lstore, e_iinc, e_iadd, e_isub, e_imul, e_iand, e_ior, e_ixor, e_ishl, e_ishr, e_iushr, e_idiv, e_irem, e_ladd, e_lsub, e_lmul, e_lcmp, e_mmax, e_mmin, e_i2l, e_l2i, e_i2b, e_i2c, e_dup, e_dup2, e_pop, e_icmp_eq, e_icmp_ne, e_icmp_lt, e_icmp_ge, e_icmp_gt, e_icmp_le, e_if_eq, e_if_ne, e_if_lt, e_if_ge, e_if_gt, e_if_le, e_getI, e_getR, e_putI, e_putZ, e_putR, e_iald, e_bald, e_zald, e_lald, e_aald, e_alen, e_iast, e_bast, e_zast, e_last, e_aast, e_iret, e_zret, e_lret, e_vret, e_obj, e_callV, e_callS, e_callT, e_acpy, e_ldcS, e_dn, e_ag, z_pop, List.getElem?_cons_zero, List.getElem?_cons_succ, List.set_cons_zero, List.set_cons_succ, List.length_cons, List.length_nil, z_nol, Option.map_some, Option.toList_some, Option.toList_none, List.cons_append, List.nil_append, n_lit, n_m1, n_m2, n_m1lt, n_m1le, n_rem, n_div, n_out, n_cl, n_eq, n_le, n_lt, n_add, n_mul, n_sub, n_nle, n_yle, n_nlt, n_ylt, n_neN, z_lay, z_sz, z_str, z_stI, z_stL, z_stR, eq_self, ↓reduceIte, true_and, and_true, and_self, false_and, and_false, or_self, false_or, or_false, true_or, or_true, not_true_eq_false, not_false_eq_true, Nat.reduceLeDiff, Nat.reduceLT, Nat.reduceAdd, Nat.reduceEqDiff, Nat.reduceMul, Nat.reduceSub, Value.category, Nat.zero_le, beq_self_eq_true]
