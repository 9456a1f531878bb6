--deps: 54.lazy 54.mem 55.mem2 56.rmem 57.spec 58.inv 59.keep 60.fin 61.ops2 62.ops3 63.tape 64.told 65.ev 66.law 67.expr 68.good 69.held 70.term
/-! laws on both sides -/
def goodB (q : sB) : Prop := goodC q.2 400 ∧ ∀ t, q.1 = some t → goodC t.1 400 ∧ goodC t.2 400
theorem sE_good4 {K W : Nat → Nat} (hK : ∀ i, K i = 21 → W i < 10000) {i j : Nat} {c : List (Nat × Nat)} (h : sE K W i = (0, j, c)) : goodC c 400 := (sE_good hK h).2.mono (by have := (sE_noEl h).2.1; omega)
theorem sIf_good {K W : Nat → Nat} (hK : ∀ i, K i = 21 → W i < 10000) {i j : Nat} {q : sB} (h : sIf K W i = (0, j, q)) : goodB q := by
  unfold sIf at h
  obtain ⟨f1, f2⟩ := sBind_ok h
  obtain ⟨f3, f4⟩ := sBind_ok f2
  obtain ⟨f5, f6⟩ := sBind_ok f4
  obtain ⟨f7, f8⟩ := sBind_ok f6
  obtain ⟨f9, f10⟩ := sBind_ok f8
  obtain ⟨f11, f12⟩ := sBind_ok f10
  obtain ⟨f13, f14⟩ := sBind_ok f12
  cases f14
  exact ⟨sE_good4 hK (pr3 f11), fun t ht => by cases ht; exact ⟨sE_good4 hK (pr3 f3), sE_good4 hK (pr3 f7)⟩⟩
theorem sLw_good {K W : Nat → Nat} (hK : ∀ i, K i = 21 → W i < 10000) : ∀ n i j bs, sLw K W n i = (0, j, bs) → ∀ q ∈ bs, goodB q := by
  intro n
  have pl : ∀ i j bs, (sBind [] (sE K W i) fun j c => (0, j, [((none, c) : sB)])) = (0, j, bs) → ∀ q ∈ bs, goodB q := by
    intro i j bs h q hq
    obtain ⟨e1, e2⟩ := sBind_ok h
    cases e2
    rw [List.mem_singleton] at hq
    subst hq
    exact ⟨sE_good4 hK (pr3 e1), fun t ht => by cases ht⟩
  induction n with
  | zero =>
    intro i j bs h
    rw [sLw] at h
    split at h
    · cases h
    · exact pl i j bs h
  | succ n ih =>
    intro i j bs h
    rw [sLw] at h
    split at h
    · obtain ⟨e1, e2⟩ := sBind_ok h
      obtain ⟨e3, e4⟩ := sBind_ok e2
      cases e4
      intro q hq
      rcases List.mem_cons.mp hq with rfl | hq
      · exact sIf_good hK (pr3 e1)
      · exact ih _ _ _ (pr3 e3) q hq
    · exact pl i j bs h
/-- laws as functions of the variables, and of what is answered when they are not told -/
def lawW (I : Nat → Nat → Int32) (L : Nat → Nat → Int64) (B tx lv : Nat) (F : Nat → (Nat → Int32) → Int32 → Int32) : Prop := ∃ K W sz, tokC I L B tx K W sz ∧ ∀ k, k < 4 →
  (I (B + (tx + 13)) k = nM1 ∧ (∀ vs p, F k vs p = p) ∧ ∃ f, f ≤ 260 ∧ I (B + 200 + 17) (4 * lv + k) = nI f ∧ I (B + 200 + 18) (4 * lv + k) = nI f) ∨
  ∃ s j f bs, I (B + (tx + 13)) k = nI s ∧ s ≤ 400 ∧ sLw K W 4 s = (0, j, bs) ∧ (∀ vs p, F k vs p = evL vs bs) ∧ I (B + 200 + 17) (4 * lv + k) = nI f ∧ I (B + 200 + 18) (4 * lv + k) = nI (f + bs.length) ∧ f + bs.length ≤ 260 ∧ ∀ b q, bs[b]? = some q → brR I (B + 200) (f + b) q
theorem wLaw.fn {I : Nat → Nat → Int32} {L : Nat → Nat → Int64} {B tx lv : Nat} (h : wLaw I L B tx lv) : ∃ F, lawW I L B tx lv F := by
  obtain ⟨K, W, sz, h1, h2, -⟩ := h
  have g : ∀ k, ∃ f : (Nat → Int32) → Int32 → Int32, k < 4 → (I (B + (tx + 13)) k = nM1 ∧ (∀ vs p, f vs p = p) ∧ ∃ f, f ≤ 260 ∧ I (B + 200 + 17) (4 * lv + k) = nI f ∧ I (B + 200 + 18) (4 * lv + k) = nI f) ∨ ∃ s j f' bs, I (B + (tx + 13)) k = nI s ∧ s ≤ 400 ∧ sLw K W 4 s = (0, j, bs) ∧ (∀ vs p, f vs p = evL vs bs) ∧ I (B + 200 + 17) (4 * lv + k) = nI f' ∧ I (B + 200 + 18) (4 * lv + k) = nI (f' + bs.length) ∧ f' + bs.length ≤ 260 ∧ ∀ b q, bs[b]? = some q → brR I (B + 200) (f' + b) q := by
    intro k
    by_cases hk : k < 4
    · rcases h2 k hk with ⟨a1, a2⟩ | ⟨s, j, f, bs, a1, a2, a3, a4, a5, a6, a7⟩
      · exact ⟨fun vs p => p, fun _ => Or.inl ⟨a1, fun _ _ => rfl, a2⟩⟩
      · exact ⟨fun vs p => evL vs bs, fun _ => Or.inr ⟨s, j, f, bs, a1, a2, a3, fun _ _ => rfl, a4, a5, a6, a7⟩⟩
    · exact ⟨fun _ p => p, fun z => absurd z hk⟩
  exact ⟨fun k => Classical.choose (g k), K, W, sz, h1, fun k hk => Classical.choose_spec (g k) hk⟩
theorem lawW.kept {I J : Nat → Nat → Int32} {L : Nat → Nat → Int64} {B tx lv : Nat} {F : Nat → (Nat → Int32) → Int32 → Int32} (h : lawW I L B tx lv F) (h1 : J (B + (tx + 1)) = I (B + (tx + 1))) (h2 : J (B + (tx + 2)) = I (B + (tx + 2))) (h3 : J (B + (tx + 13)) = I (B + (tx + 13))) (h0 : ∀ k, 17 ≤ k → k ≤ 25 → J (B + 200 + k) = I (B + 200 + k)) : lawW J L B tx lv F := by
  obtain ⟨K, W, sz, g1, g2⟩ := h
  refine ⟨K, W, sz, g1.kept h1 h2, fun k hk => ?_⟩
  rw [h3, h0 17 (by omega) (by omega), h0 18 (by omega) (by omega)]
  rcases g2 k hk with g | ⟨s, j, f, bs, a1, a2, a3, a4, a5, a6, a7, a8⟩
  · exact Or.inl g
  · exact Or.inr ⟨s, j, f, bs, a1, a2, a3, a4, a5, a6, a7, fun b q hb => (a8 b q hb).kept (fun k k1 k2 => h0 k (by omega) k2)⟩
def clp (m v : Int32) : Int32 := if nI 0 < (if v < m then v else m) then (if v < m then v else m) else nI 0
def plainV (k : Nat) (vs : Nat → Int32) : Int32 := if k = 0 then vs 0 else if k = 1 then nI 1 else if k = 3 then vs 3 else nI 0
theorem e_sw {α : Type} {ks : List (zK α)} {kd : zK α} {ls : zL} {r : List Value} {σ : zS} {k : Nat} (hk : k < 2147483648) : q_sw 0 ks kd ls (.int (nI k) :: r) σ = match ks[k]? with
    | some q => q ls r σ
    | none => kd ls r σ := by
  show (if (nI k).toInt < 0 then kd ls r σ else match ks[((nI k).toInt - 0).toNat]? with
    | some q => q ls r σ
    | none => kd ls r σ) = _
  rw [nI_toInt hk, if_neg (by omega), show ((k : Int) - 0).toNat = k by omega]
theorem e_sw_out {α : Type} {ks : List (zK α)} {kd : zK α} {ls : zL} {r : List Value} {σ : zS} {x : Int32} {n : Nat} (hn : ks.length = n) (hx : outN x n) (h31 : n < 2147483648) : q_sw 0 ks kd ls (.int x :: r) σ = kd ls r σ := by
  show (if x.toInt < 0 then kd ls r σ else match ks[(x.toInt - 0).toNat]? with
    | some q => q ls r σ
    | none => kd ls r σ) = _
  split
  · rfl
  · rename_i q
    have : n ≤ (x.toInt - 0).toNat := by
      rcases hx with h | h
      · rw [Int32.lt_iff_toInt_lt, nI_toInt (by omega)] at h
        omega
      · rw [Int32.le_iff_toInt_le, nI_toInt (by omega)] at h
        omega
    rw [List.getElem?_eq_none (by omega)]
theorem p_untold {I : Nat → Nat → Int32} {L : Nat → Nat → Int64} {Z : zZ} {B tx k : Nat} {vs : Nat → Int32} (h : isCls Z B tx) (hv : ∀ k, k < 9 → I (B + 41) k = vs k) (hk : k < 4) : fX2_untold [.ref (B + 40), .int (nI k)] (I, L, Z) = some (some (.int (plainV k vs)), (I, L, Z)) := by
  show kX2_untold_0 [some (.ref ((B + 40))), some (.int (nI (k)))] [] (I, L, Z) = _
  have v0 := hv 0 (by omega)
  have v3 := hv 3 (by omega)
  have hc : k = 0 ∨ k = 1 ∨ k = 2 ∨ k = 3 := by omega
  rcases hc with rfl | rfl | rfl | rfl <;> simp (disch := omega) only [kX2_untold_48, kX2_untold_0, e_sw, cl_40 h, cr_40_0 h, cl_41 h, v0, v3, plainV, e_push, e_pushl, e_iload, e_lload, e_aload, e_istore, e_astore, e_lstore, e_iinc, e_iadd, e_isub, e_imul, e_iand, e_ior, e_ixor, e_ishl, e_ishr, e_iushr, e_idiv, e_irem, e_ladd, e_lsub, e_lmul, e_lcmp, e_mmax, e_mmin, e_i2l, e_l2i, e_i2b, e_i2c, e_dup, e_dup2, e_pop, e_icmp_eq, e_icmp_ne, e_icmp_lt, e_icmp_ge, e_icmp_gt, e_icmp_le, e_if_eq, e_if_ne, e_if_lt, e_if_ge, e_if_gt, e_if_le, e_getI, e_getR, e_putI, e_putZ, e_putR, e_iald, e_bald, e_zald, e_lald, e_aald, e_alen, e_iast, e_bast, e_zast, e_last, e_aast, e_iret, e_zret, e_lret, e_vret, e_obj, e_callV, e_callS, e_callT, e_acpy, e_ldcS, e_dn, e_ag, z_pop, List.getElem?_cons_zero, List.getElem?_cons_succ, List.set_cons_zero, List.set_cons_succ, List.length_cons, List.length_nil, z_nol, Option.map_some, Option.toList_some, Option.toList_none, List.cons_append, List.nil_append, n_lit, n_m1, n_m2, n_m1lt, n_m1le, n_rem, n_div, n_out, n_cl, n_eq, n_le, n_lt, n_add, n_mul, n_sub, n_nle, n_yle, n_nlt, n_ylt, n_neN, z_lay, z_sz, z_str, z_stI, z_stL, z_stR, eq_self, ↓reduceIte, true_and, and_true, and_self, false_and, and_false, or_self, false_or, or_false, true_or, or_true, not_true_eq_false, not_false_eq_true, Nat.reduceLeDiff, Nat.reduceLT, Nat.reduceAdd, Nat.reduceEqDiff, Nat.reduceMul, Nat.reduceSub, Value.category, Nat.zero_le, beq_self_eq_true]
theorem p_held {I : Nat → Nat → Int32} {L : Nat → Nat → Int64} {Z : zZ} {B tx lv k m : Nat} {vs : Nat → Int32} {F : Nat → (Nat → Int32) → Int32 → Int32} (h : isCls Z B tx) (hF : lawW I L B tx lv F) (hv : ∀ k, k < 9 → I (B + 41) k = vs k) (hk : k < 4) :
    ∃ J, fX2_held [.ref (B + 40), .ref (B + tx), .int (nI k), .int (nI m)] (I, L, Z) = some (some (.int (clp (nI m) (F k vs (plainV k vs)))), (J, L, Z)) ∧ ∀ q, q ≠ B + 40 → J q = I q := by
  obtain ⟨K, W, sz, g1, g2⟩ := hF
  rcases g2 k hk with ⟨a1, a2, a3⟩ | ⟨s, j, f, bs, a1, a2, a3, a4, a5, a6, a7, a8⟩
  · refine ⟨I, ?_, fun _ _ => rfl⟩
    have u := p_untold (L := L) h hv hk
    rw [a2]
    show kX2_held_0 [some (.ref ((B + 40))), some (.ref ((B + tx))), some (.int (nI (k))), some (.int (nI (m))), none, none] [] (I, L, Z) = _
    simp (disch := omega) only [kX2_held_34, kX2_held_0, cl_40 h, tl_0 h, tr_0_3 h, tl_13 h, n_and3, a1, u, clp, e_push, e_pushl, e_iload, e_lload, e_aload, e_istore, e_astore, e_lstore, e_iinc, e_iadd, e_isub, e_imul, e_iand, e_ior, e_ixor, e_ishl, e_ishr, e_iushr, e_idiv, e_irem, e_ladd, e_lsub, e_lmul, e_lcmp, e_mmax, e_mmin, e_i2l, e_l2i, e_i2b, e_i2c, e_dup, e_dup2, e_pop, e_icmp_eq, e_icmp_ne, e_icmp_lt, e_icmp_ge, e_icmp_gt, e_icmp_le, e_if_eq, e_if_ne, e_if_lt, e_if_ge, e_if_gt, e_if_le, e_getI, e_getR, e_putI, e_putZ, e_putR, e_iald, e_bald, e_zald, e_lald, e_aald, e_alen, e_iast, e_bast, e_zast, e_last, e_aast, e_iret, e_zret, e_lret, e_vret, e_obj, e_callV, e_callS, e_callT, e_acpy, e_ldcS, e_dn, e_ag, z_pop, List.getElem?_cons_zero, List.getElem?_cons_succ, List.set_cons_zero, List.set_cons_succ, List.length_cons, List.length_nil, z_nol, Option.map_some, Option.toList_some, Option.toList_none, List.cons_append, List.nil_append, n_lit, n_m1, n_m2, n_m1lt, n_m1le, n_rem, n_div, n_out, n_cl, n_eq, n_le, n_lt, n_add, n_mul, n_sub, n_nle, n_yle, n_nlt, n_ylt, n_neN, z_lay, z_sz, z_str, z_stI, z_stL, z_stR, eq_self, ↓reduceIte, true_and, and_true, and_self, false_and, and_false, or_self, false_or, or_false, true_or, or_true, not_true_eq_false, not_false_eq_true, Nat.reduceLeDiff, Nat.reduceLT, Nat.reduceAdd, Nat.reduceEqDiff, Nat.reduceMul, Nat.reduceSub, Value.category, Nat.zero_le, beq_self_eq_true]
  · obtain ⟨j', g', u⟩ := p_told h g1 hv a2 a3
    refine ⟨atI I B j' g', ?_, fun q hq => atI_off hq⟩
    rw [a4]
    have hne : ¬ nI s = nM1 := by
      intro z
      have := congrArg Int32.toInt z
      rw [nI_toInt (by omega)] at this
      have e : nM1.toInt = -1 := by decide
      omega
    show kX2_held_0 [some (.ref ((B + 40))), some (.ref ((B + tx))), some (.int (nI (k))), some (.int (nI (m))), none, none] [] (I, L, Z) = _
    simp (disch := omega) only [kX2_held_34, kX2_held_0, cl_40 h, tl_0 h, tr_0_3 h, tr_0_0 h, tl_13 h, n_and3, a1, hne, u, clp, e_push, e_pushl, e_iload, e_lload, e_aload, e_istore, e_astore, e_lstore, e_iinc, e_iadd, e_isub, e_imul, e_iand, e_ior, e_ixor, e_ishl, e_ishr, e_iushr, e_idiv, e_irem, e_ladd, e_lsub, e_lmul, e_lcmp, e_mmax, e_mmin, e_i2l, e_l2i, e_i2b, e_i2c, e_dup, e_dup2, e_pop, e_icmp_eq, e_icmp_ne, e_icmp_lt, e_icmp_ge, e_icmp_gt, e_icmp_le, e_if_eq, e_if_ne, e_if_lt, e_if_ge, e_if_gt, e_if_le, e_getI, e_getR, e_putI, e_putZ, e_putR, e_iald, e_bald, e_zald, e_lald, e_aald, e_alen, e_iast, e_bast, e_zast, e_last, e_aast, e_iret, e_zret, e_lret, e_vret, e_obj, e_callV, e_callS, e_callT, e_acpy, e_ldcS, e_dn, e_ag, z_pop, List.getElem?_cons_zero, List.getElem?_cons_succ, List.set_cons_zero, List.set_cons_succ, List.length_cons, List.length_nil, z_nol, Option.map_some, Option.toList_some, Option.toList_none, List.cons_append, List.nil_append, n_lit, n_m1, n_m2, n_m1lt, n_m1le, n_rem, n_div, n_out, n_cl, n_eq, n_le, n_lt, n_add, n_mul, n_sub, n_nle, n_yle, n_nlt, n_ylt, n_neN, z_lay, z_sz, z_str, z_stI, z_stL, z_stR, eq_self, ↓reduceIte, true_and, and_true, and_self, false_and, and_false, or_self, false_or, or_false, true_or, or_true, not_true_eq_false, not_false_eq_true, Nat.reduceLeDiff, Nat.reduceLT, Nat.reduceAdd, Nat.reduceEqDiff, Nat.reduceMul, Nat.reduceSub, Value.category, Nat.zero_le, beq_self_eq_true]
theorem r_within {x m : Int32} {σ : zS} (hm : nI 0 < m) : fX12_within [.int x, .int (nI 0), .int m] σ = some (some (.int (clp m x)), σ) := by
  show kX12_within_0 [some (.int (x)), some (.int (nI (0))), some (.int (m))] [] σ = _
  unfold clp
  by_cases q1 : nI 0 ≤ x
  · by_cases q2 : x ≤ m
    · by_cases q3 : x < m
      · by_cases q4 : nI 0 < x
        · simp (disch := omega) only [kX12_within_19, kX12_within_0, q1, q2, q3, q4, e_push, e_pushl, e_iload, e_lload, e_aload, e_istore, e_astore, e_lstore, e_iinc, e_iadd, e_isub, e_imul, e_iand, e_ior, e_ixor, e_ishl, e_ishr, e_iushr, e_idiv, e_irem, e_ladd, e_lsub, e_lmul, e_lcmp, e_mmax, e_mmin, e_i2l, e_l2i, e_i2b, e_i2c, e_dup, e_dup2, e_pop, e_icmp_eq, e_icmp_ne, e_icmp_lt, e_icmp_ge, e_icmp_gt, e_icmp_le, e_if_eq, e_if_ne, e_if_lt, e_if_ge, e_if_gt, e_if_le, e_getI, e_getR, e_putI, e_putZ, e_putR, e_iald, e_bald, e_zald, e_lald, e_aald, e_alen, e_iast, e_bast, e_zast, e_last, e_aast, e_iret, e_zret, e_lret, e_vret, e_obj, e_callV, e_callS, e_callT, e_acpy, e_ldcS, e_dn, e_ag, z_pop, List.getElem?_cons_zero, List.getElem?_cons_succ, List.set_cons_zero, List.set_cons_succ, List.length_cons, List.length_nil, z_nol, Option.map_some, Option.toList_some, Option.toList_none, List.cons_append, List.nil_append, n_lit, n_m1, n_m2, n_m1lt, n_m1le, n_rem, n_div, n_out, n_cl, n_eq, n_le, n_lt, n_add, n_mul, n_sub, n_nle, n_yle, n_nlt, n_ylt, n_neN, z_lay, z_sz, z_str, z_stI, z_stL, z_stR, eq_self, ↓reduceIte, true_and, and_true, and_self, false_and, and_false, or_self, false_or, or_false, true_or, or_true, not_true_eq_false, not_false_eq_true, Nat.reduceLeDiff, Nat.reduceLT, Nat.reduceAdd, Nat.reduceEqDiff, Nat.reduceMul, Nat.reduceSub, Value.category, Nat.zero_le, beq_self_eq_true]
        · have e : x = nI 0 := Int32.le_antisymm (Int32.not_lt.mp q4) q1
          simp (disch := omega) only [kX12_within_19, kX12_within_0, q1, q2, q3, q4, e, e_push, e_pushl, e_iload, e_lload, e_aload, e_istore, e_astore, e_lstore, e_iinc, e_iadd, e_isub, e_imul, e_iand, e_ior, e_ixor, e_ishl, e_ishr, e_iushr, e_idiv, e_irem, e_ladd, e_lsub, e_lmul, e_lcmp, e_mmax, e_mmin, e_i2l, e_l2i, e_i2b, e_i2c, e_dup, e_dup2, e_pop, e_icmp_eq, e_icmp_ne, e_icmp_lt, e_icmp_ge, e_icmp_gt, e_icmp_le, e_if_eq, e_if_ne, e_if_lt, e_if_ge, e_if_gt, e_if_le, e_getI, e_getR, e_putI, e_putZ, e_putR, e_iald, e_bald, e_zald, e_lald, e_aald, e_alen, e_iast, e_bast, e_zast, e_last, e_aast, e_iret, e_zret, e_lret, e_vret, e_obj, e_callV, e_callS, e_callT, e_acpy, e_ldcS, e_dn, e_ag, z_pop, List.getElem?_cons_zero, List.getElem?_cons_succ, List.set_cons_zero, List.set_cons_succ, List.length_cons, List.length_nil, z_nol, Option.map_some, Option.toList_some, Option.toList_none, List.cons_append, List.nil_append, n_lit, n_m1, n_m2, n_m1lt, n_m1le, n_rem, n_div, n_out, n_cl, n_eq, n_le, n_lt, n_add, n_mul, n_sub, n_nle, n_yle, n_nlt, n_ylt, n_neN, z_lay, z_sz, z_str, z_stI, z_stL, z_stR, eq_self, ↓reduceIte, true_and, and_true, and_self, false_and, and_false, or_self, false_or, or_false, true_or, or_true, not_true_eq_false, not_false_eq_true, Nat.reduceLeDiff, Nat.reduceLT, Nat.reduceAdd, Nat.reduceEqDiff, Nat.reduceMul, Nat.reduceSub, Value.category, Nat.zero_le, beq_self_eq_true]
          rw [e] at q2 q3
          simp (disch := omega) only [q2, q3, e_push, e_pushl, e_iload, e_lload, e_aload, e_istore, e_astore, e_lstore, e_iinc, e_iadd, e_isub, e_imul, e_iand, e_ior, e_ixor, e_ishl, e_ishr, e_iushr, e_idiv, e_irem, e_ladd, e_lsub, e_lmul, e_lcmp, e_mmax, e_mmin, e_i2l, e_l2i, e_i2b, e_i2c, e_dup, e_dup2, e_pop, e_icmp_eq, e_icmp_ne, e_icmp_lt, e_icmp_ge, e_icmp_gt, e_icmp_le, e_if_eq, e_if_ne, e_if_lt, e_if_ge, e_if_gt, e_if_le, e_getI, e_getR, e_putI, e_putZ, e_putR, e_iald, e_bald, e_zald, e_lald, e_aald, e_alen, e_iast, e_bast, e_zast, e_last, e_aast, e_iret, e_zret, e_lret, e_vret, e_obj, e_callV, e_callS, e_callT, e_acpy, e_ldcS, e_dn, e_ag, z_pop, List.getElem?_cons_zero, List.getElem?_cons_succ, List.set_cons_zero, List.set_cons_succ, List.length_cons, List.length_nil, z_nol, Option.map_some, Option.toList_some, Option.toList_none, List.cons_append, List.nil_append, n_lit, n_m1, n_m2, n_m1lt, n_m1le, n_rem, n_div, n_out, n_cl, n_eq, n_le, n_lt, n_add, n_mul, n_sub, n_nle, n_yle, n_nlt, n_ylt, n_neN, z_lay, z_sz, z_str, z_stI, z_stL, z_stR, eq_self, ↓reduceIte, true_and, and_true, and_self, false_and, and_false, or_self, false_or, or_false, true_or, or_true, not_true_eq_false, not_false_eq_true, Nat.reduceLeDiff, Nat.reduceLT, Nat.reduceAdd, Nat.reduceEqDiff, Nat.reduceMul, Nat.reduceSub, Value.category, Nat.zero_le, beq_self_eq_true]
      · have e : x = m := Int32.le_antisymm q2 (Int32.not_lt.mp q3)
        subst e
        have l1 := Int32.le_refl x
        simp (disch := omega) only [kX12_within_19, kX12_within_0, q1, l1, q3, hm, e_push, e_pushl, e_iload, e_lload, e_aload, e_istore, e_astore, e_lstore, e_iinc, e_iadd, e_isub, e_imul, e_iand, e_ior, e_ixor, e_ishl, e_ishr, e_iushr, e_idiv, e_irem, e_ladd, e_lsub, e_lmul, e_lcmp, e_mmax, e_mmin, e_i2l, e_l2i, e_i2b, e_i2c, e_dup, e_dup2, e_pop, e_icmp_eq, e_icmp_ne, e_icmp_lt, e_icmp_ge, e_icmp_gt, e_icmp_le, e_if_eq, e_if_ne, e_if_lt, e_if_ge, e_if_gt, e_if_le, e_getI, e_getR, e_putI, e_putZ, e_putR, e_iald, e_bald, e_zald, e_lald, e_aald, e_alen, e_iast, e_bast, e_zast, e_last, e_aast, e_iret, e_zret, e_lret, e_vret, e_obj, e_callV, e_callS, e_callT, e_acpy, e_ldcS, e_dn, e_ag, z_pop, List.getElem?_cons_zero, List.getElem?_cons_succ, List.set_cons_zero, List.set_cons_succ, List.length_cons, List.length_nil, z_nol, Option.map_some, Option.toList_some, Option.toList_none, List.cons_append, List.nil_append, n_lit, n_m1, n_m2, n_m1lt, n_m1le, n_rem, n_div, n_out, n_cl, n_eq, n_le, n_lt, n_add, n_mul, n_sub, n_nle, n_yle, n_nlt, n_ylt, n_neN, z_lay, z_sz, z_str, z_stI, z_stL, z_stR, eq_self, ↓reduceIte, true_and, and_true, and_self, false_and, and_false, or_self, false_or, or_false, true_or, or_true, not_true_eq_false, not_false_eq_true, Nat.reduceLeDiff, Nat.reduceLT, Nat.reduceAdd, Nat.reduceEqDiff, Nat.reduceMul, Nat.reduceSub, Value.category, Nat.zero_le, beq_self_eq_true]
    · have q3 : ¬ x < m := fun z => q2 (Int32.le_of_lt z)
      simp (disch := omega) only [kX12_within_19, kX12_within_0, q1, q2, q3, hm, e_push, e_pushl, e_iload, e_lload, e_aload, e_istore, e_astore, e_lstore, e_iinc, e_iadd, e_isub, e_imul, e_iand, e_ior, e_ixor, e_ishl, e_ishr, e_iushr, e_idiv, e_irem, e_ladd, e_lsub, e_lmul, e_lcmp, e_mmax, e_mmin, e_i2l, e_l2i, e_i2b, e_i2c, e_dup, e_dup2, e_pop, e_icmp_eq, e_icmp_ne, e_icmp_lt, e_icmp_ge, e_icmp_gt, e_icmp_le, e_if_eq, e_if_ne, e_if_lt, e_if_ge, e_if_gt, e_if_le, e_getI, e_getR, e_putI, e_putZ, e_putR, e_iald, e_bald, e_zald, e_lald, e_aald, e_alen, e_iast, e_bast, e_zast, e_last, e_aast, e_iret, e_zret, e_lret, e_vret, e_obj, e_callV, e_callS, e_callT, e_acpy, e_ldcS, e_dn, e_ag, z_pop, List.getElem?_cons_zero, List.getElem?_cons_succ, List.set_cons_zero, List.set_cons_succ, List.length_cons, List.length_nil, z_nol, Option.map_some, Option.toList_some, Option.toList_none, List.cons_append, List.nil_append, n_lit, n_m1, n_m2, n_m1lt, n_m1le, n_rem, n_div, n_out, n_cl, n_eq, n_le, n_lt, n_add, n_mul, n_sub, n_nle, n_yle, n_nlt, n_ylt, n_neN, z_lay, z_sz, z_str, z_stI, z_stL, z_stR, eq_self, ↓reduceIte, true_and, and_true, and_self, false_and, and_false, or_self, false_or, or_false, true_or, or_true, not_true_eq_false, not_false_eq_true, Nat.reduceLeDiff, Nat.reduceLT, Nat.reduceAdd, Nat.reduceEqDiff, Nat.reduceMul, Nat.reduceSub, Value.category, Nat.zero_le, beq_self_eq_true]
  · have q3 : x < m := Int32.lt_trans (Int32.not_le.mp q1) hm
    have q4 : ¬ nI 0 < x := fun z => q1 (Int32.le_of_lt z)
    simp (disch := omega) only [kX12_within_19, kX12_within_0, q1, q3, q4, e_push, e_pushl, e_iload, e_lload, e_aload, e_istore, e_astore, e_lstore, e_iinc, e_iadd, e_isub, e_imul, e_iand, e_ior, e_ixor, e_ishl, e_ishr, e_iushr, e_idiv, e_irem, e_ladd, e_lsub, e_lmul, e_lcmp, e_mmax, e_mmin, e_i2l, e_l2i, e_i2b, e_i2c, e_dup, e_dup2, e_pop, e_icmp_eq, e_icmp_ne, e_icmp_lt, e_icmp_ge, e_icmp_gt, e_icmp_le, e_if_eq, e_if_ne, e_if_lt, e_if_ge, e_if_gt, e_if_le, e_getI, e_getR, e_putI, e_putZ, e_putR, e_iald, e_bald, e_zald, e_lald, e_aald, e_alen, e_iast, e_bast, e_zast, e_last, e_aast, e_iret, e_zret, e_lret, e_vret, e_obj, e_callV, e_callS, e_callT, e_acpy, e_ldcS, e_dn, e_ag, z_pop, List.getElem?_cons_zero, List.getElem?_cons_succ, List.set_cons_zero, List.set_cons_succ, List.length_cons, List.length_nil, z_nol, Option.map_some, Option.toList_some, Option.toList_none, List.cons_append, List.nil_append, n_lit, n_m1, n_m2, n_m1lt, n_m1le, n_rem, n_div, n_out, n_cl, n_eq, n_le, n_lt, n_add, n_mul, n_sub, n_nle, n_yle, n_nlt, n_ylt, n_neN, z_lay, z_sz, z_str, z_stI, z_stL, z_stR, eq_self, ↓reduceIte, true_and, and_true, and_self, false_and, and_false, or_self, false_or, or_false, true_or, or_true, not_true_eq_false, not_false_eq_true, Nat.reduceLeDiff, Nat.reduceLT, Nat.reduceAdd, Nat.reduceEqDiff, Nat.reduceMul, Nat.reduceSub, Value.category, Nat.zero_le, beq_self_eq_true]
theorem r_law_lp {I : Nat → Nat → Int32} {L : Nat → Nat → Int64} {Z : zZ} {M : Nat} {vs : Nat → Int32} {a1 a3 : Nat} (h : isMod Z M) (hv : ∀ k, k < 9 → I (M + 27) k = vs k) (h3 : a3 < 8) {e : Nat} (he : e ≤ 260) (hl : I (M + 18) a3 = nI e) : ∀ (bs : List sB) (f : Nat) (J : Nat → Nat → Int32) (a5 a6 : Option Value) (a2 : Int32), f + bs.length = e → (∀ b q, bs[b]? = some q → brR I M (f + b) q) → (∀ q ∈ bs, goodB q) → J M 45 = nI 0 → (∀ q, q ≠ M → q ≠ M + 28 → J q = I q) → (∀ j, j ≠ 45 → J M j = I M j) →
    ∃ J', q_lp bX12_lawTells_39 [some (.ref (M)), some (.int (nI (a1))), some (.int (a2)), some (.int (nI (a3))), some (.int (nI (f))), a5, a6] [] (J, L, Z) = some (some (.int (evL vs bs)), (J', L, Z)) ∧ (∀ q, q ≠ M → q ≠ M + 28 → J' q = I q) ∧ (∀ j, j ≠ 45 → J' M j = I M j) := by
  intro bs
  induction bs with
  | nil =>
    intro f J a5 a6 a2 hf hb hg h0 hJ hJM
    have u1 : J (M + 18) a3 = nI e := by rw [hJ _ (by omega) (by omega), hl]
    simp only [List.length_nil, Nat.add_zero] at hf
    refine ⟨J, ?_, hJ, hJM⟩
    rw [q_lp_eq]
    simp (disch := omega) only [bX12_lawTells_39, kX12_lawTells_159, kX12_lawTells_152, kX12_lawTells_119, kX12_lawTells_107, kX12_lawTells_39, kX12_lawTells_0, h.1, mr_lawLast h, ml_lawLast h, u1, evL, e_push, e_pushl, e_iload, e_lload, e_aload, e_istore, e_astore, e_lstore, e_iinc, e_iadd, e_isub, e_imul, e_iand, e_ior, e_ixor, e_ishl, e_ishr, e_iushr, e_idiv, e_irem, e_ladd, e_lsub, e_lmul, e_lcmp, e_mmax, e_mmin, e_i2l, e_l2i, e_i2b, e_i2c, e_dup, e_dup2, e_pop, e_icmp_eq, e_icmp_ne, e_icmp_lt, e_icmp_ge, e_icmp_gt, e_icmp_le, e_if_eq, e_if_ne, e_if_lt, e_if_ge, e_if_gt, e_if_le, e_getI, e_getR, e_putI, e_putZ, e_putR, e_iald, e_bald, e_zald, e_lald, e_aald, e_alen, e_iast, e_bast, e_zast, e_last, e_aast, e_iret, e_zret, e_lret, e_vret, e_obj, e_callV, e_callS, e_callT, e_acpy, e_ldcS, e_dn, e_ag, z_pop, List.getElem?_cons_zero, List.getElem?_cons_succ, List.set_cons_zero, List.set_cons_succ, List.length_cons, List.length_nil, z_nol, Option.map_some, Option.toList_some, Option.toList_none, List.cons_append, List.nil_append, n_lit, n_m1, n_m2, n_m1lt, n_m1le, n_rem, n_div, n_out, n_cl, n_eq, n_le, n_lt, n_add, n_mul, n_sub, n_nle, n_yle, n_nlt, n_ylt, n_neN, z_lay, z_sz, z_str, z_stI, z_stL, z_stR, eq_self, ↓reduceIte, true_and, and_true, and_self, false_and, and_false, or_self, false_or, or_false, true_or, or_true, not_true_eq_false, not_false_eq_true, Nat.reduceLeDiff, Nat.reduceLT, Nat.reduceAdd, Nat.reduceEqDiff, Nat.reduceMul, Nat.reduceSub, Value.category, Nat.zero_le, beq_self_eq_true]
  | cons q bs ih =>
    intro f J a5 a6 a2 hf hb hg h0 hJ hJM
    simp only [List.length_cons] at hf
    have u1 : J (M + 18) a3 = nI e := by rw [hJ _ (by omega) (by omega), hl]
    have br := hb 0 q rfl
    rw [Nat.add_zero] at br
    obtain ⟨g1, g2⟩ := hg q List.mem_cons_self
    obtain ⟨p, c1, c2, c3, c4⟩ := br
    have w1 : J (M + 22) f = nI p := by rw [hJ _ (by omega) (by omega), c1]
    have w2 : J (M + 23) f = nI (p + q.2.length) := by rw [hJ _ (by omega) (by omega), c2]
    -- the term that is answered
    have term : ∀ (K : Nat → Nat → Int32) (b5 b6 : Option Value), K M 45 = nI 0 → (∀ q, q ≠ M → q ≠ M + 28 → K q = I q) → (∀ j, j ≠ 45 → K M j = I M j) → ∃ J', kX12_lawTells_119 [some (.ref (M)), some (.int (nI (a1))), some (.int (a2)), some (.int (nI (a3))), some (.int (nI (f))), b5, b6] [] (K, L, Z) = some (some (.int (((ev vs q.2 []).bind List.head?).getD (nI 0))), (J', L, Z)) ∧ (∀ q, q ≠ M → q ≠ M + 28 → J' q = I q) ∧ (∀ j, j ≠ 45 → J' M j = I M j) := by
      intro K b5 b6 k0 k1 k2
      obtain ⟨x, J', r1, r2, r3, r4⟩ := r_termOf (I := K) (L := L) (vs := vs) h (fun k hk => by rw [k1 _ (by omega) (by omega)]; exact hv k hk) (c3.kept (k1 _ (by omega) (by omega)) (k1 _ (by omega) (by omega))) g1 (Nat.le_refl _)
      have v1 : K (M + 22) f = nI p := by rw [k1 _ (by omega) (by omega), c1]
      have v2 : K (M + 23) f = nI (p + q.2.length) := by rw [k1 _ (by omega) (by omega), c2]
      rw [k0] at r4
      refine ⟨J', ?_, fun q q1 q2 => by rw [r2 q q1 q2, k1 q q1 q2], fun j hj => by rw [r3 j hj, k2 j hj]⟩
      rcases evQ_getD r4 with ⟨d1, d2⟩ | ⟨d1, d2⟩
      · simp (disch := omega) only [kX12_lawTells_159, kX12_lawTells_152, kX12_lawTells_119, kX12_lawTells_107, kX12_lawTells_39, kX12_lawTells_0, h.1, mr_testTo h, ml_testTo h, mr_termTo h, ml_termTo h, v1, v2, r1, d1, d2, e_push, e_pushl, e_iload, e_lload, e_aload, e_istore, e_astore, e_lstore, e_iinc, e_iadd, e_isub, e_imul, e_iand, e_ior, e_ixor, e_ishl, e_ishr, e_iushr, e_idiv, e_irem, e_ladd, e_lsub, e_lmul, e_lcmp, e_mmax, e_mmin, e_i2l, e_l2i, e_i2b, e_i2c, e_dup, e_dup2, e_pop, e_icmp_eq, e_icmp_ne, e_icmp_lt, e_icmp_ge, e_icmp_gt, e_icmp_le, e_if_eq, e_if_ne, e_if_lt, e_if_ge, e_if_gt, e_if_le, e_getI, e_getR, e_putI, e_putZ, e_putR, e_iald, e_bald, e_zald, e_lald, e_aald, e_alen, e_iast, e_bast, e_zast, e_last, e_aast, e_iret, e_zret, e_lret, e_vret, e_obj, e_callV, e_callS, e_callT, e_acpy, e_ldcS, e_dn, e_ag, z_pop, List.getElem?_cons_zero, List.getElem?_cons_succ, List.set_cons_zero, List.set_cons_succ, List.length_cons, List.length_nil, z_nol, Option.map_some, Option.toList_some, Option.toList_none, List.cons_append, List.nil_append, n_lit, n_m1, n_m2, n_m1lt, n_m1le, n_rem, n_div, n_out, n_cl, n_eq, n_le, n_lt, n_add, n_mul, n_sub, n_nle, n_yle, n_nlt, n_ylt, n_neN, z_lay, z_sz, z_str, z_stI, z_stL, z_stR, eq_self, ↓reduceIte, true_and, and_true, and_self, false_and, and_false, or_self, false_or, or_false, true_or, or_true, not_true_eq_false, not_false_eq_true, Nat.reduceLeDiff, Nat.reduceLT, Nat.reduceAdd, Nat.reduceEqDiff, Nat.reduceMul, Nat.reduceSub, Value.category, Nat.zero_le, beq_self_eq_true]
      · simp (disch := omega) only [kX12_lawTells_159, kX12_lawTells_152, kX12_lawTells_119, kX12_lawTells_107, kX12_lawTells_39, kX12_lawTells_0, h.1, mr_testTo h, ml_testTo h, mr_termTo h, ml_termTo h, v1, v2, r1, d1, d2, e_push, e_pushl, e_iload, e_lload, e_aload, e_istore, e_astore, e_lstore, e_iinc, e_iadd, e_isub, e_imul, e_iand, e_ior, e_ixor, e_ishl, e_ishr, e_iushr, e_idiv, e_irem, e_ladd, e_lsub, e_lmul, e_lcmp, e_mmax, e_mmin, e_i2l, e_l2i, e_i2b, e_i2c, e_dup, e_dup2, e_pop, e_icmp_eq, e_icmp_ne, e_icmp_lt, e_icmp_ge, e_icmp_gt, e_icmp_le, e_if_eq, e_if_ne, e_if_lt, e_if_ge, e_if_gt, e_if_le, e_getI, e_getR, e_putI, e_putZ, e_putR, e_iald, e_bald, e_zald, e_lald, e_aald, e_alen, e_iast, e_bast, e_zast, e_last, e_aast, e_iret, e_zret, e_lret, e_vret, e_obj, e_callV, e_callS, e_callT, e_acpy, e_ldcS, e_dn, e_ag, z_pop, List.getElem?_cons_zero, List.getElem?_cons_succ, List.set_cons_zero, List.set_cons_succ, List.length_cons, List.length_nil, z_nol, Option.map_some, Option.toList_some, Option.toList_none, List.cons_append, List.nil_append, n_lit, n_m1, n_m2, n_m1lt, n_m1le, n_rem, n_div, n_out, n_cl, n_eq, n_le, n_lt, n_add, n_mul, n_sub, n_nle, n_yle, n_nlt, n_ylt, n_neN, z_lay, z_sz, z_str, z_stI, z_stL, z_stR, eq_self, ↓reduceIte, true_and, and_true, and_self, false_and, and_false, or_self, false_or, or_false, true_or, or_true, not_true_eq_false, not_false_eq_true, Nat.reduceLeDiff, Nat.reduceLT, Nat.reduceAdd, Nat.reduceEqDiff, Nat.reduceMul, Nat.reduceSub, Value.category, Nat.zero_le, beq_self_eq_true]
    rw [q_lp_eq, evL_cons]
    cases hq : q.1 with
    | none =>
      rw [hq] at c4
      have c4 : I (M + 19) f = nI 0 := c4
      have w3 : J (M + 19) f = nI 0 := by rw [hJ _ (by omega) (by omega), c4]
      obtain ⟨J', t1, t2⟩ := term J a5 a6 h0 hJ hJM
      refine ⟨J', ?_, t2⟩
      have eB : evB vs q = some ((ev vs q.2 []).bind List.head?) := by unfold evB; rw [hq]
      rw [eB]
      simp (disch := omega) only [bX12_lawTells_39, h.1, mr_lawLast h, ml_lawLast h, mr_hasTest h, ml_hasTest h, u1, w3, t1, e_push, e_pushl, e_iload, e_lload, e_aload, e_istore, e_astore, e_lstore, e_iinc, e_iadd, e_isub, e_imul, e_iand, e_ior, e_ixor, e_ishl, e_ishr, e_iushr, e_idiv, e_irem, e_ladd, e_lsub, e_lmul, e_lcmp, e_mmax, e_mmin, e_i2l, e_l2i, e_i2b, e_i2c, e_dup, e_dup2, e_pop, e_icmp_eq, e_icmp_ne, e_icmp_lt, e_icmp_ge, e_icmp_gt, e_icmp_le, e_if_eq, e_if_ne, e_if_lt, e_if_ge, e_if_gt, e_if_le, e_getI, e_getR, e_putI, e_putZ, e_putR, e_iald, e_bald, e_zald, e_lald, e_aald, e_alen, e_iast, e_bast, e_zast, e_last, e_aast, e_iret, e_zret, e_lret, e_vret, e_obj, e_callV, e_callS, e_callT, e_acpy, e_ldcS, e_dn, e_ag, z_pop, List.getElem?_cons_zero, List.getElem?_cons_succ, List.set_cons_zero, List.set_cons_succ, List.length_cons, List.length_nil, z_nol, Option.map_some, Option.toList_some, Option.toList_none, List.cons_append, List.nil_append, n_lit, n_m1, n_m2, n_m1lt, n_m1le, n_rem, n_div, n_out, n_cl, n_eq, n_le, n_lt, n_add, n_mul, n_sub, n_nle, n_yle, n_nlt, n_ylt, n_neN, z_lay, z_sz, z_str, z_stI, z_stL, z_stR, eq_self, ↓reduceIte, true_and, and_true, and_self, false_and, and_false, or_self, false_or, or_false, true_or, or_true, not_true_eq_false, not_false_eq_true, Nat.reduceLeDiff, Nat.reduceLT, Nat.reduceAdd, Nat.reduceEqDiff, Nat.reduceMul, Nat.reduceSub, Value.category, Nat.zero_le, beq_self_eq_true]
    | some t =>
      rw [hq] at c4
      have c4 : I (M + 19) f = nI 1 ∧ ∃ p1 p2, I (M + 20) f = nI p1 ∧ I (M + 21) f = nI p2 ∧ p2 = p1 + t.1.length ∧ p = p2 + t.2.length ∧ segR I M p1 t.1 ∧ segR I M p2 t.2 := c4
      obtain ⟨d1, p1, p2, d2, d3, d4, d5, d6, d7⟩ := c4
      have w3 : J (M + 19) f = nI 1 := by rw [hJ _ (by omega) (by omega), d1]
      have w4 : J (M + 20) f = nI p1 := by rw [hJ _ (by omega) (by omega), d2]
      have w5 : J (M + 21) f = nI (p1 + t.1.length) := by rw [hJ _ (by omega) (by omega), d3, d4]
      obtain ⟨x1, J1, r1, r2, r3, r4⟩ := r_termOf (I := J) (L := L) (vs := vs) h (fun k hk => by rw [hJ _ (by omega) (by omega)]; exact hv k hk) (d6.kept (hJ _ (by omega) (by omega)) (hJ _ (by omega) (by omega))) (g2 t hq).1 (Nat.le_refl _)
      have y1 : ∀ q, q ≠ M → q ≠ M + 28 → J1 q = I q := fun q q1 q2 => by rw [r2 q q1 q2, hJ q q1 q2]
      have w6 : J1 (M + 21) f = nI p2 := by rw [y1 _ (by omega) (by omega), d3]
      have w7 : J1 (M + 22) f = nI (p2 + t.2.length) := by rw [y1 _ (by omega) (by omega), c1, d5]
      obtain ⟨x2, J2, s1, s2, s3, s4⟩ := r_termOf (I := J1) (L := L) (vs := vs) h (fun k hk => by rw [y1 _ (by omega) (by omega)]; exact hv k hk) (d7.kept (y1 _ (by omega) (by omega)) (y1 _ (by omega) (by omega))) (g2 t hq).2 (Nat.le_refl _)
      have y2 : ∀ q, q ≠ M → q ≠ M + 28 → J2 q = I q := fun q q1 q2 => by rw [s2 q q1 q2, y1 q q1 q2]
      have y3 : ∀ j, j ≠ 45 → J2 M j = I M j := fun j hj => by rw [s3 j hj, r3 j hj, hJM j hj]
      have eB : evB vs q = evT ((ev vs t.1 []).bind List.head?) ((ev vs t.2 []).bind List.head?) ((ev vs q.2 []).bind List.head?) := by unfold evB; rw [hq]
      rw [eB]
      rw [h0] at r4
      generalize (ev vs t.1 []).bind List.head? = o1 at r4 ⊢
      generalize (ev vs t.2 []).bind List.head? = o2 at s4 ⊢
      have dead : J2 M 45 = nI 1 → bX12_lawTells_39 [some (.ref (M)), some (.int (nI (a1))), some (.int (a2)), some (.int (nI (a3))), some (.int (nI (f))), a5, a6] [] (J, L, Z) = some (.inr (some (.int (nI 0)), (J2, L, Z))) := by
        intro hd
        simp (disch := omega) only [bX12_lawTells_39, kX12_lawTells_107, h.1, mr_lawLast h, ml_lawLast h, mr_hasTest h, ml_hasTest h, mr_testFrom h, ml_testFrom h, mr_testMid h, ml_testMid h, mr_testTo h, ml_testTo h, u1, w3, w4, w5, w6, w7, r1, s1, hd, e_push, e_pushl, e_iload, e_lload, e_aload, e_istore, e_astore, e_lstore, e_iinc, e_iadd, e_isub, e_imul, e_iand, e_ior, e_ixor, e_ishl, e_ishr, e_iushr, e_idiv, e_irem, e_ladd, e_lsub, e_lmul, e_lcmp, e_mmax, e_mmin, e_i2l, e_l2i, e_i2b, e_i2c, e_dup, e_dup2, e_pop, e_icmp_eq, e_icmp_ne, e_icmp_lt, e_icmp_ge, e_icmp_gt, e_icmp_le, e_if_eq, e_if_ne, e_if_lt, e_if_ge, e_if_gt, e_if_le, e_getI, e_getR, e_putI, e_putZ, e_putR, e_iald, e_bald, e_zald, e_lald, e_aald, e_alen, e_iast, e_bast, e_zast, e_last, e_aast, e_iret, e_zret, e_lret, e_vret, e_obj, e_callV, e_callS, e_callT, e_acpy, e_ldcS, e_dn, e_ag, z_pop, List.getElem?_cons_zero, List.getElem?_cons_succ, List.set_cons_zero, List.set_cons_succ, List.length_cons, List.length_nil, z_nol, Option.map_some, Option.toList_some, Option.toList_none, List.cons_append, List.nil_append, n_lit, n_m1, n_m2, n_m1lt, n_m1le, n_rem, n_div, n_out, n_cl, n_eq, n_le, n_lt, n_add, n_mul, n_sub, n_nle, n_yle, n_nlt, n_ylt, n_neN, z_lay, z_sz, z_str, z_stI, z_stL, z_stR, eq_self, ↓reduceIte, true_and, and_true, and_self, false_and, and_false, or_self, false_or, or_false, true_or, or_true, not_true_eq_false, not_false_eq_true, Nat.reduceLeDiff, Nat.reduceLT, Nat.reduceAdd, Nat.reduceEqDiff, Nat.reduceMul, Nat.reduceSub, Value.category, Nat.zero_le, beq_self_eq_true]
      cases o1 with
      | none =>
        have r4 : J1 M 45 = nI 1 := r4
        rw [r4] at s4
        exact ⟨J2, by rw [dead s4.dead]; rfl, y2, y3⟩
      | some v1 =>
        obtain ⟨rfl, r4⟩ : x1 = v1 ∧ J1 M 45 = nI 0 := r4
        rw [r4] at s4
        cases o2 with
        | none => exact ⟨J2, by rw [dead s4]; rfl, y2, y3⟩
        | some v2 =>
          obtain ⟨rfl, s4⟩ : x2 = v2 ∧ J2 M 45 = nI 0 := s4
          by_cases z : x1 < x2
          · rw [show evT (some x1) (some x2) ((ev vs q.2 []).bind List.head?) = some ((ev vs q.2 []).bind List.head?) from if_pos z]
            obtain ⟨J', t1, t2⟩ := term J2 (some (.int x1)) (some (.int x2)) s4 y2 y3
            refine ⟨J', ?_, t2⟩
            simp (disch := omega) only [bX12_lawTells_39, h.1, mr_lawLast h, ml_lawLast h, mr_hasTest h, ml_hasTest h, mr_testFrom h, ml_testFrom h, mr_testMid h, ml_testMid h, mr_testTo h, ml_testTo h, u1, w3, w4, w5, w6, w7, r1, s1, s4, z, t1, e_push, e_pushl, e_iload, e_lload, e_aload, e_istore, e_astore, e_lstore, e_iinc, e_iadd, e_isub, e_imul, e_iand, e_ior, e_ixor, e_ishl, e_ishr, e_iushr, e_idiv, e_irem, e_ladd, e_lsub, e_lmul, e_lcmp, e_mmax, e_mmin, e_i2l, e_l2i, e_i2b, e_i2c, e_dup, e_dup2, e_pop, e_icmp_eq, e_icmp_ne, e_icmp_lt, e_icmp_ge, e_icmp_gt, e_icmp_le, e_if_eq, e_if_ne, e_if_lt, e_if_ge, e_if_gt, e_if_le, e_getI, e_getR, e_putI, e_putZ, e_putR, e_iald, e_bald, e_zald, e_lald, e_aald, e_alen, e_iast, e_bast, e_zast, e_last, e_aast, e_iret, e_zret, e_lret, e_vret, e_obj, e_callV, e_callS, e_callT, e_acpy, e_ldcS, e_dn, e_ag, z_pop, List.getElem?_cons_zero, List.getElem?_cons_succ, List.set_cons_zero, List.set_cons_succ, List.length_cons, List.length_nil, z_nol, Option.map_some, Option.toList_some, Option.toList_none, List.cons_append, List.nil_append, n_lit, n_m1, n_m2, n_m1lt, n_m1le, n_rem, n_div, n_out, n_cl, n_eq, n_le, n_lt, n_add, n_mul, n_sub, n_nle, n_yle, n_nlt, n_ylt, n_neN, z_lay, z_sz, z_str, z_stI, z_stL, z_stR, eq_self, ↓reduceIte, true_and, and_true, and_self, false_and, and_false, or_self, false_or, or_false, true_or, or_true, not_true_eq_false, not_false_eq_true, Nat.reduceLeDiff, Nat.reduceLT, Nat.reduceAdd, Nat.reduceEqDiff, Nat.reduceMul, Nat.reduceSub, Value.category, Nat.zero_le, beq_self_eq_true]
          · rw [show evT (some x1) (some x2) ((ev vs q.2 []).bind List.head?) = none from if_neg z]
            obtain ⟨J', t1, t2⟩ := ih (f + 1) J2 (some (.int x1)) (some (.int x2)) a2 (by omega) (fun b q hb' => by rw [show f + 1 + b = f + (b + 1) by omega]; exact hb (b + 1) q hb') (fun q hq => hg q (List.mem_cons_of_mem _ hq)) s4 y2 y3
            refine ⟨J', ?_, t2⟩
            show _ = some (some (Value.int (evL vs bs)), (J', L, Z))
            rw [← t1]
            simp (disch := omega) only [bX12_lawTells_39, h.1, mr_lawLast h, ml_lawLast h, mr_hasTest h, ml_hasTest h, mr_testFrom h, ml_testFrom h, mr_testMid h, ml_testMid h, mr_testTo h, ml_testTo h, u1, w3, w4, w5, w6, w7, r1, s1, s4, z, e_push, e_pushl, e_iload, e_lload, e_aload, e_istore, e_astore, e_lstore, e_iinc, e_iadd, e_isub, e_imul, e_iand, e_ior, e_ixor, e_ishl, e_ishr, e_iushr, e_idiv, e_irem, e_ladd, e_lsub, e_lmul, e_lcmp, e_mmax, e_mmin, e_i2l, e_l2i, e_i2b, e_i2c, e_dup, e_dup2, e_pop, e_icmp_eq, e_icmp_ne, e_icmp_lt, e_icmp_ge, e_icmp_gt, e_icmp_le, e_if_eq, e_if_ne, e_if_lt, e_if_ge, e_if_gt, e_if_le, e_getI, e_getR, e_putI, e_putZ, e_putR, e_iald, e_bald, e_zald, e_lald, e_aald, e_alen, e_iast, e_bast, e_zast, e_last, e_aast, e_iret, e_zret, e_lret, e_vret, e_obj, e_callV, e_callS, e_callT, e_acpy, e_ldcS, e_dn, e_ag, z_pop, List.getElem?_cons_zero, List.getElem?_cons_succ, List.set_cons_zero, List.set_cons_succ, List.length_cons, List.length_nil, z_nol, Option.map_some, Option.toList_some, Option.toList_none, List.cons_append, List.nil_append, n_lit, n_m1, n_m2, n_m1lt, n_m1le, n_rem, n_div, n_out, n_cl, n_eq, n_le, n_lt, n_add, n_mul, n_sub, n_nle, n_yle, n_nlt, n_ylt, n_neN, z_lay, z_sz, z_str, z_stI, z_stL, z_stR, eq_self, ↓reduceIte, true_and, and_true, and_self, false_and, and_false, or_self, false_or, or_false, true_or, or_true, not_true_eq_false, not_false_eq_true, Nat.reduceLeDiff, Nat.reduceLT, Nat.reduceAdd, Nat.reduceEqDiff, Nat.reduceMul, Nat.reduceSub, Value.category, Nat.zero_le, beq_self_eq_true]
theorem r_lawTells {I : Nat → Nat → Int32} {L : Nat → Nat → Int64} {Z : zZ} {B tx lv nc k : Nat} {ch : Nat → Nat → Nat} {vs : Nat → Int32} {p : Int32} {F : Nat → (Nat → Int32) → Int32 → Int32} (h : isMod Z (B + 200)) (hT : refTab I (B + 200) lv nc ch) (hF : lawW I L B tx lv F) (hv : ∀ k, k < 9 → I (B + 200 + 27) k = vs k) (hk : k < 4) :
    ∃ J, fX12_lawTells [.ref (B + 200), .int (nI k), .int p] (I, L, Z) = some (some (.int (F k vs p)), (J, L, Z)) ∧ (∀ q, q ≠ B + 200 → q ≠ B + 200 + 28 → J q = I q) ∧ (∀ j, j ≠ 45 → J (B + 200) j = I (B + 200) j) := by
  obtain ⟨K, W, sz, g1, g2⟩ := hF
  have t1 := hT.1
  have t2 := hT.2.1
  rcases g2 k hk with ⟨a1, a2, f, a3, a4, a5⟩ | ⟨s, j, f, bs, a1, a2, a3, a4, a5, a6, a7, a8⟩
  · refine ⟨I, ?_, fun _ _ _ => rfl, fun _ _ => rfl⟩
    rw [a2]
    show kX12_lawTells_0 [some (.ref ((B + 200))), some (.int (nI (k))), some (.int (p)), none, none, none, none] [] (I, L, Z) = _
    simp (disch := omega) only [kX12_lawTells_159, kX12_lawTells_152, kX12_lawTells_119, kX12_lawTells_107, kX12_lawTells_39, kX12_lawTells_0, h.1, mr_lawFirst h, ml_lawFirst h, mr_lawLast h, ml_lawLast h, t1, a4, a5, e_push, e_pushl, e_iload, e_lload, e_aload, e_istore, e_astore, e_lstore, e_iinc, e_iadd, e_isub, e_imul, e_iand, e_ior, e_ixor, e_ishl, e_ishr, e_iushr, e_idiv, e_irem, e_ladd, e_lsub, e_lmul, e_lcmp, e_mmax, e_mmin, e_i2l, e_l2i, e_i2b, e_i2c, e_dup, e_dup2, e_pop, e_icmp_eq, e_icmp_ne, e_icmp_lt, e_icmp_ge, e_icmp_gt, e_icmp_le, e_if_eq, e_if_ne, e_if_lt, e_if_ge, e_if_gt, e_if_le, e_getI, e_getR, e_putI, e_putZ, e_putR, e_iald, e_bald, e_zald, e_lald, e_aald, e_alen, e_iast, e_bast, e_zast, e_last, e_aast, e_iret, e_zret, e_lret, e_vret, e_obj, e_callV, e_callS, e_callT, e_acpy, e_ldcS, e_dn, e_ag, z_pop, List.getElem?_cons_zero, List.getElem?_cons_succ, List.set_cons_zero, List.set_cons_succ, List.length_cons, List.length_nil, z_nol, Option.map_some, Option.toList_some, Option.toList_none, List.cons_append, List.nil_append, n_lit, n_m1, n_m2, n_m1lt, n_m1le, n_rem, n_div, n_out, n_cl, n_eq, n_le, n_lt, n_add, n_mul, n_sub, n_nle, n_yle, n_nlt, n_ylt, n_neN, z_lay, z_sz, z_str, z_stI, z_stL, z_stR, eq_self, ↓reduceIte, true_and, and_true, and_self, false_and, and_false, or_self, false_or, or_false, true_or, or_true, not_true_eq_false, not_false_eq_true, Nat.reduceLeDiff, Nat.reduceLT, Nat.reduceAdd, Nat.reduceEqDiff, Nat.reduceMul, Nat.reduceSub, Value.category, Nat.zero_le, beq_self_eq_true]
  · by_cases hb : bs = []
    · exfalso
      subst hb
      have : ∀ n i j, sLw K W n i ≠ (0, j, []) := by
        intro n i j z
        cases n with
        | zero =>
          rw [sLw] at z
          split at z
          · cases z
          · obtain ⟨-, e2⟩ := sBind_ok z
            cases e2
        | succ n =>
          rw [sLw] at z
          split at z
          · obtain ⟨-, e2⟩ := sBind_ok z
            obtain ⟨-, e4⟩ := sBind_ok e2
            cases e4
          · obtain ⟨-, e2⟩ := sBind_ok z
            cases e2
      exact this _ _ _ a3
    · have hl : 0 < bs.length := List.length_pos_iff.mpr hb
      obtain ⟨J', r1, r2, r3⟩ := r_law_lp (L := L) (a1 := k) (a3 := 4 * lv + k) h hv (by omega) a7 a6 bs f (z_up I (B + 200) 45 (nI 0)) none none p rfl a8 (sLw_good (fun i hi => g1.int i hi) _ _ _ _ a3) zup_at (fun q q1 q2 => zup_off q1) (fun j hj => zup_ne hj)
      refine ⟨J', ?_, r2, r3⟩
      rw [a4, ← r1]
      have u4 : z_up I (B + 200) 45 (nI 0) (B + 200 + 17) (4 * lv + k) = nI f := by rw [zup_off (by omega), a5]
      have hne : ¬ f = f + bs.length := by omega
      show kX12_lawTells_0 [some (.ref ((B + 200))), some (.int (nI (k))), some (.int (p)), none, none, none, none] [] (I, L, Z) = _
      simp (disch := omega) only [kX12_lawTells_0, kX12_lawTells_39, h.1, mr_lawFirst h, ml_lawFirst h, mr_lawLast h, ml_lawLast h, t1, a5, a6, u4, hne, e_push, e_pushl, e_iload, e_lload, e_aload, e_istore, e_astore, e_lstore, e_iinc, e_iadd, e_isub, e_imul, e_iand, e_ior, e_ixor, e_ishl, e_ishr, e_iushr, e_idiv, e_irem, e_ladd, e_lsub, e_lmul, e_lcmp, e_mmax, e_mmin, e_i2l, e_l2i, e_i2b, e_i2c, e_dup, e_dup2, e_pop, e_icmp_eq, e_icmp_ne, e_icmp_lt, e_icmp_ge, e_icmp_gt, e_icmp_le, e_if_eq, e_if_ne, e_if_lt, e_if_ge, e_if_gt, e_if_le, e_getI, e_getR, e_putI, e_putZ, e_putR, e_iald, e_bald, e_zald, e_lald, e_aald, e_alen, e_iast, e_bast, e_zast, e_last, e_aast, e_iret, e_zret, e_lret, e_vret, e_obj, e_callV, e_callS, e_callT, e_acpy, e_ldcS, e_dn, e_ag, z_pop, List.getElem?_cons_zero, List.getElem?_cons_succ, List.set_cons_zero, List.set_cons_succ, List.length_cons, List.length_nil, z_nol, Option.map_some, Option.toList_some, Option.toList_none, List.cons_append, List.nil_append, n_lit, n_m1, n_m2, n_m1lt, n_m1le, n_rem, n_div, n_out, n_cl, n_eq, n_le, n_lt, n_add, n_mul, n_sub, n_nle, n_yle, n_nlt, n_ylt, n_neN, z_lay, z_sz, z_str, z_stI, z_stL, z_stR, eq_self, ↓reduceIte, true_and, and_true, and_self, false_and, and_false, or_self, false_or, or_false, true_or, or_true, not_true_eq_false, not_false_eq_true, Nat.reduceLeDiff, Nat.reduceLT, Nat.reduceAdd, Nat.reduceEqDiff, Nat.reduceMul, Nat.reduceSub, Value.category, Nat.zero_le, beq_self_eq_true]
