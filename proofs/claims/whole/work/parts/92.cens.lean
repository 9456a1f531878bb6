/-! the census -/
theorem n_andN (a b : Nat) : nI a &&& nI b = nI (a &&& b) := by
  apply Int32.toBitVec_inj.mp
  rw [Int32.toBitVec_and]
  show BitVec.ofNat 32 a &&& BitVec.ofNat 32 b = BitVec.ofNat 32 (a &&& b)
  apply BitVec.eq_of_getLsbD_eq
  intro i hi
  simp [BitVec.getLsbD_ofNat, Nat.testBit_and, hi]
def cenS (I : Nat → Nat → Int32) (B nc : Nat) (ch : Nat → Nat → Nat) (n t : Nat) : Prop := ∀ x, x < nc → I (B + 183) (n * 4 + x) = nI (madeV ch nc n x t) ∧ I (B + 184) (n * 4 + x) = oI (leastV ch nc n x t)
def cellsI (I : Nat → Nat → Int32) (ct s : Nat) (ch : Nat → Nat → Nat) (c : Nat → Nat) : Prop := ∀ d i, d + i < s → I ct (d * 8 + i) = nI (tri ch c d i)
theorem p_cenNote {I : Nat → Nat → Int32} {L : Nat → Nat → Int64} {Z : zZ} {B tx nc n v : Nat} {ch : Nat → Nat → Nat} {c : Nat → Nat} (h : isCls Z B tx) (h4 : nc ≤ 4) (hch : ∀ a b, a < nc → b < nc → ch a b < nc) (hn : n ≤ 8) (h1 : 1 ≤ n) (hv : v < 65536) (hc : ∀ i, i < n → c i < nc) (hv2 : v = num nc c n) (hC : trI I (B + 179) (B + 180) n ch c) (hS : cenS I B nc ch n v) :
    ∃ J, fX0_noteRow [.ref (B + 178), .int (nI n), .int (nI v)] (I, L, Z) = some (some (.int (nI (2 ^ lastV ch nc n v))), (J, L, Z)) ∧ lastV ch nc n v < nc ∧ cenS J B nc ch n (v + 1) ∧ (∀ q, q ≠ B + 183 → q ≠ B + 184 → J q = I q) ∧ ∀ j, (j < n * 4 ∨ n * 4 + 4 ≤ j) → J (B + 183) j = I (B + 183) j ∧ J (B + 184) j = I (B + 184) j := by
  have h0 : 0 < nc := by have := hc 0 (by omega); omega
  have a1 := p_lastChild (I := I) (L := L) (cg_179 h) hC (by omega) hn
  have e1 : tri ch c (n - 1) 0 = lastV ch nc n v := by
    rw [hv2]
    exact tri_congr (s := n) (fun i hi => (dig_num h0 hc i hi).symm) (n - 1) 0 (by omega)
  rw [e1] at a1
  have l1 := lastV_lt (n := n) (v := v) hch h0 h1
  obtain ⟨s1, s2⟩ := hS _ l1
  have e0 : fX0_noteRow [.ref (B + 178), .int (nI n), .int (nI v)] (I, L, Z) = kX0_noteRow_0 [some (Value.ref (B + 178)), some (Value.int (nI (n))), some (Value.int (nI (v))), none, none] [] (I, L, Z) := rfl
  rw [e0]
  generalize hl : lastV ch nc n v = l at *
  have m1 : ∀ x, madeV ch nc n x (v + 1) = madeV ch nc n x v + (if l = x then 1 else 0) := fun x => by rw [madeV, hl]
  have m2 : ∀ x, leastV ch nc n x (v + 1) = match leastV ch nc n x v with | some w => some w | none => if l = x then some v else none := fun x => by rw [leastV, hl]; cases leastV ch nc n x v <;> rfl
  have o1 : z_up I (B + 183) (n * 4 + l) (nI (madeV ch nc n l v + 1)) (B + 184) (n * 4 + l) = oI (leastV ch nc n l v) := by rw [zup_off (by omega)]; exact s2
  cases hq : leastV ch nc n l v with
  | none =>
    rw [hq] at o1
    have o1 : z_up I (B + 183) (n * 4 + l) (nI (madeV ch nc n l v + 1)) (B + 184) (n * 4 + l) = nM2 := o1
    refine ⟨z_up (z_up I (B + 183) (n * 4 + l) (nI (madeV ch nc n l v + 1))) (B + 184) (n * 4 + l) (nI v), ?_, l1, fun x hx => ?_, fun q z1 z2 => by rw [zup_off z2, zup_off z1], fun j hj => ⟨by rw [zup_off (by omega), zup_ne (by omega)], by rw [zup_ne (by omega), zup_off (by omega)]⟩⟩
    · simp (disch := omega) only [kX0_noteRow_46, kX0_noteRow_0, cl_178 h, cr_178_0 h, cr_178_2 h, cr_178_3 h, cl_179 h, cl_183 h, cl_184 h, a1, s1, o1, n_shl, e_push, e_pushl, e_iload, e_lload, e_aload, e_istore, e_astore, e_lstore, e_iinc, e_iadd, e_isub, e_imul, e_iand, e_ior, e_ixor, e_ishl, e_ishr, e_iushr, e_idiv, e_irem, e_ladd, e_lsub, e_lmul, e_lcmp, e_mmax, e_mmin, e_i2l, e_l2i, e_i2b, e_i2c, e_dup, e_dup2, e_pop, e_icmp_eq, e_icmp_ne, e_icmp_lt, e_icmp_ge, e_icmp_gt, e_icmp_le, e_if_eq, e_if_ne, e_if_lt, e_if_ge, e_if_gt, e_if_le, e_getI, e_getR, e_putI, e_putZ, e_putR, e_iald, e_bald, e_zald, e_lald, e_aald, e_alen, e_iast, e_bast, e_zast, e_last, e_aast, e_iret, e_zret, e_lret, e_vret, e_obj, e_callV, e_callS, e_callT, e_acpy, e_ldcS, e_dn, e_ag, z_pop, List.getElem?_cons_zero, List.getElem?_cons_succ, List.set_cons_zero, List.set_cons_succ, List.length_cons, List.length_nil, z_nol, Option.map_some, Option.toList_some, Option.toList_none, List.cons_append, List.nil_append, n_lit, n_m1, n_m2, n_m1lt, n_m1le, n_rem, n_div, n_out, n_cl, n_eq, n_le, n_lt, n_add, n_mul, n_sub, n_nle, n_yle, n_nlt, n_ylt, n_neN, z_lay, z_sz, z_str, z_stI, z_stL, z_stR, eq_self, ↓reduceIte, true_and, and_true, and_self, false_and, and_false, or_self, false_or, or_false, true_or, or_true, not_true_eq_false, not_false_eq_true, Nat.reduceLeDiff, Nat.reduceLT, Nat.reduceAdd, Nat.reduceEqDiff, Nat.reduceMul, Nat.reduceSub, Value.category, Nat.zero_le, beq_self_eq_true]
    · rw [m1, m2]
      by_cases q : l = x
      · subst q
        rw [hq, if_pos rfl, zup_off (by omega), zup_at, zup_at]
        exact ⟨rfl, by simp [oI]⟩
      · rw [if_neg q, if_neg q, zup_off (by omega), zup_ne (by omega), zup_ne (by omega), zup_off (by omega)]
        refine ⟨(hS x hx).1, ?_⟩
        rw [(hS x hx).2]
        cases leastV ch nc n x v <;> rfl
  | some w =>
    rw [hq] at o1
    have o1 : z_up I (B + 183) (n * 4 + l) (nI (madeV ch nc n l v + 1)) (B + 184) (n * 4 + l) = nI w := o1
    have w1 := leastV_lt hq
    have w2 := n_nem2 (w := w) (by omega)
    refine ⟨z_up I (B + 183) (n * 4 + l) (nI (madeV ch nc n l v + 1)), ?_, l1, fun x hx => ?_, fun q z1 z2 => by rw [zup_off z1], fun j hj => ⟨by rw [zup_ne (by omega)], by rw [zup_off (by omega)]⟩⟩
    · simp (disch := omega) only [kX0_noteRow_46, kX0_noteRow_0, cl_178 h, cr_178_0 h, cr_178_2 h, cr_178_3 h, cl_179 h, cl_183 h, cl_184 h, a1, s1, o1, w2, n_shl, e_push, e_pushl, e_iload, e_lload, e_aload, e_istore, e_astore, e_lstore, e_iinc, e_iadd, e_isub, e_imul, e_iand, e_ior, e_ixor, e_ishl, e_ishr, e_iushr, e_idiv, e_irem, e_ladd, e_lsub, e_lmul, e_lcmp, e_mmax, e_mmin, e_i2l, e_l2i, e_i2b, e_i2c, e_dup, e_dup2, e_pop, e_icmp_eq, e_icmp_ne, e_icmp_lt, e_icmp_ge, e_icmp_gt, e_icmp_le, e_if_eq, e_if_ne, e_if_lt, e_if_ge, e_if_gt, e_if_le, e_getI, e_getR, e_putI, e_putZ, e_putR, e_iald, e_bald, e_zald, e_lald, e_aald, e_alen, e_iast, e_bast, e_zast, e_last, e_aast, e_iret, e_zret, e_lret, e_vret, e_obj, e_callV, e_callS, e_callT, e_acpy, e_ldcS, e_dn, e_ag, z_pop, List.getElem?_cons_zero, List.getElem?_cons_succ, List.set_cons_zero, List.set_cons_succ, List.length_cons, List.length_nil, z_nol, Option.map_some, Option.toList_some, Option.toList_none, List.cons_append, List.nil_append, n_lit, n_m1, n_m2, n_m1lt, n_m1le, n_rem, n_div, n_out, n_cl, n_eq, n_le, n_lt, n_add, n_mul, n_sub, n_nle, n_yle, n_nlt, n_ylt, n_neN, z_lay, z_sz, z_str, z_stI, z_stL, z_stR, eq_self, ↓reduceIte, true_and, and_true, and_self, false_and, and_false, or_self, false_or, or_false, true_or, or_true, not_true_eq_false, not_false_eq_true, Nat.reduceLeDiff, Nat.reduceLT, Nat.reduceAdd, Nat.reduceEqDiff, Nat.reduceMul, Nat.reduceSub, Value.category, Nat.zero_le, beq_self_eq_true]
    · rw [m1, m2]
      by_cases q : l = x
      · subst q
        rw [hq, if_pos rfl, zup_at, zup_off (by omega), s2, hq]
        exact ⟨rfl, rfl⟩
      · rw [if_neg q, if_neg q, zup_ne (by omega), zup_off (by omega)]
        refine ⟨(hS x hx).1, ?_⟩
        rw [(hS x hx).2]
        cases leastV ch nc n x v <;> rfl
/-- what the first can force -/
def forB (ch : Nat → Nat → Nat) (nc n m v f : Nat) : Prop := f < 16 ∧ ∀ y, y < nc → (f.testBit y = true ↔ winV ch nc n y m v)
def forK (ch : Nat → Nat → Nat) (nc n m v s k g : Nat) : Prop := g < 16 ∧ ∀ y, y < nc → (g.testBit y = true ↔ if s % 2 = 0 then ∃ c, c < k ∧ winV ch nc n y m (v * nc + c) else ∀ c, c < k → winV ch nc n y m (v * nc + c))
theorem forK_end {ch : Nat → Nat → Nat} {nc n m v s g : Nat} (hs : s + (m + 1) = n) (h : forK ch nc n m v s nc g) : forB ch nc n (m + 1) v g := ⟨h.1, fun y hy => by
  rw [h.2 y hy, winV, show n - (m + 1) = s by omega]⟩
theorem forK_0 {ch : Nat → Nat → Nat} {nc n m v s : Nat} (h4 : nc ≤ 4) : forK ch nc n m v s 0 (if s % 2 = 0 then 0 else 15) := by
  by_cases q : s % 2 = 0
  · rw [if_pos q]
    refine ⟨by omega, fun y hy => ?_⟩
    rw [if_pos q]
    simp
  · rw [if_neg q]
    refine ⟨by omega, fun y hy => ?_⟩
    rw [if_neg q]
    have : ∀ y, y < 4 → Nat.testBit 15 y = true := by decide
    exact ⟨fun _ c hc => by omega, fun _ => this y (by omega)⟩
theorem forK_step {ch : Nat → Nat → Nat} {nc n m v s k g f : Nat} (h : forK ch nc n m v s k g) (hf : forB ch nc n m (v * nc + k) f) : forK ch nc n m v s (k + 1) (if s % 2 = 0 then g ||| f else g &&& f) := by
  obtain ⟨h1, h2⟩ := h
  obtain ⟨f1, f2⟩ := hf
  by_cases q : s % 2 = 0
  · rw [if_pos q]
    refine ⟨Nat.or_lt_two_pow (n := 4) h1 f1, fun y hy => ?_⟩
    have a := h2 y hy
    rw [if_pos q] at a ⊢
    rw [Nat.testBit_or, Bool.or_eq_true, a, f2 y hy]
    constructor
    · rintro (⟨c, c1, c2⟩ | c2)
      · exact ⟨c, by omega, c2⟩
      · exact ⟨k, by omega, c2⟩
    · rintro ⟨c, c1, c2⟩
      by_cases e : c = k
      · subst e; exact Or.inr c2
      · exact Or.inl ⟨c, by omega, c2⟩
  · rw [if_neg q]
    refine ⟨Nat.lt_of_le_of_lt Nat.and_le_left h1, fun y hy => ?_⟩
    have a := h2 y hy
    rw [if_neg q] at a ⊢
    rw [Nat.testBit_and, Bool.and_eq_true, a, f2 y hy]
    constructor
    · rintro ⟨c1, c2⟩ c hc
      by_cases e : c = k
      · subst e; exact c2
      · exact c1 c (by omega)
    · intro c1
      exact ⟨fun c hc => c1 c (by omega), c1 k (by omega)⟩
/-- what stays while the census goes through rows of length n -/
def cenF (I J : Nat → Nat → Int32) (B n : Nat) : Prop := (∀ q, q ≠ B + 179 → q ≠ B + 180 → q ≠ B + 183 → q ≠ B + 184 → q ≠ B + 185 → J q = I q) ∧ ∀ j, (j < n * 4 ∨ n * 4 + 4 ≤ j) → J (B + 183) j = I (B + 183) j ∧ J (B + 184) j = I (B + 184) j ∧ J (B + 185) j = I (B + 185) j
theorem cenF.refl (I : Nat → Nat → Int32) (B n : Nat) : cenF I I B n := ⟨fun _ _ _ _ _ _ => rfl, fun _ _ => ⟨rfl, rfl, rfl⟩⟩
theorem cenF.trans {I J K : Nat → Nat → Int32} {B n : Nat} (h1 : cenF I J B n) (h2 : cenF J K B n) : cenF I K B n := ⟨fun q a b c d e => (h2.1 q a b c d e).trans (h1.1 q a b c d e), fun j hj => ⟨(h2.2 j hj).1.trans (h1.2 j hj).1, (h2.2 j hj).2.1.trans (h1.2 j hj).2.1, (h2.2 j hj).2.2.trans (h1.2 j hj).2.2⟩⟩
theorem p_cenGo {I : Nat → Nat → Int32} {L : Nat → Nat → Int64} {Z : zZ} {B tx nc n : Nat} {ch : Nat → Nat → Nat} (h : isCls Z B tx) (h2 : 2 ≤ nc) (h4 : nc ≤ 4) (hch : ∀ a b, a < nc → b < nc → ch a b < nc) (hn : n ≤ 8) (h1 : 1 ≤ n) : ∀ m s v d (c : Nat → Nat) (J : Nat → Nat → Int32), s + m = n → m < d → (∀ i, i < s → c i < nc) → v = num nc c s → J (B + (tx + 5)) 0 = nI nc → tabI J (B + (tx + 6)) ch → cellsI J (B + 180) s ch c → (s = n → J (B + 179) 0 = nI n) → cenS J B nc ch n (v * nc ^ m) →
    ∃ K f, fX0_goThrough d [.ref (B + 178), .ref (B + (tx + 5)), .int (nI n), .int (nI s), .int (nI v)] (J, L, Z) = some (some (.int (nI f)), (K, L, Z)) ∧ forB ch nc n m v f ∧ cellsI K (B + 180) s ch c ∧ cenS K B nc ch n ((v + 1) * nc ^ m) ∧ cenF J K B n ∧ (0 < s → K (B + 185) = J (B + 185)) ∧ (s = 0 → ∀ x, x < nc → ∃ g, K (B + 185) (n * 4 + x) = nI g ∧ forB ch nc n (n - 1) x g) := by
  have htx := h.1
  have hp8 := pw_le h4 hn
  intro m
  induction m with
  | zero =>
    intro s v d c J hs hd hc hv hk hT hC hL hS
    obtain ⟨d, rfl⟩ : ∃ e, d = e + 1 := ⟨d - 1, by omega⟩
    have e : s = n := by omega
    subst e
    rw [Nat.pow_zero, Nat.mul_one] at hS
    have vb : v < nc ^ s := by rw [hv]; exact num_lt hc
    obtain ⟨K, a1, a2, a3, a4, a5⟩ := p_cenNote (I := J) (L := L) h h4 hch hn h1 (by omega) hc hv ⟨hL rfl, hC⟩ hS
    refine ⟨K, 2 ^ lastV ch nc s v, ?_, ⟨?_, fun y hy => ?_⟩, fun d i hdi => by rw [a4 _ (by omega) (by omega)]; exact hC d i hdi, by rw [Nat.pow_zero, Nat.mul_one]; exact a3, ⟨fun q z1 z2 z3 z4 z5 => a4 q z3 z4, fun j hj => ⟨(a5 j hj).1, (a5 j hj).2, by rw [a4 _ (by omega) (by omega)]⟩⟩, fun _ => a4 _ (by omega) (by omega), fun z => by omega⟩
    · show kX0_goThrough_0 (fX0_goThrough d) [some (Value.ref (B + 178)), some (Value.ref (B + (tx + 5))), some (Value.int (nI (s))), some (Value.int (nI (s))), some (Value.int (nI (v))), none, none, none, none] [] (J, L, Z) = _
      simp (disch := omega) only [kX0_goThrough_0, cl_178 h, a1, e_push, e_pushl, e_iload, e_lload, e_aload, e_istore, e_astore, e_lstore, e_iinc, e_iadd, e_isub, e_imul, e_iand, e_ior, e_ixor, e_ishl, e_ishr, e_iushr, e_idiv, e_irem, e_ladd, e_lsub, e_lmul, e_lcmp, e_mmax, e_mmin, e_i2l, e_l2i, e_i2b, e_i2c, e_dup, e_dup2, e_pop, e_icmp_eq, e_icmp_ne, e_icmp_lt, e_icmp_ge, e_icmp_gt, e_icmp_le, e_if_eq, e_if_ne, e_if_lt, e_if_ge, e_if_gt, e_if_le, e_getI, e_getR, e_putI, e_putZ, e_putR, e_iald, e_bald, e_zald, e_lald, e_aald, e_alen, e_iast, e_bast, e_zast, e_last, e_aast, e_iret, e_zret, e_lret, e_vret, e_obj, e_callV, e_callS, e_callT, e_acpy, e_ldcS, e_dn, e_ag, z_pop, List.getElem?_cons_zero, List.getElem?_cons_succ, List.set_cons_zero, List.set_cons_succ, List.length_cons, List.length_nil, z_nol, Option.map_some, Option.toList_some, Option.toList_none, List.cons_append, List.nil_append, n_lit, n_m1, n_m2, n_m1lt, n_m1le, n_rem, n_div, n_out, n_cl, n_eq, n_le, n_lt, n_add, n_mul, n_sub, n_nle, n_yle, n_nlt, n_ylt, n_neN, z_lay, z_sz, z_str, z_stI, z_stL, z_stR, eq_self, ↓reduceIte, true_and, and_true, and_self, false_and, and_false, or_self, false_or, or_false, true_or, or_true, not_true_eq_false, not_false_eq_true, Nat.reduceLeDiff, Nat.reduceLT, Nat.reduceAdd, Nat.reduceEqDiff, Nat.reduceMul, Nat.reduceSub, Value.category, Nat.zero_le, beq_self_eq_true]
    · have := p2_lt (k := lastV ch nc s v) (m := 4) (by omega)
      omega
    · rw [Nat.testBit_two_pow, decide_eq_true_iff]
      rfl
  | succ m ih =>
    intro s v d c J hs hd hc hv hk hT hC hL hS
    obtain ⟨d, rfl⟩ : ∃ e, d = e + 1 := ⟨d - 1, by omega⟩
    have vb : v < nc ^ s := by rw [hv]; exact num_lt hc
    have hps : nc ^ s ≤ 65536 := pw_le h4 (by omega)
    have vb2 : v * nc + nc ≤ 65536 * 4 + 4 := by
      have := Nat.mul_le_mul (show v ≤ 65536 by omega) h4
      omega
    have e0 : ∃ fs, fs < 2 ∧ fX0_goThrough (d + 1) [.ref (B + 178), .ref (B + (tx + 5)), .int (nI n), .int (nI s), .int (nI v)] (J, L, Z) = q_lp (bX0_goThrough_42 (fX0_goThrough d)) [some (Value.ref (B + 178)), some (Value.ref (B + (tx + 5))), some (Value.int (nI (n))), some (Value.int (nI (s))), some (Value.int (nI (v))), some (Value.int (nI (fs))), some (Value.int (nI ((if s % 2 = 0 then 0 else 15)))), some (Value.int (nI (0))), none] [] (J, L, Z) ∧ (fs = 0 ↔ ¬ s % 2 = 0) := by
      have n1 : s < n := by omega
      have n2 : ¬ n ≤ s := by omega
      by_cases q : s % 2 = 0
      · refine ⟨1, by omega, ?_, by omega⟩
        rw [if_pos q]
        show kX0_goThrough_0 (fX0_goThrough d) [some (Value.ref (B + 178)), some (Value.ref (B + (tx + 5))), some (Value.int (nI (n))), some (Value.int (nI (s))), some (Value.int (nI (v))), none, none, none, none] [] (J, L, Z) = _
        simp (disch := omega) only [kX0_goThrough_0, kX0_goThrough_24, kX0_goThrough_37, kX0_goThrough_42, q, e_push, e_pushl, e_iload, e_lload, e_aload, e_istore, e_astore, e_lstore, e_iinc, e_iadd, e_isub, e_imul, e_iand, e_ior, e_ixor, e_ishl, e_ishr, e_iushr, e_idiv, e_irem, e_ladd, e_lsub, e_lmul, e_lcmp, e_mmax, e_mmin, e_i2l, e_l2i, e_i2b, e_i2c, e_dup, e_dup2, e_pop, e_icmp_eq, e_icmp_ne, e_icmp_lt, e_icmp_ge, e_icmp_gt, e_icmp_le, e_if_eq, e_if_ne, e_if_lt, e_if_ge, e_if_gt, e_if_le, e_getI, e_getR, e_putI, e_putZ, e_putR, e_iald, e_bald, e_zald, e_lald, e_aald, e_alen, e_iast, e_bast, e_zast, e_last, e_aast, e_iret, e_zret, e_lret, e_vret, e_obj, e_callV, e_callS, e_callT, e_acpy, e_ldcS, e_dn, e_ag, z_pop, List.getElem?_cons_zero, List.getElem?_cons_succ, List.set_cons_zero, List.set_cons_succ, List.length_cons, List.length_nil, z_nol, Option.map_some, Option.toList_some, Option.toList_none, List.cons_append, List.nil_append, n_lit, n_m1, n_m2, n_m1lt, n_m1le, n_rem, n_div, n_out, n_cl, n_eq, n_le, n_lt, n_add, n_mul, n_sub, n_nle, n_yle, n_nlt, n_ylt, n_neN, z_lay, z_sz, z_str, z_stI, z_stL, z_stR, eq_self, ↓reduceIte, true_and, and_true, and_self, false_and, and_false, or_self, false_or, or_false, true_or, or_true, not_true_eq_false, not_false_eq_true, Nat.reduceLeDiff, Nat.reduceLT, Nat.reduceAdd, Nat.reduceEqDiff, Nat.reduceMul, Nat.reduceSub, Value.category, Nat.zero_le, beq_self_eq_true]
      · have q' : s % 2 = 1 := by omega
        refine ⟨0, by omega, ?_, by omega⟩
        rw [if_neg q]
        show kX0_goThrough_0 (fX0_goThrough d) [some (Value.ref (B + 178)), some (Value.ref (B + (tx + 5))), some (Value.int (nI (n))), some (Value.int (nI (s))), some (Value.int (nI (v))), none, none, none, none] [] (J, L, Z) = _
        simp (disch := omega) only [kX0_goThrough_0, kX0_goThrough_24, kX0_goThrough_37, kX0_goThrough_42, q', e_push, e_pushl, e_iload, e_lload, e_aload, e_istore, e_astore, e_lstore, e_iinc, e_iadd, e_isub, e_imul, e_iand, e_ior, e_ixor, e_ishl, e_ishr, e_iushr, e_idiv, e_irem, e_ladd, e_lsub, e_lmul, e_lcmp, e_mmax, e_mmin, e_i2l, e_l2i, e_i2b, e_i2c, e_dup, e_dup2, e_pop, e_icmp_eq, e_icmp_ne, e_icmp_lt, e_icmp_ge, e_icmp_gt, e_icmp_le, e_if_eq, e_if_ne, e_if_lt, e_if_ge, e_if_gt, e_if_le, e_getI, e_getR, e_putI, e_putZ, e_putR, e_iald, e_bald, e_zald, e_lald, e_aald, e_alen, e_iast, e_bast, e_zast, e_last, e_aast, e_iret, e_zret, e_lret, e_vret, e_obj, e_callV, e_callS, e_callT, e_acpy, e_ldcS, e_dn, e_ag, z_pop, List.getElem?_cons_zero, List.getElem?_cons_succ, List.set_cons_zero, List.set_cons_succ, List.length_cons, List.length_nil, z_nol, Option.map_some, Option.toList_some, Option.toList_none, List.cons_append, List.nil_append, n_lit, n_m1, n_m2, n_m1lt, n_m1le, n_rem, n_div, n_out, n_cl, n_eq, n_le, n_lt, n_add, n_mul, n_sub, n_nle, n_yle, n_nlt, n_ylt, n_neN, z_lay, z_sz, z_str, z_stI, z_stL, z_stR, eq_self, ↓reduceIte, true_and, and_true, and_self, false_and, and_false, or_self, false_or, or_false, true_or, or_true, not_true_eq_false, not_false_eq_true, Nat.reduceLeDiff, Nat.reduceLT, Nat.reduceAdd, Nat.reduceEqDiff, Nat.reduceMul, Nat.reduceSub, Value.category, Nat.zero_le, beq_self_eq_true]
    obtain ⟨fs, fs2, e0, fs1⟩ := e0
    rw [e0]
    have hS0 : cenS J B nc ch n ((v * nc + 0) * nc ^ m) := by
      rw [Nat.add_zero, Nat.mul_assoc, Nat.mul_comm nc, ← Nat.pow_succ]; exact hS
    refine lp_ex2 (mk := fun (K : Nat → Nat → Int32) (f : Nat) => (some (Value.int (nI f)), (K, L, Z))) (fun k ls σ => ∃ (K : Nat → Nat → Int32) (g : Nat) (y : Option Value), ls = [some (Value.ref (B + 178)), some (Value.ref (B + (tx + 5))), some (Value.int (nI (n))), some (Value.int (nI (s))), some (Value.int (nI (v))), some (Value.int (nI (fs))), some (Value.int (nI (g))), some (Value.int (nI (k))), y] ∧ σ = (K, L, Z) ∧ forK ch nc n m v s k g ∧ cellsI K (B + 180) s ch c ∧ cenS K B nc ch n ((v * nc + k) * nc ^ m) ∧ cenF J K B n ∧ (0 < s → K (B + 185) = J (B + 185)) ∧ (s = 0 → ∀ x, x < k → ∃ g, K (B + 185) (n * 4 + x) = nI g ∧ forB ch nc n (n - 1) x g)) nc ?_ ?_ ?_
    · exact ⟨J, _, none, rfl, rfl, forK_0 h4, hC, hS0, cenF.refl _ _ _, fun _ => rfl, fun _ x hx => by omega⟩
    · rintro ls σ ⟨K, g, y, rfl, rfl, q1, q2, q3, q4, q5, q6⟩
      have v1 : K (B + (tx + 5)) 0 = nI nc := by rw [q4.1 _ (by omega) (by omega) (by omega) (by omega) (by omega)]; exact hk
      refine ⟨K, g, ?_, forK_end hs q1, q2, ?_, q4, q5, q6⟩
      · simp (disch := omega) only [bX0_goThrough_42, kX0_goThrough_126, tl_5 h, v1, e_push, e_pushl, e_iload, e_lload, e_aload, e_istore, e_astore, e_lstore, e_iinc, e_iadd, e_isub, e_imul, e_iand, e_ior, e_ixor, e_ishl, e_ishr, e_iushr, e_idiv, e_irem, e_ladd, e_lsub, e_lmul, e_lcmp, e_mmax, e_mmin, e_i2l, e_l2i, e_i2b, e_i2c, e_dup, e_dup2, e_pop, e_icmp_eq, e_icmp_ne, e_icmp_lt, e_icmp_ge, e_icmp_gt, e_icmp_le, e_if_eq, e_if_ne, e_if_lt, e_if_ge, e_if_gt, e_if_le, e_getI, e_getR, e_putI, e_putZ, e_putR, e_iald, e_bald, e_zald, e_lald, e_aald, e_alen, e_iast, e_bast, e_zast, e_last, e_aast, e_iret, e_zret, e_lret, e_vret, e_obj, e_callV, e_callS, e_callT, e_acpy, e_ldcS, e_dn, e_ag, z_pop, List.getElem?_cons_zero, List.getElem?_cons_succ, List.set_cons_zero, List.set_cons_succ, List.length_cons, List.length_nil, z_nol, Option.map_some, Option.toList_some, Option.toList_none, List.cons_append, List.nil_append, n_lit, n_m1, n_m2, n_m1lt, n_m1le, n_rem, n_div, n_out, n_cl, n_eq, n_le, n_lt, n_add, n_mul, n_sub, n_nle, n_yle, n_nlt, n_ylt, n_neN, z_lay, z_sz, z_str, z_stI, z_stL, z_stR, eq_self, ↓reduceIte, true_and, and_true, and_self, false_and, and_false, or_self, false_or, or_false, true_or, or_true, not_true_eq_false, not_false_eq_true, Nat.reduceLeDiff, Nat.reduceLT, Nat.reduceAdd, Nat.reduceEqDiff, Nat.reduceMul, Nat.reduceSub, Value.category, Nat.zero_le, beq_self_eq_true]
      · have : (v + 1) * nc ^ (m + 1) = (v * nc + nc) * nc ^ m := by
          rw [Nat.pow_succ, Nat.mul_comm (nc ^ m), ← Nat.mul_assoc, Nat.add_mul, Nat.one_mul]
        rw [this]; exact q3
    · rintro k hk' ls σ ⟨K, g, y, rfl, rfl, q1, q2, q3, q4, q5, q6⟩
      have v1 : K (B + (tx + 5)) 0 = nI nc := by rw [q4.1 _ (by omega) (by omega) (by omega) (by omega) (by omega)]; exact hk
      have t1 : tabI K (B + (tx + 6)) ch := fun x y hx hy => by rw [q4.1 _ (by omega) (by omega) (by omega) (by omega) (by omega)]; exact hT x y hx hy
      have cc : ∀ i, i < s + 1 → fUp c s k i < nc := fun i hi => by
        by_cases e : i = s
        · subst e; rw [fUp_at]; exact hk'
        · rw [fUp_ne e]; exact hc i (by omega)
      have ctri : ∀ d i, d + i < s → tri ch (fUp c s k) d i = tri ch c d i := tri_congr (fun i hi => fUp_ne (by omega))
      obtain ⟨K1, b1, b2, b3, b4⟩ := p_put (I := K) (L := L) (s := s) (c := fUp c s k) (cg_179 h) (ct_tx h) (by omega) t1 (by omega) (fun i hi => Nat.lt_of_lt_of_le (cc i (by omega)) h4) (fun d i hdi => by rw [ctri d i hdi]; exact q2 d i hdi)
      rw [fUp_at] at b1
      have hv' : v * nc + k = num nc (fUp c s k) (s + 1) := by
        show _ = num nc (fUp c s k) s * nc + fUp c s k s
        rw [fUp_at, hv, num_congr (c := fUp c s k) (c' := c) (fun i hi => fUp_ne (by omega))]
      have v2 : K1 (B + (tx + 5)) 0 = nI nc := by rw [b4 _ (by omega) (by omega)]; exact v1
      obtain ⟨K2, f, r1, r2, r3, r4, r5, r6, r7⟩ := ih (s + 1) (v * nc + k) d (fUp c s k) K1 (by omega) (by omega) cc hv' v2 (fun x y hx hy => by rw [b4 _ (by omega) (by omega)]; exact t1 x y hx hy) b2 (fun e => by rw [← e]; exact b3) (fun x hx => by rw [b4 _ (by omega) (by omega), b4 _ (by omega) (by omega)]; exact q3 x hx)
      have f16 := r2.1
      have g16 := q1.1
      have w1 := forK_step q1 r2
      have c2 : cellsI K2 (B + 180) s ch c := fun d i hdi => by rw [r3 d i (by omega), ctri d i hdi]
      have s2 : cenS K2 B nc ch n ((v * nc + (k + 1)) * nc ^ m) := by
        rw [show v * nc + (k + 1) = v * nc + k + 1 by omega]; exact r4
      have F2 : cenF J K2 B n := q4.trans ⟨fun q z1 z2 z3 z4 z5 => by rw [r5.1 q z1 z2 z3 z4 z5, b4 q z1 z2], fun j hj => ⟨by rw [(r5.2 j hj).1, b4 _ (by omega) (by omega)], by rw [(r5.2 j hj).2.1, b4 _ (by omega) (by omega)], by rw [(r5.2 j hj).2.2, b4 _ (by omega) (by omega)]⟩⟩
      have e185 : K2 (B + 185) = K (B + 185) := by rw [r6 (by omega), b4 _ (by omega) (by omega)]
      have n4 : ¬ nc ≤ k := by omega
      by_cases s0 : s = 0
      · subst s0
        refine ⟨[some (Value.ref (B + 178)), some (Value.ref (B + (tx + 5))), some (Value.int (nI (n))), some (Value.int (nI (0))), some (Value.int (nI (v))), some (Value.int (nI (fs))), some (Value.int (nI ((if 0 % 2 = 0 then g ||| f else g &&& f)))), some (Value.int (nI (k + 1))), some (Value.int (nI (f)))], (z_up K2 (B + 185) (n * 4 + k) (nI f), L, Z), ?_, _, _, _, rfl, rfl, w1, fun d i hdi => by omega, fun x hx => by rw [zup_off (by omega), zup_off (by omega)]; exact s2 x hx, ⟨fun q z1 z2 z3 z4 z5 => by rw [zup_off z5]; exact F2.1 q z1 z2 z3 z4 z5, fun j hj => ⟨by rw [zup_off (by omega)]; exact (F2.2 j hj).1, by rw [zup_off (by omega)]; exact (F2.2 j hj).2.1, by rw [zup_ne (by omega)]; exact (F2.2 j hj).2.2⟩⟩, fun z => by omega, fun _ x hx => ?_⟩
        · have fs3 : fs = 1 := by omega
          subst fs3
          simp (disch := omega) only [bX0_goThrough_42, kX0_goThrough_101, kX0_goThrough_120, tl_5 h, cl_178 h, cr_178_0 h, cr_178_4 h, cl_179 h, cl_185 h, v1, b1, v2, r1, n_or, Nat.zero_mod, e_push, e_pushl, e_iload, e_lload, e_aload, e_istore, e_astore, e_lstore, e_iinc, e_iadd, e_isub, e_imul, e_iand, e_ior, e_ixor, e_ishl, e_ishr, e_iushr, e_idiv, e_irem, e_ladd, e_lsub, e_lmul, e_lcmp, e_mmax, e_mmin, e_i2l, e_l2i, e_i2b, e_i2c, e_dup, e_dup2, e_pop, e_icmp_eq, e_icmp_ne, e_icmp_lt, e_icmp_ge, e_icmp_gt, e_icmp_le, e_if_eq, e_if_ne, e_if_lt, e_if_ge, e_if_gt, e_if_le, e_getI, e_getR, e_putI, e_putZ, e_putR, e_iald, e_bald, e_zald, e_lald, e_aald, e_alen, e_iast, e_bast, e_zast, e_last, e_aast, e_iret, e_zret, e_lret, e_vret, e_obj, e_callV, e_callS, e_callT, e_acpy, e_ldcS, e_dn, e_ag, z_pop, List.getElem?_cons_zero, List.getElem?_cons_succ, List.set_cons_zero, List.set_cons_succ, List.length_cons, List.length_nil, z_nol, Option.map_some, Option.toList_some, Option.toList_none, List.cons_append, List.nil_append, n_lit, n_m1, n_m2, n_m1lt, n_m1le, n_rem, n_div, n_out, n_cl, n_eq, n_le, n_lt, n_add, n_mul, n_sub, n_nle, n_yle, n_nlt, n_ylt, n_neN, z_lay, z_sz, z_str, z_stI, z_stL, z_stR, eq_self, ↓reduceIte, true_and, and_true, and_self, false_and, and_false, or_self, false_or, or_false, true_or, or_true, not_true_eq_false, not_false_eq_true, Nat.reduceLeDiff, Nat.reduceLT, Nat.reduceAdd, Nat.reduceEqDiff, Nat.reduceMul, Nat.reduceSub, Value.category, Nat.zero_le, beq_self_eq_true]
        · by_cases e : x = k
          · subst e
            refine ⟨f, zup_at, ?_⟩
            have v0 : v = 0 := hv
            rw [show n - 1 = m by omega]
            rw [v0, Nat.zero_mul, Nat.zero_add] at r2
            exact r2
          · rw [zup_ne (by omega), e185]
            exact q6 rfl x (by omega)
      · have s0' : ¬ s = 0 := s0
        by_cases q : s % 2 = 0
        · rw [if_pos q] at w1
          refine ⟨[some (Value.ref (B + 178)), some (Value.ref (B + (tx + 5))), some (Value.int (nI (n))), some (Value.int (nI (s))), some (Value.int (nI (v))), some (Value.int (nI (fs))), some (Value.int (nI (g ||| f))), some (Value.int (nI (k + 1))), some (Value.int (nI (f)))], (K2, L, Z), ?_, K2, _, _, rfl, rfl, w1, c2, s2, F2, fun z => by rw [e185]; exact q5 z, fun z => absurd z s0⟩
          have fs3 : fs = 1 := by omega
          subst fs3
          simp (disch := omega) only [bX0_goThrough_42, kX0_goThrough_101, kX0_goThrough_120, tl_5 h, cl_178 h, cr_178_0 h, cr_178_4 h, cl_179 h, cl_185 h, v1, b1, v2, r1, n_or, s0', e_push, e_pushl, e_iload, e_lload, e_aload, e_istore, e_astore, e_lstore, e_iinc, e_iadd, e_isub, e_imul, e_iand, e_ior, e_ixor, e_ishl, e_ishr, e_iushr, e_idiv, e_irem, e_ladd, e_lsub, e_lmul, e_lcmp, e_mmax, e_mmin, e_i2l, e_l2i, e_i2b, e_i2c, e_dup, e_dup2, e_pop, e_icmp_eq, e_icmp_ne, e_icmp_lt, e_icmp_ge, e_icmp_gt, e_icmp_le, e_if_eq, e_if_ne, e_if_lt, e_if_ge, e_if_gt, e_if_le, e_getI, e_getR, e_putI, e_putZ, e_putR, e_iald, e_bald, e_zald, e_lald, e_aald, e_alen, e_iast, e_bast, e_zast, e_last, e_aast, e_iret, e_zret, e_lret, e_vret, e_obj, e_callV, e_callS, e_callT, e_acpy, e_ldcS, e_dn, e_ag, z_pop, List.getElem?_cons_zero, List.getElem?_cons_succ, List.set_cons_zero, List.set_cons_succ, List.length_cons, List.length_nil, z_nol, Option.map_some, Option.toList_some, Option.toList_none, List.cons_append, List.nil_append, n_lit, n_m1, n_m2, n_m1lt, n_m1le, n_rem, n_div, n_out, n_cl, n_eq, n_le, n_lt, n_add, n_mul, n_sub, n_nle, n_yle, n_nlt, n_ylt, n_neN, z_lay, z_sz, z_str, z_stI, z_stL, z_stR, eq_self, ↓reduceIte, true_and, and_true, and_self, false_and, and_false, or_self, false_or, or_false, true_or, or_true, not_true_eq_false, not_false_eq_true, Nat.reduceLeDiff, Nat.reduceLT, Nat.reduceAdd, Nat.reduceEqDiff, Nat.reduceMul, Nat.reduceSub, Value.category, Nat.zero_le, beq_self_eq_true]
        · rw [if_neg q] at w1
          refine ⟨[some (Value.ref (B + 178)), some (Value.ref (B + (tx + 5))), some (Value.int (nI (n))), some (Value.int (nI (s))), some (Value.int (nI (v))), some (Value.int (nI (fs))), some (Value.int (nI (g &&& f))), some (Value.int (nI (k + 1))), some (Value.int (nI (f)))], (K2, L, Z), ?_, K2, _, _, rfl, rfl, w1, c2, s2, F2, fun z => by rw [e185]; exact q5 z, fun z => absurd z s0⟩
          have fs3 : fs = 0 := by omega
          subst fs3
          simp (disch := omega) only [bX0_goThrough_42, kX0_goThrough_101, kX0_goThrough_120, tl_5 h, cl_178 h, cr_178_0 h, cr_178_4 h, cl_179 h, cl_185 h, v1, b1, v2, r1, n_andN, s0', e_push, e_pushl, e_iload, e_lload, e_aload, e_istore, e_astore, e_lstore, e_iinc, e_iadd, e_isub, e_imul, e_iand, e_ior, e_ixor, e_ishl, e_ishr, e_iushr, e_idiv, e_irem, e_ladd, e_lsub, e_lmul, e_lcmp, e_mmax, e_mmin, e_i2l, e_l2i, e_i2b, e_i2c, e_dup, e_dup2, e_pop, e_icmp_eq, e_icmp_ne, e_icmp_lt, e_icmp_ge, e_icmp_gt, e_icmp_le, e_if_eq, e_if_ne, e_if_lt, e_if_ge, e_if_gt, e_if_le, e_getI, e_getR, e_putI, e_putZ, e_putR, e_iald, e_bald, e_zald, e_lald, e_aald, e_alen, e_iast, e_bast, e_zast, e_last, e_aast, e_iret, e_zret, e_lret, e_vret, e_obj, e_callV, e_callS, e_callT, e_acpy, e_ldcS, e_dn, e_ag, z_pop, List.getElem?_cons_zero, List.getElem?_cons_succ, List.set_cons_zero, List.set_cons_succ, List.length_cons, List.length_nil, z_nol, Option.map_some, Option.toList_some, Option.toList_none, List.cons_append, List.nil_append, n_lit, n_m1, n_m2, n_m1lt, n_m1le, n_rem, n_div, n_out, n_cl, n_eq, n_le, n_lt, n_add, n_mul, n_sub, n_nle, n_yle, n_nlt, n_ylt, n_neN, z_lay, z_sz, z_str, z_stI, z_stL, z_stR, eq_self, ↓reduceIte, true_and, and_true, and_self, false_and, and_false, or_self, false_or, or_false, true_or, or_true, not_true_eq_false, not_false_eq_true, Nat.reduceLeDiff, Nat.reduceLT, Nat.reduceAdd, Nat.reduceEqDiff, Nat.reduceMul, Nat.reduceSub, Value.category, Nat.zero_le, beq_self_eq_true]
