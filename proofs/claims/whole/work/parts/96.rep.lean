/-! the cheapest row that is wanted -/
noncomputable def bestV (Q : Nat → Prop) (cost : Nat → Nat) : Nat → Option Nat
  | 0 => none
  | v + 1 => match bestV Q cost v with
    | none => ifP (Q v) (some v) none
    | some w => ifP (Q v ∧ cost v < cost w) (some v) (some w)
theorem bestV_skip {Q : Nat → Prop} {cost : Nat → Nat} {a : Nat} : ∀ k, (∀ u, a ≤ u → u < a + k → ¬ Q u ∨ ∃ w, bestV Q cost a = some w ∧ cost w ≤ cost u) → bestV Q cost (a + k) = bestV Q cost a
  | 0, _ => rfl
  | k + 1, h => by
    have ih := bestV_skip k (fun u h1 h2 => h u h1 (by omega))
    show bestV Q cost (a + k + 1) = _
    rw [bestV, ih]
    rcases h (a + k) (by omega) (by omega) with q | ⟨w, q1, q2⟩
    · cases hb : bestV Q cost a with
      | none => exact ifP_neg q
      | some w => exact ifP_neg (fun z => q z.1)
    · rw [q1]
      exact ifP_neg (fun z => by omega)
theorem bestV_lt {Q : Nat → Prop} {cost : Nat → Nat} : ∀ {t w : Nat}, bestV Q cost t = some w → w < t
  | 0, w, h => by cases h
  | t + 1, w, h => by
    rw [bestV] at h
    cases hb : bestV Q cost t with
    | none =>
      rw [hb] at h
      rcases Classical.em (Q t) with q | q
      · have h : ifP (Q t) (some t) none = some w := h
        rw [ifP_pos q] at h; cases h; omega
      · have h : ifP (Q t) (some t) none = some w := h
        rw [ifP_neg q] at h; cases h
    | some u =>
      rw [hb] at h
      have h : ifP (Q t ∧ cost t < cost u) (some t) (some u) = some w := h
      have := bestV_lt hb
      rcases Classical.em (Q t ∧ cost t < cost u) with q | q
      · rw [ifP_pos q] at h; cases h; omega
      · rw [ifP_neg q] at h; cases h; omega
def bPI (cost : Nat → Nat) (o : Option Nat) : Int32 := match o with
  | none => nI 1000000000
  | some w => nI (cost w)
/-- rows of one beginning -/
theorem dig_block {b c0 : Nat} {c : Nat → Nat} {s m u : Nat} (hb : 0 < b) (hc : ∀ i, i < s → c i < b) (h1 : num b c s * b ^ m ≤ u) (h2 : u < (num b c s + 1) * b ^ m) : ∀ i, i < s → dig b (s + m) u i = c i := by
  intro i hi
  have hp : 0 < b ^ m := Nat.pow_pos hb
  have e1 : u / b ^ m = num b c s := by
    have a1 : num b c s ≤ u / b ^ m := (Nat.le_div_iff_mul_le hp).mpr h1
    have a2 : u / b ^ m < num b c s + 1 := (Nat.div_lt_iff_lt_mul hp).mpr h2
    omega
  rw [← dig_num hb hc i hi]
  unfold dig
  rw [← e1, Nat.div_div_eq_div_mul, ← Nat.pow_add, show s + m - 1 - i = m + (s - 1 - i) by omega]
theorem smN_mono {f : Nat → Nat} {a b : Nat} (h : a ≤ b) : smN f a ≤ smN f b := by
  induction b with
  | zero => rw [show a = 0 by omega]; exact Nat.le_refl _
  | succ b ih =>
    rcases Nat.lt_or_ge a (b + 1) with q | q
    · have := ih (by omega)
      rw [smN]
      omega
    · rw [show a = b + 1 by omega]; exact Nat.le_refl _
theorem tal_mono {ch : Nat → Nat → Nat} {c : Nat → Nat} {a b x : Nat} (h : a ≤ b) : tal ch c a x ≤ tal ch c b x := smN_mono h
theorem smN_hit {y nc : Nat} (h : y < nc) : smN (fun x => if y = x then 1 else 0) nc = 1 := by
  induction nc with
  | zero => omega
  | succ n ih =>
    rw [smN]
    by_cases q : y = n
    · subst q
      have e : smN (fun x => if y = x then 1 else 0) y = 0 := by
        have : ∀ k, k ≤ y → smN (fun x => if y = x then 1 else 0) k = 0 := by
          intro k
          induction k with
          | zero => intro _; rfl
          | succ k ih =>
            intro hk
            rw [smN, ih (by omega), if_neg (by omega)]
        exact this y (Nat.le_refl _)
      rw [e, if_pos rfl]
    · rw [ih (by omega), if_neg q]
theorem smN_swap (f : Nat → Nat → Nat) (a : Nat) : ∀ b, smN (fun i => smN (fun j => f i j) b) a = smN (fun j => smN (fun i => f i j) a) b
  | 0 => by
    have : ∀ a, smN (fun _ => 0) a = 0 := by
      intro a
      induction a with
      | zero => rfl
      | succ a ih => rw [smN, ih]
    exact this a
  | b + 1 => by
    show smN (fun i => smN (fun j => f i j) b + f i b) a = _
    rw [smN_add, smN_swap f a b]
    rfl
theorem tal_sum {ch : Nat → Nat → Nat} {c : Nat → Nat} {nc : Nat} : ∀ {n : Nat}, (∀ d i, d + i < n → tri ch c d i < nc) → 2 * smN (fun x => tal ch c n x) nc = n * (n + 1)
  | 0, _ => by
    have : ∀ a, smN (fun x => tal ch c 0 x) a = 0 := by
      intro a
      induction a with
      | zero => rfl
      | succ a ih => rw [smN, ih]; rfl
    rw [this]
  | n + 1, h => by
    have ih := tal_sum (n := n) (fun d i hdi => h d i (by omega))
    have e : (fun x => tal ch c (n + 1) x) = (fun x => tal ch c n x + smN (fun d => hitT ch c x d (n - d)) (n + 1)) := rfl
    rw [e, smN_add, smN_swap (fun x d => hitT ch c x d (n - d)) nc (n + 1)]
    have e2 : smN (fun d => smN (fun x => hitT ch c x d (n - d)) nc) (n + 1) = smN (fun _ => 1) (n + 1) := smN_congr (fun d hd => smN_hit (h d (n - d) (by omega)))
    have e3 : ∀ k, smN (fun _ => 1) k = k := by
      intro k
      induction k with
      | zero => rfl
      | succ k ih => rw [smN, ih]
    rw [e2, e3, Nat.mul_add, ih]
    have : (n + 1) * (n + 1 + 1) = n * (n + 1) + 2 * (n + 1) := by
      rw [Nat.mul_comm, ← Nat.add_mul]
    omega
/-- a fair triangle has of no colour more than its share -/
theorem fair_share {ch : Nat → Nat → Nat} {c : Nat → Nat} {nc n x : Nat} (h2 : 2 ≤ nc) (h4 : nc ≤ 4) (htri : ∀ d i, d + i < n → tri ch c d i < nc) (hf : fairT ch c n nc) (hx : x < nc) : tal ch c n x ≤ (n * (n + 1) / 2 + nc - 1) / nc := by
  have hs := tal_sum htri
  have e1 : n * (n + 1) / 2 = smN (fun x => tal ch c n x) nc := by omega
  rw [e1]
  refine (Nat.le_div_iff_mul_le (by omega)).mpr ?_
  have a := fun y hy => hf x y hx hy
  rcases (by omega : nc = 2 ∨ nc = 3 ∨ nc = 4) with rfl | rfl | rfl
  · have a0 := a 0 (by omega)
    have a1 := a 1 (by omega)
    have e : smN (fun x => tal ch c n x) 2 = tal ch c n 0 + tal ch c n 1 := by simp [smN]
    rw [e]
    rcases (by omega : x = 0 ∨ x = 1) with rfl | rfl <;> omega
  · have a0 := a 0 (by omega)
    have a1 := a 1 (by omega)
    have a2 := a 2 (by omega)
    have e : smN (fun x => tal ch c n x) 3 = tal ch c n 0 + tal ch c n 1 + tal ch c n 2 := by simp [smN]
    rw [e]
    rcases (by omega : x = 0 ∨ x = 1 ∨ x = 2) with rfl | rfl | rfl <;> omega
  · have a0 := a 0 (by omega)
    have a1 := a 1 (by omega)
    have a2 := a 2 (by omega)
    have a3 := a 3 (by omega)
    have e : smN (fun x => tal ch c n x) 4 = tal ch c n 0 + tal ch c n 1 + tal ch c n 2 + tal ch c n 3 := by simp [smN]
    rw [e]
    rcases (by omega : x = 0 ∨ x = 1 ∨ x = 2 ∨ x = 3) with rfl | rfl | rfl | rfl <;> omega
theorem fairN_T {ch : Nat → Nat → Nat} {c : Nat → Nat} {n nc : Nat} (h2 : 2 ≤ nc) : fairN ch c n nc = 1 ↔ fairT ch c n nc := by
  rw [fairT_iff h2]
  unfold fairN
  by_cases q : maxN (tal ch c n) (nc - 1) ≤ minN (tal ch c n) (nc - 1) + 1
  · rw [if_pos q]; exact ⟨fun _ => q, fun _ => rfl⟩
  · rw [if_neg q]; exact ⟨fun z => by omega, fun z => absurd z q⟩
theorem fairN_congr {ch : Nat → Nat → Nat} {c c' : Nat → Nat} {n nc : Nat} (h : ∀ i, i < n → c i = c' i) : fairN ch c n nc = fairN ch c' n nc := by
  have e : tal ch c n = tal ch c' n := funext fun x => tal_congr h x
  unfold fairN
  rw [e]
def repF (I J : Nat → Nat → Int32) (B : Nat) : Prop := (∀ q, q ≠ B + 186 → q ≠ B + 187 → q ≠ B + 188 → q ≠ B + 189 → J q = I q) ∧ ∀ j, j ≠ 5 → j ≠ 6 → J (B + 186) j = I (B + 186) j
theorem repF.refl (I : Nat → Nat → Int32) (B : Nat) : repF I I B := ⟨fun _ _ _ _ _ => rfl, fun _ _ _ => rfl⟩
theorem repF.trans {I J K : Nat → Nat → Int32} {B : Nat} (h1 : repF I J B) (h2 : repF J K B) : repF I K B := ⟨fun q a b c d => (h2.1 q a b c d).trans (h1.1 q a b c d), fun j a b => (h2.2 j a b).trans (h1.2 j a b)⟩
theorem p_can {I : Nat → Nat → Int32} {L : Nat → Nat → Int64} {Z : zZ} {B tx nc s n mo fm wd : Nat} {ch : Nat → Nat → Nat} {c : Nat → Nat} (h : isCls Z B tx) (h4 : nc ≤ 4) (hs : s < 8) (hfm : fm < 2) (hwd : wd < 4) (hW : I (B + 186) 3 = if fm = 1 then nM1 else nI wd) (hmo : I (B + 186) 4 = nI mo ∨ fm = 0) (hmb : mo ≤ 100) (htri : ∀ d i, d + i < s + 1 → tri ch c d i < 4) (hC : cellsI I (B + 188) (s + 1) ch c) (hA : fm = 1 → taI I (B + 189) s ch c) :
    ∃ J, fX4_canStillBe [.ref (B + 186), .int (nI s), .int (nI nc)] (I, L, Z) = some (some (.int (nI (b01 (fm = 1 → ∀ x, x < nc → tal ch c (s + 1) x ≤ mo)))), (J, L, Z)) ∧ (fm = 1 → taI J (B + 189) (s + 1) ch c) ∧ (fm = 0 → J (B + 189) = I (B + 189)) ∧ ∀ q, q ≠ B + 189 → J q = I q := by
  have e0 : fX4_canStillBe [.ref (B + 186), .int (nI s), .int (nI nc)] (I, L, Z) = kX4_canStillBe_0 [some (Value.ref (B + 186)), some (Value.int (nI (s))), some (Value.int (nI (nc))), none] [] (I, L, Z) := rfl
  rw [e0]
  rcases (by omega : fm = 0 ∨ fm = 1) with rfl | rfl
  · rw [if_neg (by omega)] at hW
    have w1 : (nI wd = nM1) = False := eq_false (fun z => by
      have e := congrArg Int32.toInt z
      rw [nI_toInt (by omega)] at e
      have : nM1.toInt = -1 := by decide
      omega)
    refine ⟨I, ?_, fun z => by omega, fun _ => rfl, fun _ _ => rfl⟩
    rw [b01_pos (fun z => by omega)]
    simp (disch := omega) only [kX4_canStillBe_0, cl_186 h, hW, w1, e_push, e_pushl, e_iload, e_lload, e_aload, e_istore, e_astore, e_lstore, e_iinc, e_iadd, e_isub, e_imul, e_iand, e_ior, e_ixor, e_ishl, e_ishr, e_iushr, e_idiv, e_irem, e_ladd, e_lsub, e_lmul, e_lcmp, e_mmax, e_mmin, e_i2l, e_l2i, e_i2b, e_i2c, e_dup, e_dup2, e_pop, e_icmp_eq, e_icmp_ne, e_icmp_lt, e_icmp_ge, e_icmp_gt, e_icmp_le, e_if_eq, e_if_ne, e_if_lt, e_if_ge, e_if_gt, e_if_le, e_getI, e_getR, e_putI, e_putZ, e_putR, e_iald, e_bald, e_zald, e_lald, e_aald, e_alen, e_iast, e_bast, e_zast, e_last, e_aast, e_iret, e_zret, e_lret, e_vret, e_obj, e_callV, e_callS, e_callT, e_acpy, e_ldcS, e_dn, e_ag, z_pop, List.getElem?_cons_zero, List.getElem?_cons_succ, List.set_cons_zero, List.set_cons_succ, List.length_cons, List.length_nil, z_nol, Option.map_some, Option.toList_some, Option.toList_none, List.cons_append, List.nil_append, n_lit, n_m1, n_m2, n_m1lt, n_m1le, n_rem, n_div, n_out, n_cl, n_eq, n_le, n_lt, n_add, n_mul, n_sub, n_nle, n_yle, n_nlt, n_ylt, n_neN, z_lay, z_sz, z_str, z_stI, z_stL, z_stR, eq_self, ↓reduceIte, true_and, and_true, and_self, false_and, and_false, or_self, false_or, or_false, true_or, or_true, not_true_eq_false, not_false_eq_true, Nat.reduceLeDiff, Nat.reduceLT, Nat.reduceAdd, Nat.reduceEqDiff, Nat.reduceMul, Nat.reduceSub, Value.category, Nat.zero_le, beq_self_eq_true]
  · rw [if_pos rfl] at hW
    have hmo : I (B + 186) 4 = nI mo := hmo.resolve_right (by omega)
    obtain ⟨J, a1, a2, a3⟩ := p_tallyEdge (I := I) (L := L) (cg_187 h) hs htri hC (hA rfl)
    have v4 : J (B + 186) 4 = nI mo := by rw [a3 _ (by omega)]; exact hmo
    refine ⟨J, ?_, fun _ => a2, fun z => by omega, a3⟩
    have eq1 : b01 (1 = 1 → ∀ x, x < nc → tal ch c (s + 1) x ≤ mo) = b01 (∀ x, x < nc → tal ch c (s + 1) x ≤ mo) := b01_congr ⟨fun z => z rfl, fun z _ => z⟩
    rw [eq1, ← ifP_01]
    simp (disch := omega) only [kX4_canStillBe_0, kX4_canStillBe_20, cl_186 h, cr_186_0 h, cl_187 h, hW, a1, e_push, e_pushl, e_iload, e_lload, e_aload, e_istore, e_astore, e_lstore, e_iinc, e_iadd, e_isub, e_imul, e_iand, e_ior, e_ixor, e_ishl, e_ishr, e_iushr, e_idiv, e_irem, e_ladd, e_lsub, e_lmul, e_lcmp, e_mmax, e_mmin, e_i2l, e_l2i, e_i2b, e_i2c, e_dup, e_dup2, e_pop, e_icmp_eq, e_icmp_ne, e_icmp_lt, e_icmp_ge, e_icmp_gt, e_icmp_le, e_if_eq, e_if_ne, e_if_lt, e_if_ge, e_if_gt, e_if_le, e_getI, e_getR, e_putI, e_putZ, e_putR, e_iald, e_bald, e_zald, e_lald, e_aald, e_alen, e_iast, e_bast, e_zast, e_last, e_aast, e_iret, e_zret, e_lret, e_vret, e_obj, e_callV, e_callS, e_callT, e_acpy, e_ldcS, e_dn, e_ag, z_pop, List.getElem?_cons_zero, List.getElem?_cons_succ, List.set_cons_zero, List.set_cons_succ, List.length_cons, List.length_nil, z_nol, Option.map_some, Option.toList_some, Option.toList_none, List.cons_append, List.nil_append, n_lit, n_m1, n_m2, n_m1lt, n_m1le, n_rem, n_div, n_out, n_cl, n_eq, n_le, n_lt, n_add, n_mul, n_sub, n_nle, n_yle, n_nlt, n_ylt, n_neN, z_lay, z_sz, z_str, z_stI, z_stL, z_stR, eq_self, ↓reduceIte, true_and, and_true, and_self, false_and, and_false, or_self, false_or, or_false, true_or, or_true, not_true_eq_false, not_false_eq_true, Nat.reduceLeDiff, Nat.reduceLT, Nat.reduceAdd, Nat.reduceEqDiff, Nat.reduceMul, Nat.reduceSub, Value.category, Nat.zero_le, beq_self_eq_true]
    refine lp_allP (fun x ls => ls = [some (Value.ref (B + 186)), some (Value.int (nI (s))), some (Value.int (nI (nc))), some (Value.int (nI (x)))]) nc (fun x => tal ch c (s + 1) x ≤ mo) rfl ?_ ?_ ?_
    · rintro ls rfl
      simp (disch := omega) only [bX4_canStillBe_20, kX4_canStillBe_51, e_push, e_pushl, e_iload, e_lload, e_aload, e_istore, e_astore, e_lstore, e_iinc, e_iadd, e_isub, e_imul, e_iand, e_ior, e_ixor, e_ishl, e_ishr, e_iushr, e_idiv, e_irem, e_ladd, e_lsub, e_lmul, e_lcmp, e_mmax, e_mmin, e_i2l, e_l2i, e_i2b, e_i2c, e_dup, e_dup2, e_pop, e_icmp_eq, e_icmp_ne, e_icmp_lt, e_icmp_ge, e_icmp_gt, e_icmp_le, e_if_eq, e_if_ne, e_if_lt, e_if_ge, e_if_gt, e_if_le, e_getI, e_getR, e_putI, e_putZ, e_putR, e_iald, e_bald, e_zald, e_lald, e_aald, e_alen, e_iast, e_bast, e_zast, e_last, e_aast, e_iret, e_zret, e_lret, e_vret, e_obj, e_callV, e_callS, e_callT, e_acpy, e_ldcS, e_dn, e_ag, z_pop, List.getElem?_cons_zero, List.getElem?_cons_succ, List.set_cons_zero, List.set_cons_succ, List.length_cons, List.length_nil, z_nol, Option.map_some, Option.toList_some, Option.toList_none, List.cons_append, List.nil_append, n_lit, n_m1, n_m2, n_m1lt, n_m1le, n_rem, n_div, n_out, n_cl, n_eq, n_le, n_lt, n_add, n_mul, n_sub, n_nle, n_yle, n_nlt, n_ylt, n_neN, z_lay, z_sz, z_str, z_stI, z_stL, z_stR, eq_self, ↓reduceIte, true_and, and_true, and_self, false_and, and_false, or_self, false_or, or_false, true_or, or_true, not_true_eq_false, not_false_eq_true, Nat.reduceLeDiff, Nat.reduceLT, Nat.reduceAdd, Nat.reduceEqDiff, Nat.reduceMul, Nat.reduceSub, Value.category, Nat.zero_le, beq_self_eq_true]
    · rintro x hx hp ls rfl
      have t1 := p_tally (I := J) (L := L) (x := x) (cg_187 h) a2 (by omega) (by omega)
      refine ⟨_, ?_, rfl⟩
      simp (disch := omega) only [bX4_canStillBe_20, cl_186 h, cr_186_0 h, cl_187 h, t1, v4, e_push, e_pushl, e_iload, e_lload, e_aload, e_istore, e_astore, e_lstore, e_iinc, e_iadd, e_isub, e_imul, e_iand, e_ior, e_ixor, e_ishl, e_ishr, e_iushr, e_idiv, e_irem, e_ladd, e_lsub, e_lmul, e_lcmp, e_mmax, e_mmin, e_i2l, e_l2i, e_i2b, e_i2c, e_dup, e_dup2, e_pop, e_icmp_eq, e_icmp_ne, e_icmp_lt, e_icmp_ge, e_icmp_gt, e_icmp_le, e_if_eq, e_if_ne, e_if_lt, e_if_ge, e_if_gt, e_if_le, e_getI, e_getR, e_putI, e_putZ, e_putR, e_iald, e_bald, e_zald, e_lald, e_aald, e_alen, e_iast, e_bast, e_zast, e_last, e_aast, e_iret, e_zret, e_lret, e_vret, e_obj, e_callV, e_callS, e_callT, e_acpy, e_ldcS, e_dn, e_ag, z_pop, List.getElem?_cons_zero, List.getElem?_cons_succ, List.set_cons_zero, List.set_cons_succ, List.length_cons, List.length_nil, z_nol, Option.map_some, Option.toList_some, Option.toList_none, List.cons_append, List.nil_append, n_lit, n_m1, n_m2, n_m1lt, n_m1le, n_rem, n_div, n_out, n_cl, n_eq, n_le, n_lt, n_add, n_mul, n_sub, n_nle, n_yle, n_nlt, n_ylt, n_neN, z_lay, z_sz, z_str, z_stI, z_stL, z_stR, eq_self, ↓reduceIte, true_and, and_true, and_self, false_and, and_false, or_self, false_or, or_false, true_or, or_true, not_true_eq_false, not_false_eq_true, Nat.reduceLeDiff, Nat.reduceLT, Nat.reduceAdd, Nat.reduceEqDiff, Nat.reduceMul, Nat.reduceSub, Value.category, Nat.zero_le, beq_self_eq_true]
    · rintro x hx hp ls rfl
      have t1 := p_tally (I := J) (L := L) (x := x) (cg_187 h) a2 (by omega) (by omega)
      have t2 := tal_le ch c (n := s + 1) x (by omega)
      simp (disch := omega) only [bX4_canStillBe_20, kX4_canStillBe_43, cl_186 h, cr_186_0 h, cl_187 h, t1, v4, hp, e_push, e_pushl, e_iload, e_lload, e_aload, e_istore, e_astore, e_lstore, e_iinc, e_iadd, e_isub, e_imul, e_iand, e_ior, e_ixor, e_ishl, e_ishr, e_iushr, e_idiv, e_irem, e_ladd, e_lsub, e_lmul, e_lcmp, e_mmax, e_mmin, e_i2l, e_l2i, e_i2b, e_i2c, e_dup, e_dup2, e_pop, e_icmp_eq, e_icmp_ne, e_icmp_lt, e_icmp_ge, e_icmp_gt, e_icmp_le, e_if_eq, e_if_ne, e_if_lt, e_if_ge, e_if_gt, e_if_le, e_getI, e_getR, e_putI, e_putZ, e_putR, e_iald, e_bald, e_zald, e_lald, e_aald, e_alen, e_iast, e_bast, e_zast, e_last, e_aast, e_iret, e_zret, e_lret, e_vret, e_obj, e_callV, e_callS, e_callT, e_acpy, e_ldcS, e_dn, e_ag, z_pop, List.getElem?_cons_zero, List.getElem?_cons_succ, List.set_cons_zero, List.set_cons_succ, List.length_cons, List.length_nil, z_nol, Option.map_some, Option.toList_some, Option.toList_none, List.cons_append, List.nil_append, n_lit, n_m1, n_m2, n_m1lt, n_m1le, n_rem, n_div, n_out, n_cl, n_eq, n_le, n_lt, n_add, n_mul, n_sub, n_nle, n_yle, n_nlt, n_ylt, n_neN, z_lay, z_sz, z_str, z_stI, z_stL, z_stR, eq_self, ↓reduceIte, true_and, and_true, and_self, false_and, and_false, or_self, false_or, or_false, true_or, or_true, not_true_eq_false, not_false_eq_true, Nat.reduceLeDiff, Nat.reduceLT, Nat.reduceAdd, Nat.reduceEqDiff, Nat.reduceMul, Nat.reduceSub, Value.category, Nat.zero_le, beq_self_eq_true]
