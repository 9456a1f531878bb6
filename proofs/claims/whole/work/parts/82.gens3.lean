/-! many generations -/
def mixN {β : Type} (k : Nat) (f g : Nat → β) (r : Nat) : β := if r < k then f r else g r
theorem mixN_0 {β : Type} (f g : Nat → β) : mixN 0 f g = g := funext fun r => if_neg (by omega)
theorem mixN_at {β : Type} (k : Nat) (f g : Nat → β) : mixN k f g k = g k := if_neg (by omega)
theorem mixN_up {β : Type} (k : Nat) (f g : Nat → β) : fUp (mixN k f g) k (f k) = mixN (k + 1) f g := by
  funext r
  unfold fUp mixN
  by_cases e : r = k
  · subst e
    rw [if_pos rfl, if_pos (by omega)]
  · rw [if_neg e]
    by_cases e2 : r < k
    · rw [if_pos e2, if_pos (by omega)]
    · rw [if_neg e2, if_neg (by omega)]
abbrev fam4 : Type := (Nat → Nat) × (Nat → Nat → Nat) × Int32 × Int32
def gen1 (F : Nat → (Nat → Int32) → Int32 → Int32) (ch : Nat → Nat → Nat) (nc rows : Nat) (sd : Int32) (f : fam4) : fam4 := (mixN rows (fun r => genLen (f.1 r)) f.1, mixN rows (fun r => genCol F ch nc (f.2.1 r) (f.1 r) f.2.2.1 sd r) f.2.1, f.2.2.1 + nI 1, f.2.2.2 + smI (payV F ch f.1 f.2.1 f.2.2.1) rows)
def genK (F : Nat → (Nat → Int32) → Int32 → Int32) (ch : Nat → Nat → Nat) (nc rows : Nat) (sd : Int32) : Nat → fam4 → fam4
  | 0, f => f
  | n + 1, f => gen1 F ch nc rows sd (genK F ch nc rows sd n f)
theorem genLen_1 {n : Nat} (h : 1 ≤ n) : 1 ≤ genLen n ∧ genLen n ≤ n := by unfold genLen; split <;> omega
theorem genCol_lt {F : Nat → (Nat → Int32) → Int32 → Int32} {ch : Nat → Nat → Nat} {nc : Nat} {c : Nat → Nat} {n : Nat} {tm sd : Int32} {r i : Nat} (hch : ∀ a b, a < nc → b < nc → ch a b < nc) (hc : ∀ i, i < n → c i < nc) (h1 : 1 ≤ n) (hi : i < genLen n) : genCol F ch nc c n tm sd r i < nc := by
  unfold genCol
  by_cases q : n = 1
  · have e : genLen n = 1 := if_pos q
    rw [if_pos q]
    exact hc i (by omega)
  · have e : genLen n = n - 1 := if_neg q
    rw [if_neg q]
    exact bornV_lt (hch _ _ (hc i (by omega)) (hc (i + 1) (by omega)))
theorem famOK.mix {F : Nat → (Nat → Int32) → Int32 → Int32} {ch : Nat → Nat → Nat} {nc rows : Nat} {len : Nat → Nat} {col : Nat → Nat → Nat} {tm sd : Int32} (hch : ∀ a b, a < nc → b < nc → ch a b < nc) (hO : famOK rows nc len col) (k : Nat) : famOK rows nc (mixN k (fun r => genLen (len r)) len) (mixN k (fun r => genCol F ch nc (col r) (len r) tm sd r) col) := by
  refine ⟨hO.1, hO.2.1, fun r hr => ?_⟩
  obtain ⟨o1, o2, o3⟩ := hO.2.2 r hr
  unfold mixN
  by_cases q : r < k
  · simp only [if_pos q]
    have := genLen_1 o1
    exact ⟨this.1, by omega, fun i hi => genCol_lt hch o3 o1 hi⟩
  · simp only [if_neg q]
    exact ⟨o1, o2, o3⟩
theorem famC.pd {I : Nat → Nat → Int32} {a la ca rows nc : Nat} {len : Nat → Nat} {col : Nat → Nat → Nat} {tm pd v : Int32} (h : famC I a la ca rows nc len col tm pd) (n1 : la ≠ a) (n2 : ca ≠ a) : famC (z_up I a 2 v) a la ca rows nc len col tm v := by
  obtain ⟨h1, h2, h3, h4, h5⟩ := h
  refine ⟨by rw [zup_ne (by omega)]; exact h1, by rw [zup_ne (by omega)]; exact h2, zup_at, h4, fun r hr => ⟨(h5 r hr).1.kept (zup_off n1) (zup_off n2), (h5 r hr).2⟩⟩
theorem famC.tm {I : Nat → Nat → Int32} {a la ca rows nc : Nat} {len : Nat → Nat} {col : Nat → Nat → Nat} {tm pd v : Int32} (h : famC I a la ca rows nc len col tm pd) (n1 : la ≠ a) (n2 : ca ≠ a) : famC (z_up I a 1 v) a la ca rows nc len col v pd := by
  obtain ⟨h1, h2, h3, h4, h5⟩ := h
  refine ⟨by rw [zup_ne (by omega)]; exact h1, zup_at, by rw [zup_ne (by omega)]; exact h3, h4, fun r hr => ⟨(h5 r hr).1.kept (zup_off n1) (zup_off n2), (h5 r hr).2⟩⟩
theorem famC.born {I K : Nat → Nat → Int32} {a la ca rows nc r l : Nat} {len g : Nat → Nat} {col : Nat → Nat → Nat} {tm pd : Int32} (h : famC I a la ca rows nc len col tm pd) (hr : r < rows) (l1 : 1 ≤ l) (l8 : l ≤ 8) (hg : ∀ i, i < l → g i < nc) (k0 : K a = I a) (k1 : K la r = nI l) (k2 : ∀ i, i < l → K ca (r * 8 + i) = nI (g i)) (k3 : ∀ j, j ≠ r → K la j = I la j) (k4 : ∀ j, (∀ i, i < 8 → j ≠ r * 8 + i) → K ca j = I ca j) : famC K a la ca rows nc (fUp len r l) (fUp col r g) tm pd := by
  obtain ⟨h1, h2, h3, h4, h5⟩ := h
  refine ⟨by rw [k0]; exact h1, by rw [k0]; exact h2, by rw [k0]; exact h3, h4, fun q hq => ?_⟩
  by_cases e : q = r
  · subst e
    rw [fUp_at, fUp_at]
    exact ⟨⟨k1, l8, k2⟩, l1, hg⟩
  · rw [fUp_ne e, fUp_ne e]
    obtain ⟨⟨g1, g2, g3⟩, g4, g5⟩ := h5 q hq
    refine ⟨⟨by rw [k3 q e]; exact g1, g2, fun i hi => ?_⟩, g4, g5⟩
    rw [k4 _ (fun i hi => by omega)]
    exact g3 i hi
theorem famR.born {f g : Nat → Int32} {rows nc r l : Nat} {len c : Nat → Nat} {col : Nat → Nat → Nat} {tm pd : Int32} (h : famR f rows len col tm pd) (hO : famOK rows nc len col) (hr : r < rows) (l8 : l ≤ 8) (k1 : g r = nI l) (k2 : ∀ i, i < l → g (4 + 8 * r + i) = nI (c i)) (k3 : ∀ j, j ≠ r → (∀ i, i < 8 → j ≠ 4 + 8 * r + i) → g j = f j) : famR g rows (fUp len r l) (fUp col r c) tm pd := by
  obtain ⟨h1, h2, h3, h4, h5⟩ := h
  have o4 := hO.1
  refine ⟨fun q hq => ?_, fun q hq1 hq2 => ?_, fun q hq i hi => ?_, ?_, ?_⟩
  · by_cases e : q = r
    · subst e; rw [fUp_at]; exact k1
    · rw [fUp_ne e, k3 q e (fun i hi => by omega)]; exact h1 q hq
  · rw [k3 q (by omega) (fun i hi => by omega)]; exact h2 q hq1 hq2
  · by_cases e : q = r
    · subst e; rw [fUp_at] at hi ⊢; exact k2 i hi
    · rw [fUp_ne e] at hi ⊢
      have := (hO.2.2 q hq).2.1
      rw [k3 _ (by omega) (fun j hj => by omega)]; exact h3 q hq i hi
  · rw [k3 36 (by omega) (fun i hi => by omega)]; exact h4
  · rw [k3 37 (by omega) (fun i hi => by omega)]; exact h5
/-- what changes when the class lets a family pass generations -/
def cGen (I J : Nat → Nat → Int32) (B a : Nat) : Prop := ∀ q, q ≠ B + 39 → q ≠ B + 40 → q ≠ B + 41 → q ≠ a → q ≠ a + 1 → q ≠ a + 2 → J q = I q
theorem p_gen1 {I : Nat → Nat → Int32} {L : Nat → Nat → Int64} {Z : zZ} {B tx lv nc a g m : Nat} {sd : Int32} {x5 : Option Value} {ch : Nat → Nat → Nat} {rows : Nat} {len : Nat → Nat} {col : Nat → Nat → Nat} {tm pd : Int32} {F : Nat → (Nat → Int32) → Int32 → Int32} (h : isCls Z B tx) (hF : lawW I L B tx lv F) (hkc : I (B + (tx + 5)) 0 = nI nc) (hnc : nc ≤ 4) (hT : tabI I (B + (tx + 6)) ch) (hch : ∀ a b, a < nc → b < nc → ch a b < nc) (hf : isFam Z a (a + 1) (a + 2)) (ha : a = B + 33 ∨ a = B + 36) (hC : famC I a (a + 1) (a + 2) rows nc len col tm pd) (hg : g < m) (hm : m < 100) :
    ∃ J y, bX11_passGenerations_3 [some (.ref (B)), some (.ref (a)), some (.int (nI (m))), some (.int (sd)), some (.int (nI (g))), x5] [] (I, L, Z) = some (.inl ([some (.ref (B)), some (.ref (a)), some (.int (nI (m))), some (.int (sd)), some (.int (nI (g + 1))), y], (J, L, Z))) ∧ famC J a (a + 1) (a + 2) rows nc (gen1 F ch nc rows sd (len, col, tm, pd)).1 (gen1 F ch nc rows sd (len, col, tm, pd)).2.1 (gen1 F ch nc rows sd (len, col, tm, pd)).2.2.1 (gen1 F ch nc rows sd (len, col, tm, pd)).2.2.2 ∧ cGen I J B a := by
  have htx := h.1
  have hr4 := hC.2.2.2.1
  have hd : (a = B + 33 ∧ a + 1 = B + 34 ∧ a + 2 = B + 35) ∨ (a = B + 36 ∧ a + 1 = B + 37 ∧ a + 2 = B + 38) := by omega
  have e1 : bX11_passGenerations_3 [some (.ref (B)), some (.ref (a)), some (.int (nI (m))), some (.int (sd)), some (.int (nI (g))), x5] [] (I, L, Z) = q_lp bX11_passGenerations_12 [some (.ref (B)), some (.ref (a)), some (.int (nI (m))), some (.int (sd)), some (.int (nI (g))), some (.int (nI (0)))] [] (I, L, Z) := by
    simp (disch := omega) only [bX11_passGenerations_3, kX11_passGenerations_12, e_push, e_pushl, e_iload, e_lload, e_aload, e_istore, e_astore, e_lstore, e_iinc, e_iadd, e_isub, e_imul, e_iand, e_ior, e_ixor, e_ishl, e_ishr, e_iushr, e_idiv, e_irem, e_ladd, e_lsub, e_lmul, e_lcmp, e_mmax, e_mmin, e_i2l, e_l2i, e_i2b, e_i2c, e_dup, e_dup2, e_pop, e_icmp_eq, e_icmp_ne, e_icmp_lt, e_icmp_ge, e_icmp_gt, e_icmp_le, e_if_eq, e_if_ne, e_if_lt, e_if_ge, e_if_gt, e_if_le, e_getI, e_getR, e_putI, e_putZ, e_putR, e_iald, e_bald, e_zald, e_lald, e_aald, e_alen, e_iast, e_bast, e_zast, e_last, e_aast, e_iret, e_zret, e_lret, e_vret, e_obj, e_callV, e_callS, e_callT, e_acpy, e_ldcS, e_dn, e_ag, z_pop, List.getElem?_cons_zero, List.getElem?_cons_succ, List.set_cons_zero, List.set_cons_succ, List.length_cons, List.length_nil, z_nol, Option.map_some, Option.toList_some, Option.toList_none, List.cons_append, List.nil_append, n_lit, n_m1, n_m2, n_m1lt, n_m1le, n_rem, n_div, n_out, n_cl, n_eq, n_le, n_lt, n_add, n_mul, n_sub, n_nle, n_yle, n_nlt, n_ylt, n_neN, z_lay, z_sz, z_str, z_stI, z_stL, z_stR, eq_self, ↓reduceIte, true_and, and_true, and_self, false_and, and_false, or_self, false_or, or_false, true_or, or_true, not_true_eq_false, not_false_eq_true, Nat.reduceLeDiff, Nat.reduceLT, Nat.reduceAdd, Nat.reduceEqDiff, Nat.reduceMul, Nat.reduceSub, Value.category, Nat.zero_le, beq_self_eq_true]
  rw [e1]
  refine lp_ex2 (fun k ls σ => ∃ J : Nat → Nat → Int32, ls = [some (.ref (B)), some (.ref (a)), some (.int (nI (m))), some (.int (sd)), some (.int (nI (g))), some (.int (nI (k)))] ∧ σ = (J, L, Z) ∧ famC J a (a + 1) (a + 2) rows nc (mixN k (fun r => genLen (len r)) len) (mixN k (fun r => genCol F ch nc (col r) (len r) tm sd r) col) tm (pd + smI (payV F ch len col tm) k) ∧ cGen I J B a) rows ?_ ?_ ?_
  · refine ⟨I, rfl, rfl, ?_, fun _ _ _ _ _ _ _ => rfl⟩
    rw [mixN_0, mixN_0, show smI (payV F ch len col tm) 0 = nI 0 from rfl, i_add0]
    exact hC
  · rintro ls σ ⟨J, rfl, rfl, q1, q2⟩
    have v1 := q1.1
    have v2 := q1.2.1
    refine ⟨z_up J a 1 (tm + nI 1), some (.int (nI rows)), ?_, q1.tm (by omega) (by omega), fun q z1 z2 z3 z4 z5 z6 => by rw [zup_off z4]; exact q2 q z1 z2 z3 z4 z5 z6⟩
    simp (disch := omega) only [bX11_passGenerations_12, kX11_passGenerations_51, hf.1, v1, v2, e_push, e_pushl, e_iload, e_lload, e_aload, e_istore, e_astore, e_lstore, e_iinc, e_iadd, e_isub, e_imul, e_iand, e_ior, e_ixor, e_ishl, e_ishr, e_iushr, e_idiv, e_irem, e_ladd, e_lsub, e_lmul, e_lcmp, e_mmax, e_mmin, e_i2l, e_l2i, e_i2b, e_i2c, e_dup, e_dup2, e_pop, e_icmp_eq, e_icmp_ne, e_icmp_lt, e_icmp_ge, e_icmp_gt, e_icmp_le, e_if_eq, e_if_ne, e_if_lt, e_if_ge, e_if_gt, e_if_le, e_getI, e_getR, e_putI, e_putZ, e_putR, e_iald, e_bald, e_zald, e_lald, e_aald, e_alen, e_iast, e_bast, e_zast, e_last, e_aast, e_iret, e_zret, e_lret, e_vret, e_obj, e_callV, e_callS, e_callT, e_acpy, e_ldcS, e_dn, e_ag, z_pop, List.getElem?_cons_zero, List.getElem?_cons_succ, List.set_cons_zero, List.set_cons_succ, List.length_cons, List.length_nil, z_nol, Option.map_some, Option.toList_some, Option.toList_none, List.cons_append, List.nil_append, n_lit, n_m1, n_m2, n_m1lt, n_m1le, n_rem, n_div, n_out, n_cl, n_eq, n_le, n_lt, n_add, n_mul, n_sub, n_nle, n_yle, n_nlt, n_ylt, n_neN, z_lay, z_sz, z_str, z_stI, z_stL, z_stR, eq_self, ↓reduceIte, true_and, and_true, and_self, false_and, and_false, or_self, false_or, or_false, true_or, or_true, not_true_eq_false, not_false_eq_true, Nat.reduceLeDiff, Nat.reduceLT, Nat.reduceAdd, Nat.reduceEqDiff, Nat.reduceMul, Nat.reduceSub, Value.category, Nat.zero_le, beq_self_eq_true]
  · rintro k hk ls σ ⟨J, rfl, rfl, q1, q2⟩
    have v1 := q1.1
    have hJ : ∀ q, q = B + (tx + 1) ∨ q = B + (tx + 2) ∨ q = B + (tx + 13) ∨ q = B + (tx + 5) ∨ q = B + (tx + 6) ∨ B + 200 ≤ q → J q = I q := fun q hq => q2 q (by omega) (by omega) (by omega) (by omega) (by omega) (by omega)
    have hFJ : lawW J L B tx lv F := hF.kept (hJ _ (by omega)) (hJ _ (by omega)) (hJ _ (by omega)) (fun k _ _ => hJ _ (by omega))
    have g0 := q1.2.2.2.2 k hk
    have gc4 : ∀ i, i < mixN k (fun r => genLen (len r)) len k → mixN k (fun r => genCol F ch nc (col r) (len r) tm sd r) col k i < 4 := fun i hi => Nat.lt_of_lt_of_le (g0.2.2 i hi) hnc
    obtain ⟨J1, a1, a2⟩ := p_paysOf (I := J) (L := L) (ch := ch) (r := k) h hFJ hf (by omega) (by omega) (by omega) (by omega) g0.1 g0.2.1 gc4
    rw [q1.2.1, mixN_at, mixN_at] at a1
    have q1' : famC J1 a (a + 1) (a + 2) rows nc (mixN k (fun r => genLen (len r)) len) (mixN k (fun r => genCol F ch nc (col r) (len r) tm sd r) col) tm (pd + smI (payV F ch len col tm) k) := q1.kept (a2 _ (by omega) (by omega)) (a2 _ (by omega) (by omega)) (a2 _ (by omega) (by omega))
    have v2 := q1.2.2.1
    have e2 : pd + smI (payV F ch len col tm) k + lawVal F 3 99 (vsT ch (col k) (len k) tm k 0 0 (col k 0)) = pd + smI (payV F ch len col tm) (k + 1) := by
      rw [smI, Int32.add_assoc]; rfl
    have q3 := q1'.pd (v := pd + smI (payV F ch len col tm) (k + 1)) (by omega) (by omega)
    generalize hJ2 : z_up J1 a 2 (pd + smI (payV F ch len col tm) (k + 1)) = J2 at q3
    have y2 : ∀ q, q ≠ a → q ≠ B + 40 → q ≠ B + 41 → J2 q = J q := fun q z1 z2 z3 => by rw [← hJ2, zup_off z1, a2 q z2 z3]
    have g3 := q3.2.2.2.2 k hk
    obtain ⟨J3, b1, b2, b3, b4, b5, b6⟩ := p_bear (I := J2) (L := L) (sd := sd) (r := k) h (hFJ.kept (y2 _ (by omega) (by omega) (by omega)) (y2 _ (by omega) (by omega) (by omega)) (y2 _ (by omega) (by omega) (by omega)) (fun k _ _ => y2 _ (by omega) (by omega) (by omega))) (by rw [y2 _ (by omega) (by omega) (by omega), hJ _ (by omega)]; exact hkc) hnc (fun x y hx hy => by rw [y2 _ (by omega) (by omega) (by omega), hJ _ (by omega)]; exact hT x y hx hy) hch hf hd (by omega) g3.1 g3.2.1 g3.2.2
    rw [q3.2.1] at b3
    have l1 := genLen_1 g3.2.1
    have l8 := g3.1.2.1
    have q4 := q3.born (K := J3) (l := genLen (mixN k (fun r => genLen (len r)) len k)) (g := genCol F ch nc (mixN k (fun r => genCol F ch nc (col r) (len r) tm sd r) col k) (mixN k (fun r => genLen (len r)) len k) tm sd k) hk l1.1 (by omega) (fun i hi => genCol_lt hch g3.2.2 g3.2.1 hi) (b6 _ (by omega) (by omega) (by omega) (by omega) (by omega)) b2 b3 b4 b5
    rw [mixN_at, mixN_at] at q4
    have e3 : fUp (mixN k (fun r => genLen (len r)) len) k (genLen (len k)) = mixN (k + 1) (fun r => genLen (len r)) len := mixN_up k (fun r => genLen (len r)) len
    have e4 : fUp (mixN k (fun r => genCol F ch nc (col r) (len r) tm sd r) col) k (genCol F ch nc (col k) (len k) tm sd k) = mixN (k + 1) (fun r => genCol F ch nc (col r) (len r) tm sd r) col := mixN_up k (fun r => genCol F ch nc (col r) (len r) tm sd r) col
    rw [e3, e4] at q4
    refine ⟨_, _, ?_, J3, rfl, rfl, q4, fun q z1 z2 z3 z4 z5 z6 => by rw [b6 q z1 z2 z3 z5 z6, y2 q z4 z2 z3]; exact q2 q z1 z2 z3 z4 z5 z6⟩
    simp (disch := omega) only [bX11_passGenerations_12, cl_B h, cr_0_0 h, cr_0_4 h, cr_0_5 h, cr_0_6 h, cr_0_7 h, cr_0_8 h, cr_0_9 h, cr_0_10 h, cr_0_11 h, cr_0_12 h, h.2.2.2.1, cl_1 h, cl_33 h, cl_36 h, cl_39 h, cl_40 h, cl_42 h, cl_45 h, cl_178 h, cl_186 h, cl_191 h, tl_0 h, tl_5 h, tr_0_0 h, tr_0_1 h, tr_0_2 h, tl_1 h, tl_10 h, hf.1, v1, v2, a1, e2, hJ2, b1, e_push, e_pushl, e_iload, e_lload, e_aload, e_istore, e_astore, e_lstore, e_iinc, e_iadd, e_isub, e_imul, e_iand, e_ior, e_ixor, e_ishl, e_ishr, e_iushr, e_idiv, e_irem, e_ladd, e_lsub, e_lmul, e_lcmp, e_mmax, e_mmin, e_i2l, e_l2i, e_i2b, e_i2c, e_dup, e_dup2, e_pop, e_icmp_eq, e_icmp_ne, e_icmp_lt, e_icmp_ge, e_icmp_gt, e_icmp_le, e_if_eq, e_if_ne, e_if_lt, e_if_ge, e_if_gt, e_if_le, e_getI, e_getR, e_putI, e_putZ, e_putR, e_iald, e_bald, e_zald, e_lald, e_aald, e_alen, e_iast, e_bast, e_zast, e_last, e_aast, e_iret, e_zret, e_lret, e_vret, e_obj, e_callV, e_callS, e_callT, e_acpy, e_ldcS, e_dn, e_ag, z_pop, List.getElem?_cons_zero, List.getElem?_cons_succ, List.set_cons_zero, List.set_cons_succ, List.length_cons, List.length_nil, z_nol, Option.map_some, Option.toList_some, Option.toList_none, List.cons_append, List.nil_append, n_lit, n_m1, n_m2, n_m1lt, n_m1le, n_rem, n_div, n_out, n_cl, n_eq, n_le, n_lt, n_add, n_mul, n_sub, n_nle, n_yle, n_nlt, n_ylt, n_neN, z_lay, z_sz, z_str, z_stI, z_stL, z_stR, eq_self, ↓reduceIte, true_and, and_true, and_self, false_and, and_false, or_self, false_or, or_false, true_or, or_true, not_true_eq_false, not_false_eq_true, Nat.reduceLeDiff, Nat.reduceLT, Nat.reduceAdd, Nat.reduceEqDiff, Nat.reduceMul, Nat.reduceSub, Value.category, Nat.zero_le, beq_self_eq_true]
theorem p_gens {I : Nat → Nat → Int32} {L : Nat → Nat → Int64} {Z : zZ} {B tx lv nc a m : Nat} {sd : Int32} {ch : Nat → Nat → Nat} {rows : Nat} {len : Nat → Nat} {col : Nat → Nat → Nat} {tm pd : Int32} {F : Nat → (Nat → Int32) → Int32 → Int32} (h : isCls Z B tx) (hF : lawW I L B tx lv F) (hkc : I (B + (tx + 5)) 0 = nI nc) (hnc : nc ≤ 4) (hT : tabI I (B + (tx + 6)) ch) (hch : ∀ a b, a < nc → b < nc → ch a b < nc) (hf : isFam Z a (a + 1) (a + 2)) (ha : a = B + 33 ∨ a = B + 36) (hC : famC I a (a + 1) (a + 2) rows nc len col tm pd) (hm : m < 100) :
    ∃ J, fX11_passGenerations [.ref B, .ref a, .int (nI m), .int sd] (I, L, Z) = some (none, (J, L, Z)) ∧ famC J a (a + 1) (a + 2) rows nc (genK F ch nc rows sd m (len, col, tm, pd)).1 (genK F ch nc rows sd m (len, col, tm, pd)).2.1 (genK F ch nc rows sd m (len, col, tm, pd)).2.2.1 (genK F ch nc rows sd m (len, col, tm, pd)).2.2.2 ∧ cGen I J B a := by
  have htx := h.1
  have e0 : fX11_passGenerations [.ref B, .ref a, .int (nI m), .int sd] (I, L, Z) = kX11_passGenerations_0 [some (.ref (B)), some (.ref (a)), some (.int (nI (m))), some (.int (sd)), none, none] [] (I, L, Z) := rfl
  rw [e0]
  simp (disch := omega) only [kX11_passGenerations_0, kX11_passGenerations_3, e_push, e_pushl, e_iload, e_lload, e_aload, e_istore, e_astore, e_lstore, e_iinc, e_iadd, e_isub, e_imul, e_iand, e_ior, e_ixor, e_ishl, e_ishr, e_iushr, e_idiv, e_irem, e_ladd, e_lsub, e_lmul, e_lcmp, e_mmax, e_mmin, e_i2l, e_l2i, e_i2b, e_i2c, e_dup, e_dup2, e_pop, e_icmp_eq, e_icmp_ne, e_icmp_lt, e_icmp_ge, e_icmp_gt, e_icmp_le, e_if_eq, e_if_ne, e_if_lt, e_if_ge, e_if_gt, e_if_le, e_getI, e_getR, e_putI, e_putZ, e_putR, e_iald, e_bald, e_zald, e_lald, e_aald, e_alen, e_iast, e_bast, e_zast, e_last, e_aast, e_iret, e_zret, e_lret, e_vret, e_obj, e_callV, e_callS, e_callT, e_acpy, e_ldcS, e_dn, e_ag, z_pop, List.getElem?_cons_zero, List.getElem?_cons_succ, List.set_cons_zero, List.set_cons_succ, List.length_cons, List.length_nil, z_nol, Option.map_some, Option.toList_some, Option.toList_none, List.cons_append, List.nil_append, n_lit, n_m1, n_m2, n_m1lt, n_m1le, n_rem, n_div, n_out, n_cl, n_eq, n_le, n_lt, n_add, n_mul, n_sub, n_nle, n_yle, n_nlt, n_ylt, n_neN, z_lay, z_sz, z_str, z_stI, z_stL, z_stR, eq_self, ↓reduceIte, true_and, and_true, and_self, false_and, and_false, or_self, false_or, or_false, true_or, or_true, not_true_eq_false, not_false_eq_true, Nat.reduceLeDiff, Nat.reduceLT, Nat.reduceAdd, Nat.reduceEqDiff, Nat.reduceMul, Nat.reduceSub, Value.category, Nat.zero_le, beq_self_eq_true]
  refine lp_ex (fun k ls σ => ∃ (J : Nat → Nat → Int32) (x : Option Value), ls = [some (.ref (B)), some (.ref (a)), some (.int (nI (m))), some (.int (sd)), some (.int (nI (k))), x] ∧ σ = (J, L, Z) ∧ famC J a (a + 1) (a + 2) rows nc (genK F ch nc rows sd k (len, col, tm, pd)).1 (genK F ch nc rows sd k (len, col, tm, pd)).2.1 (genK F ch nc rows sd k (len, col, tm, pd)).2.2.1 (genK F ch nc rows sd k (len, col, tm, pd)).2.2.2 ∧ cGen I J B a) m ?_ ?_ ?_
  · exact ⟨I, none, rfl, rfl, hC, fun _ _ _ _ _ _ _ => rfl⟩
  · rintro ls σ ⟨J, x, rfl, rfl, q1, q2⟩
    refine ⟨J, ?_, q1, q2⟩
    simp (disch := omega) only [bX11_passGenerations_3, kX11_passGenerations_67, e_push, e_pushl, e_iload, e_lload, e_aload, e_istore, e_astore, e_lstore, e_iinc, e_iadd, e_isub, e_imul, e_iand, e_ior, e_ixor, e_ishl, e_ishr, e_iushr, e_idiv, e_irem, e_ladd, e_lsub, e_lmul, e_lcmp, e_mmax, e_mmin, e_i2l, e_l2i, e_i2b, e_i2c, e_dup, e_dup2, e_pop, e_icmp_eq, e_icmp_ne, e_icmp_lt, e_icmp_ge, e_icmp_gt, e_icmp_le, e_if_eq, e_if_ne, e_if_lt, e_if_ge, e_if_gt, e_if_le, e_getI, e_getR, e_putI, e_putZ, e_putR, e_iald, e_bald, e_zald, e_lald, e_aald, e_alen, e_iast, e_bast, e_zast, e_last, e_aast, e_iret, e_zret, e_lret, e_vret, e_obj, e_callV, e_callS, e_callT, e_acpy, e_ldcS, e_dn, e_ag, z_pop, List.getElem?_cons_zero, List.getElem?_cons_succ, List.set_cons_zero, List.set_cons_succ, List.length_cons, List.length_nil, z_nol, Option.map_some, Option.toList_some, Option.toList_none, List.cons_append, List.nil_append, n_lit, n_m1, n_m2, n_m1lt, n_m1le, n_rem, n_div, n_out, n_cl, n_eq, n_le, n_lt, n_add, n_mul, n_sub, n_nle, n_yle, n_nlt, n_ylt, n_neN, z_lay, z_sz, z_str, z_stI, z_stL, z_stR, eq_self, ↓reduceIte, true_and, and_true, and_self, false_and, and_false, or_self, false_or, or_false, true_or, or_true, not_true_eq_false, not_false_eq_true, Nat.reduceLeDiff, Nat.reduceLT, Nat.reduceAdd, Nat.reduceEqDiff, Nat.reduceMul, Nat.reduceSub, Value.category, Nat.zero_le, beq_self_eq_true]
  · rintro k hk ls σ ⟨J, x, rfl, rfl, q1, q2⟩
    have hJ : ∀ q, q = B + (tx + 1) ∨ q = B + (tx + 2) ∨ q = B + (tx + 13) ∨ q = B + (tx + 5) ∨ q = B + (tx + 6) ∨ B + 200 ≤ q → J q = I q := fun q hq => q2 q (by omega) (by omega) (by omega) (by omega) (by omega) (by omega)
    obtain ⟨J2, y, a1, a2, a3⟩ := p_gen1 (I := J) (L := L) (sd := sd) (x5 := x) (g := k) (m := m) h (hF.kept (hJ _ (by omega)) (hJ _ (by omega)) (hJ _ (by omega)) (fun k _ _ => hJ _ (by omega))) (by rw [hJ _ (by omega)]; exact hkc) hnc (fun x y hx hy => by rw [hJ _ (by omega)]; exact hT x y hx hy) hch hf ha q1 hk hm
    exact ⟨_, _, a1, J2, y, rfl, rfl, a2, fun q z1 z2 z3 z4 z5 z6 => by rw [a3 q z1 z2 z3 z4 z5 z6, q2 q z1 z2 z3 z4 z5 z6]⟩
theorem r_gen1 {I : Nat → Nat → Int32} {L : Nat → Nat → Int64} {Z : zZ} {B tx lv nc : Nat} {sd : Int32} {ch : Nat → Nat → Nat} {rows : Nat} {len : Nat → Nat} {col : Nat → Nat → Nat} {tm pd : Int32} {F : Nat → (Nat → Int32) → Int32 → Int32} (htx : tx = 3 ∨ tx = 18) (h : isMod Z (B + 200)) (hT : refTab I (B + 200) lv nc ch) (hF : lawW I L B tx lv F) (hs : I (B + 200) 48 = sd) (hw : I (B + 200 + 13) lv = nI rows) (hR : famR (I (B + 200 + 30)) rows len col tm pd) (hO : famOK rows nc len col) (hch : ∀ a b, a < nc → b < nc → ch a b < nc) :
    ∃ J, fX12_generationGoes [.ref (B + 200)] (I, L, Z) = some (none, (J, L, Z)) ∧ famR (J (B + 200 + 30)) rows (gen1 F ch nc rows sd (len, col, tm, pd)).1 (gen1 F ch nc rows sd (len, col, tm, pd)).2.1 (gen1 F ch nc rows sd (len, col, tm, pd)).2.2.1 (gen1 F ch nc rows sd (len, col, tm, pd)).2.2.2 ∧ rGrow I J B := by
  have o4 := hO.1
  have g2 := hT.2.1
  obtain ⟨J1, a1, a2⟩ := r_paysAll (I := I) (L := L) htx h hT hF hw hR hO
  have v37 := hR.2.2.2.2
  have e30 : J1 (B + 200 + 30) = I (B + 200 + 30) := a2.1 _ (by omega) (by omega) (by omega)
  have hR1 : famR (z_up J1 (B + 200 + 30) 37 (pd + smI (payV F ch len col tm) rows) (B + 200 + 30)) rows len col tm (pd + smI (payV F ch len col tm) rows) := by
    obtain ⟨k1, k2, k3, k4, k5⟩ := hR
    refine ⟨fun r hr => by rw [zup_ne (by omega), e30]; exact k1 r hr, fun r hr hr4 => by rw [zup_ne (by omega), e30]; exact k2 r hr hr4, fun r hr i hi => ?_, by rw [zup_ne (by omega), e30]; exact k4, zup_at⟩
    have := (hO.2.2 r hr).2.1
    rw [zup_ne (by omega), e30]; exact k3 r hr i hi
  have gJ : rGrow I (z_up J1 (B + 200 + 30) 37 (pd + smI (payV F ch len col tm) rows)) B := ⟨fun q z1 z2 z3 z4 z5 z6 => by rw [zup_off z4, a2.1 q z1 z2 z3], fun j z1 z2 => by rw [zup_off (by omega), a2.2 j z1]⟩
  have e0 : fX12_generationGoes [.ref (B + 200)] (I, L, Z) = kX12_generationGoes_0 [some (.ref ((B + 200))), none] [] (I, L, Z) := rfl
  rw [e0]
  simp (disch := omega) only [kX12_generationGoes_0, kX12_generationGoes_16, h.1, mr_row h, ml_row h, v37, a1, e_push, e_pushl, e_iload, e_lload, e_aload, e_istore, e_astore, e_lstore, e_iinc, e_iadd, e_isub, e_imul, e_iand, e_ior, e_ixor, e_ishl, e_ishr, e_iushr, e_idiv, e_irem, e_ladd, e_lsub, e_lmul, e_lcmp, e_mmax, e_mmin, e_i2l, e_l2i, e_i2b, e_i2c, e_dup, e_dup2, e_pop, e_icmp_eq, e_icmp_ne, e_icmp_lt, e_icmp_ge, e_icmp_gt, e_icmp_le, e_if_eq, e_if_ne, e_if_lt, e_if_ge, e_if_gt, e_if_le, e_getI, e_getR, e_putI, e_putZ, e_putR, e_iald, e_bald, e_zald, e_lald, e_aald, e_alen, e_iast, e_bast, e_zast, e_last, e_aast, e_iret, e_zret, e_lret, e_vret, e_obj, e_callV, e_callS, e_callT, e_acpy, e_ldcS, e_dn, e_ag, z_pop, List.getElem?_cons_zero, List.getElem?_cons_succ, List.set_cons_zero, List.set_cons_succ, List.length_cons, List.length_nil, z_nol, Option.map_some, Option.toList_some, Option.toList_none, List.cons_append, List.nil_append, n_lit, n_m1, n_m2, n_m1lt, n_m1le, n_rem, n_div, n_out, n_cl, n_eq, n_le, n_lt, n_add, n_mul, n_sub, n_nle, n_yle, n_nlt, n_ylt, n_neN, z_lay, z_sz, z_str, z_stI, z_stL, z_stR, eq_self, ↓reduceIte, true_and, and_true, and_self, false_and, and_false, or_self, false_or, or_false, true_or, or_true, not_true_eq_false, not_false_eq_true, Nat.reduceLeDiff, Nat.reduceLT, Nat.reduceAdd, Nat.reduceEqDiff, Nat.reduceMul, Nat.reduceSub, Value.category, Nat.zero_le, beq_self_eq_true]
  refine lp_ex (fun k ls σ => ∃ J : Nat → Nat → Int32, ls = [some (.ref ((B + 200))), some (.int (nI (k)))] ∧ σ = (J, L, Z) ∧ famR (J (B + 200 + 30)) rows (mixN k (fun r => genLen (len r)) len) (mixN k (fun r => genCol F ch nc (col r) (len r) tm sd r) col) tm (pd + smI (payV F ch len col tm) rows) ∧ rGrow I J B) rows ?_ ?_ ?_
  · refine ⟨_, rfl, rfl, ?_, gJ⟩
    rw [mixN_0, mixN_0]
    exact hR1
  · rintro ls σ ⟨J, rfl, rfl, q1, q2⟩
    have v1 := (q2.tab hT).1
    have v2 : J (B + 200 + 13) lv = nI rows := by rw [q2.same.2.1 13 (by unfold essA; omega)]; exact hw
    have v3 := q1.2.2.2.1
    refine ⟨z_up J (B + 200 + 30) 36 (tm + nI 1), ?_, ?_, ⟨fun q z1 z2 z3 z4 z5 z6 => by rw [zup_off z4]; exact q2.1 q z1 z2 z3 z4 z5 z6, fun j z1 z2 => by rw [zup_off (by omega)]; exact q2.2 j z1 z2⟩⟩
    · simp (disch := omega) only [bX12_generationGoes_16, kX12_generationGoes_40, h.1, mr_row h, ml_row h, mr_rowMany h, ml_rowMany h, v1, v2, v3, e_push, e_pushl, e_iload, e_lload, e_aload, e_istore, e_astore, e_lstore, e_iinc, e_iadd, e_isub, e_imul, e_iand, e_ior, e_ixor, e_ishl, e_ishr, e_iushr, e_idiv, e_irem, e_ladd, e_lsub, e_lmul, e_lcmp, e_mmax, e_mmin, e_i2l, e_l2i, e_i2b, e_i2c, e_dup, e_dup2, e_pop, e_icmp_eq, e_icmp_ne, e_icmp_lt, e_icmp_ge, e_icmp_gt, e_icmp_le, e_if_eq, e_if_ne, e_if_lt, e_if_ge, e_if_gt, e_if_le, e_getI, e_getR, e_putI, e_putZ, e_putR, e_iald, e_bald, e_zald, e_lald, e_aald, e_alen, e_iast, e_bast, e_zast, e_last, e_aast, e_iret, e_zret, e_lret, e_vret, e_obj, e_callV, e_callS, e_callT, e_acpy, e_ldcS, e_dn, e_ag, z_pop, List.getElem?_cons_zero, List.getElem?_cons_succ, List.set_cons_zero, List.set_cons_succ, List.length_cons, List.length_nil, z_nol, Option.map_some, Option.toList_some, Option.toList_none, List.cons_append, List.nil_append, n_lit, n_m1, n_m2, n_m1lt, n_m1le, n_rem, n_div, n_out, n_cl, n_eq, n_le, n_lt, n_add, n_mul, n_sub, n_nle, n_yle, n_nlt, n_ylt, n_neN, z_lay, z_sz, z_str, z_stI, z_stL, z_stR, eq_self, ↓reduceIte, true_and, and_true, and_self, false_and, and_false, or_self, false_or, or_false, true_or, or_true, not_true_eq_false, not_false_eq_true, Nat.reduceLeDiff, Nat.reduceLT, Nat.reduceAdd, Nat.reduceEqDiff, Nat.reduceMul, Nat.reduceSub, Value.category, Nat.zero_le, beq_self_eq_true]
    · have hO2 := famOK.mix (F := F) (tm := tm) (sd := sd) hch hO rows
      obtain ⟨k1, k2, k3, k4, k5⟩ := q1
      refine ⟨fun r hr => by rw [zup_ne (by omega)]; exact k1 r hr, fun r hr hr4 => by rw [zup_ne (by omega)]; exact k2 r hr hr4, fun r hr i hi => ?_, zup_at, by rw [zup_ne (by omega)]; exact k5⟩
      have := (hO2.2.2 r hr).2.1
      have hi2 : i < mixN rows (fun r => genLen (len r)) len r := hi
      rw [zup_ne (by omega)]; exact k3 r hr i hi
  · rintro k hk ls σ ⟨J, rfl, rfl, q1, q2⟩
    have v1 := (q2.tab hT).1
    have v2 : J (B + 200 + 13) lv = nI rows := by rw [q2.same.2.1 13 (by unfold essA; omega)]; exact hw
    have hO2 := famOK.mix (F := F) (tm := tm) (sd := sd) hch hO k
    have ok := hO2.2.2 k hk
    obtain ⟨J3, b1, b2, b3, b4, b5⟩ := r_grows (I := J) (L := L) (sd := sd) (r := k) htx h (q2.tab hT) (hF.sameR htx q2.same) (by rw [q2.2 48 (by omega) (by omega)]; exact hs) (by omega) (q1.row hO2 hk) ok.1
    rw [q1.2.2.2.1] at b3
    have l1 := genLen_1 ok.1
    have q4 := q1.born (g := J3 (B + 200 + 30)) (l := genLen (mixN k (fun r => genLen (len r)) len k)) (c := genCol F ch nc (mixN k (fun r => genCol F ch nc (col r) (len r) tm sd r) col k) (mixN k (fun r => genLen (len r)) len k) tm sd k) hO2 hk (by omega) b2 b3 b4
    rw [mixN_at, mixN_at] at q4
    have e3 : fUp (mixN k (fun r => genLen (len r)) len) k (genLen (len k)) = mixN (k + 1) (fun r => genLen (len r)) len := mixN_up k (fun r => genLen (len r)) len
    have e4 : fUp (mixN k (fun r => genCol F ch nc (col r) (len r) tm sd r) col) k (genCol F ch nc (col k) (len k) tm sd k) = mixN (k + 1) (fun r => genCol F ch nc (col r) (len r) tm sd r) col := mixN_up k (fun r => genCol F ch nc (col r) (len r) tm sd r) col
    rw [e3, e4] at q4
    refine ⟨_, _, ?_, J3, rfl, rfl, q4, q2.trans b5⟩
    simp (disch := omega) only [bX12_generationGoes_16, h.1, mr_rowMany h, ml_rowMany h, v1, v2, b1, e_push, e_pushl, e_iload, e_lload, e_aload, e_istore, e_astore, e_lstore, e_iinc, e_iadd, e_isub, e_imul, e_iand, e_ior, e_ixor, e_ishl, e_ishr, e_iushr, e_idiv, e_irem, e_ladd, e_lsub, e_lmul, e_lcmp, e_mmax, e_mmin, e_i2l, e_l2i, e_i2b, e_i2c, e_dup, e_dup2, e_pop, e_icmp_eq, e_icmp_ne, e_icmp_lt, e_icmp_ge, e_icmp_gt, e_icmp_le, e_if_eq, e_if_ne, e_if_lt, e_if_ge, e_if_gt, e_if_le, e_getI, e_getR, e_putI, e_putZ, e_putR, e_iald, e_bald, e_zald, e_lald, e_aald, e_alen, e_iast, e_bast, e_zast, e_last, e_aast, e_iret, e_zret, e_lret, e_vret, e_obj, e_callV, e_callS, e_callT, e_acpy, e_ldcS, e_dn, e_ag, z_pop, List.getElem?_cons_zero, List.getElem?_cons_succ, List.set_cons_zero, List.set_cons_succ, List.length_cons, List.length_nil, z_nol, Option.map_some, Option.toList_some, Option.toList_none, List.cons_append, List.nil_append, n_lit, n_m1, n_m2, n_m1lt, n_m1le, n_rem, n_div, n_out, n_cl, n_eq, n_le, n_lt, n_add, n_mul, n_sub, n_nle, n_yle, n_nlt, n_ylt, n_neN, z_lay, z_sz, z_str, z_stI, z_stL, z_stR, eq_self, ↓reduceIte, true_and, and_true, and_self, false_and, and_false, or_self, false_or, or_false, true_or, or_true, not_true_eq_false, not_false_eq_true, Nat.reduceLeDiff, Nat.reduceLT, Nat.reduceAdd, Nat.reduceEqDiff, Nat.reduceMul, Nat.reduceSub, Value.category, Nat.zero_le, beq_self_eq_true]
theorem famOK.gen {F : Nat → (Nat → Int32) → Int32 → Int32} {ch : Nat → Nat → Nat} {nc rows : Nat} {sd : Int32} (hch : ∀ a b, a < nc → b < nc → ch a b < nc) {f : fam4} (hO : famOK rows nc f.1 f.2.1) : ∀ m, famOK rows nc (genK F ch nc rows sd m f).1 (genK F ch nc rows sd m f).2.1
  | 0 => hO
  | m + 1 => (famOK.gen hch hO m).mix hch rows
theorem r_gens {I : Nat → Nat → Int32} {L : Nat → Nat → Int64} {Z : zZ} {B tx lv nc m : Nat} {sd : Int32} {ch : Nat → Nat → Nat} {rows : Nat} {len : Nat → Nat} {col : Nat → Nat → Nat} {tm pd : Int32} {F : Nat → (Nat → Int32) → Int32 → Int32} (htx : tx = 3 ∨ tx = 18) (h : isMod Z (B + 200)) (hT : refTab I (B + 200) lv nc ch) (hF : lawW I L B tx lv F) (hs : I (B + 200) 48 = sd) (hw : I (B + 200 + 13) lv = nI rows) (hR : famR (I (B + 200 + 30)) rows len col tm pd) (hO : famOK rows nc len col) (hch : ∀ a b, a < nc → b < nc → ch a b < nc) (hm : m < 100) :
    ∃ J, fX12_goes [.ref (B + 200), .int (nI m)] (I, L, Z) = some (none, (J, L, Z)) ∧ famR (J (B + 200 + 30)) rows (genK F ch nc rows sd m (len, col, tm, pd)).1 (genK F ch nc rows sd m (len, col, tm, pd)).2.1 (genK F ch nc rows sd m (len, col, tm, pd)).2.2.1 (genK F ch nc rows sd m (len, col, tm, pd)).2.2.2 ∧ rGrow I J B := by
  have e0 : fX12_goes [.ref (B + 200), .int (nI m)] (I, L, Z) = kX12_goes_0 [some (.ref ((B + 200))), some (.int (nI (m))), none] [] (I, L, Z) := rfl
  rw [e0]
  simp (disch := omega) only [kX12_goes_0, kX12_goes_2, e_push, e_pushl, e_iload, e_lload, e_aload, e_istore, e_astore, e_lstore, e_iinc, e_iadd, e_isub, e_imul, e_iand, e_ior, e_ixor, e_ishl, e_ishr, e_iushr, e_idiv, e_irem, e_ladd, e_lsub, e_lmul, e_lcmp, e_mmax, e_mmin, e_i2l, e_l2i, e_i2b, e_i2c, e_dup, e_dup2, e_pop, e_icmp_eq, e_icmp_ne, e_icmp_lt, e_icmp_ge, e_icmp_gt, e_icmp_le, e_if_eq, e_if_ne, e_if_lt, e_if_ge, e_if_gt, e_if_le, e_getI, e_getR, e_putI, e_putZ, e_putR, e_iald, e_bald, e_zald, e_lald, e_aald, e_alen, e_iast, e_bast, e_zast, e_last, e_aast, e_iret, e_zret, e_lret, e_vret, e_obj, e_callV, e_callS, e_callT, e_acpy, e_ldcS, e_dn, e_ag, z_pop, List.getElem?_cons_zero, List.getElem?_cons_succ, List.set_cons_zero, List.set_cons_succ, List.length_cons, List.length_nil, z_nol, Option.map_some, Option.toList_some, Option.toList_none, List.cons_append, List.nil_append, n_lit, n_m1, n_m2, n_m1lt, n_m1le, n_rem, n_div, n_out, n_cl, n_eq, n_le, n_lt, n_add, n_mul, n_sub, n_nle, n_yle, n_nlt, n_ylt, n_neN, z_lay, z_sz, z_str, z_stI, z_stL, z_stR, eq_self, ↓reduceIte, true_and, and_true, and_self, false_and, and_false, or_self, false_or, or_false, true_or, or_true, not_true_eq_false, not_false_eq_true, Nat.reduceLeDiff, Nat.reduceLT, Nat.reduceAdd, Nat.reduceEqDiff, Nat.reduceMul, Nat.reduceSub, Value.category, Nat.zero_le, beq_self_eq_true]
  refine lp_ex (fun k ls σ => ∃ J : Nat → Nat → Int32, ls = [some (.ref ((B + 200))), some (.int (nI (m))), some (.int (nI (k)))] ∧ σ = (J, L, Z) ∧ famR (J (B + 200 + 30)) rows (genK F ch nc rows sd k (len, col, tm, pd)).1 (genK F ch nc rows sd k (len, col, tm, pd)).2.1 (genK F ch nc rows sd k (len, col, tm, pd)).2.2.1 (genK F ch nc rows sd k (len, col, tm, pd)).2.2.2 ∧ rGrow I J B) m ?_ ?_ ?_
  · exact ⟨I, rfl, rfl, hR, rGrow.refl I B⟩
  · rintro ls σ ⟨J, rfl, rfl, q1, q2⟩
    refine ⟨J, ?_, q1, q2⟩
    simp (disch := omega) only [bX12_goes_2, kX12_goes_17, e_push, e_pushl, e_iload, e_lload, e_aload, e_istore, e_astore, e_lstore, e_iinc, e_iadd, e_isub, e_imul, e_iand, e_ior, e_ixor, e_ishl, e_ishr, e_iushr, e_idiv, e_irem, e_ladd, e_lsub, e_lmul, e_lcmp, e_mmax, e_mmin, e_i2l, e_l2i, e_i2b, e_i2c, e_dup, e_dup2, e_pop, e_icmp_eq, e_icmp_ne, e_icmp_lt, e_icmp_ge, e_icmp_gt, e_icmp_le, e_if_eq, e_if_ne, e_if_lt, e_if_ge, e_if_gt, e_if_le, e_getI, e_getR, e_putI, e_putZ, e_putR, e_iald, e_bald, e_zald, e_lald, e_aald, e_alen, e_iast, e_bast, e_zast, e_last, e_aast, e_iret, e_zret, e_lret, e_vret, e_obj, e_callV, e_callS, e_callT, e_acpy, e_ldcS, e_dn, e_ag, z_pop, List.getElem?_cons_zero, List.getElem?_cons_succ, List.set_cons_zero, List.set_cons_succ, List.length_cons, List.length_nil, z_nol, Option.map_some, Option.toList_some, Option.toList_none, List.cons_append, List.nil_append, n_lit, n_m1, n_m2, n_m1lt, n_m1le, n_rem, n_div, n_out, n_cl, n_eq, n_le, n_lt, n_add, n_mul, n_sub, n_nle, n_yle, n_nlt, n_ylt, n_neN, z_lay, z_sz, z_str, z_stI, z_stL, z_stR, eq_self, ↓reduceIte, true_and, and_true, and_self, false_and, and_false, or_self, false_or, or_false, true_or, or_true, not_true_eq_false, not_false_eq_true, Nat.reduceLeDiff, Nat.reduceLT, Nat.reduceAdd, Nat.reduceEqDiff, Nat.reduceMul, Nat.reduceSub, Value.category, Nat.zero_le, beq_self_eq_true]
  · rintro k hk ls σ ⟨J, rfl, rfl, q1, q2⟩
    obtain ⟨J2, a1, a2, a3⟩ := r_gen1 (I := J) (L := L) (sd := sd) htx h (q2.tab hT) (hF.sameR htx q2.same) (by rw [q2.2 48 (by omega) (by omega)]; exact hs) (by rw [q2.same.2.1 13 (by unfold essA; omega)]; exact hw) q1 (famOK.gen (f := (len, col, tm, pd)) hch hO k) hch
    refine ⟨_, _, ?_, J2, rfl, rfl, a2, q2.trans a3⟩
    simp (disch := omega) only [bX12_goes_2, h.1, a1, e_push, e_pushl, e_iload, e_lload, e_aload, e_istore, e_astore, e_lstore, e_iinc, e_iadd, e_isub, e_imul, e_iand, e_ior, e_ixor, e_ishl, e_ishr, e_iushr, e_idiv, e_irem, e_ladd, e_lsub, e_lmul, e_lcmp, e_mmax, e_mmin, e_i2l, e_l2i, e_i2b, e_i2c, e_dup, e_dup2, e_pop, e_icmp_eq, e_icmp_ne, e_icmp_lt, e_icmp_ge, e_icmp_gt, e_icmp_le, e_if_eq, e_if_ne, e_if_lt, e_if_ge, e_if_gt, e_if_le, e_getI, e_getR, e_putI, e_putZ, e_putR, e_iald, e_bald, e_zald, e_lald, e_aald, e_alen, e_iast, e_bast, e_zast, e_last, e_aast, e_iret, e_zret, e_lret, e_vret, e_obj, e_callV, e_callS, e_callT, e_acpy, e_ldcS, e_dn, e_ag, z_pop, List.getElem?_cons_zero, List.getElem?_cons_succ, List.set_cons_zero, List.set_cons_succ, List.length_cons, List.length_nil, z_nol, Option.map_some, Option.toList_some, Option.toList_none, List.cons_append, List.nil_append, n_lit, n_m1, n_m2, n_m1lt, n_m1le, n_rem, n_div, n_out, n_cl, n_eq, n_le, n_lt, n_add, n_mul, n_sub, n_nle, n_yle, n_nlt, n_ylt, n_neN, z_lay, z_sz, z_str, z_stI, z_stL, z_stR, eq_self, ↓reduceIte, true_and, and_true, and_self, false_and, and_false, or_self, false_or, or_false, true_or, or_true, not_true_eq_false, not_false_eq_true, Nat.reduceLeDiff, Nat.reduceLT, Nat.reduceAdd, Nat.reduceEqDiff, Nat.reduceMul, Nat.reduceSub, Value.category, Nat.zero_le, beq_self_eq_true]
