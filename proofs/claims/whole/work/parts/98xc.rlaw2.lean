/-! read: the reference's laws -/
theorem thn_lt {K W S : Nat → Nat} {sz : Nat} {q : Nat × Nat} {g : Nat → Nat × Nat} (hS : tkS K W S sz) (hq : q.2 < sz) (hg : ∀ j, j ≤ 400 → spn inn0 K j (g j)) : (thn q g).2 < sz := by
  have sz4 := hS.2.1
  by_cases e : q.1 = 0
  · rw [thn_yes e]
    exact (hg q.2 (by omega)).lt hS.2.2.2.1 hq
  · rw [thn_no e]
    exact hq
theorem sp_must {K : Nat → Nat} {k : Nat} (hk : inn0 k) : ∀ j, j ≤ 400 → spn inn0 K j (must2 K k j) := spn_must hk
theorem sp_e {K : Nat → Nat} : ∀ j, j ≤ 400 → spn inn0 K j (xe2 K j) := fun j hj => (spn_e j hj).weak fun _ hk => ⟨hk.1, hk.2.1⟩
theorem inn0_of {k : Nat} (h1 : k ≠ 22) (h2 : k ≠ 23) : inn0 k := ⟨h1, h2⟩
theorem r_110 {I : Nat → Nat → Int32} {L : Nat → Nat → Int64} {Z : zZ} {M sz lim u v c b : Nat} {K W S : Nat → Nat} {q : Nat × Nat} {y1 y2 y3 : Option Value} (h : isMod Z M) (hS : tkS K W S sz) (hl : lim + 420 ≤ u) (hu : u ≤ 840) (hv : v ≤ 260) (hT : tokR I M K W S sz) (hq : lq I M S q c b) (hi : q.2 < sz) (hc : q.1 = 0 → c ≤ lim + q.2) (hb : b < v) : ∃ J, kX12_tellLaw_110 [some (.ref M), y1, y2, y3] [] (I, L, Z) = some (.inl ([some (.ref M), y1, y2, y3], (J, L, Z))) ∧ lq J M S (thn (thn (thn q (must2 K 9)) (xe2 K)) (must2 K 10)) (c + (sE K W (q.2 + 1)).2.2.length) (b + 1) ∧ ((thn (thn (thn q (must2 K 9)) (xe2 K)) (must2 K 10)).1 = 0 → J (M + 22) b = nI c ∧ J (M + 23) b = nI (c + (sE K W (q.2 + 1)).2.2.length) ∧ segR J M c (sE K W (q.2 + 1)).2.2) ∧ frm (pLw M u c v b) I J ∧ (∀ a, a = M + 19 ∨ a = M + 20 ∨ a = M + 21 → J a = I a) := by
  obtain ⟨J1, a1, a2, a3⟩ := r_must (L := L) h hS hT hq.pq hi (show 9 < 64 by decide) (show rk 9 = 29 from rfl) (by decide)
  have l1 := hq.step a2 a3 thn_0of
  have t1 := hT.kept a3 pP_t
  have p1 := thn_lt hS hi (sp_must (K := K) (inn0_of (k := 9) (by decide) (by decide)))
  have hc1 : (thn q (must2 K 9)).1 = 0 → (thn q (must2 K 9)).2 = q.2 + 1 := fun z => by
    obtain ⟨b1, b2, b3⟩ := thn_ok z
    rw [b3]
    exact (must_ok b2).2.1
  obtain ⟨J2, b1, b2, b3, b4, b5⟩ := r_term (L := L) h hS hl hu hv t1 l1 p1 (fun z => by rw [hc1 z]; have := hc (thn_0of z); omega) hb
  have t2 := t1.kept b4 pL_t
  have p2 := thn_lt hS p1 (sp_e (K := K))
  obtain ⟨J3, c1, c2, c3⟩ := r_must (L := L) h hS t2 b2.pq p2 (show 10 < 64 by decide) (show rk 10 = 30 from rfl) (by decide)
  have l3 := b2.step c2 c3 thn_0of
  have fr : frm (pLw M u c v b) I J3 := ((a3.weak fun a k => pP_L).trans b4).trans (c3.weak fun a k => pP_L)
  refine ⟨J3, ?_, ⟨l3.1, fun z => ?_, l3.2.2⟩, fun z => ?_, fr, fun a ha => ?_⟩
  · simp (disch := omega) only [kX12_tellLaw_110, h.1, a1, b1, c1, e_push, e_pushl, e_iload, e_lload, e_aload, e_istore, e_astore, e_lstore, e_iinc, e_iadd, e_isub, e_imul, e_iand, e_ior, e_ixor, e_ishl, e_ishr, e_iushr, e_idiv, e_irem, e_ladd, e_lsub, e_lmul, e_lcmp, e_mmax, e_mmin, e_i2l, e_l2i, e_i2b, e_i2c, e_dup, e_dup2, e_pop, e_icmp_eq, e_icmp_ne, e_icmp_lt, e_icmp_ge, e_icmp_gt, e_icmp_le, e_if_eq, e_if_ne, e_if_lt, e_if_ge, e_if_gt, e_if_le, e_getI, e_getR, e_putI, e_putZ, e_putR, e_iald, e_bald, e_zald, e_lald, e_aald, e_alen, e_iast, e_bast, e_zast, e_last, e_aast, e_iret, e_zret, e_lret, e_vret, e_obj, e_callV, e_callS, e_callT, e_acpy, e_ldcS, e_dn, e_ag, z_pop, List.getElem?_cons_zero, List.getElem?_cons_succ, List.set_cons_zero, List.set_cons_succ, List.length_cons, List.length_nil, z_nol, Option.map_some, Option.toList_some, Option.toList_none, List.cons_append, List.nil_append, n_lit, n_m1, n_m2, n_m1lt, n_m1le, n_rem, n_div, n_out, n_cl, n_eq, n_le, n_lt, n_add, n_mul, n_sub, n_nle, n_yle, n_nlt, n_ylt, n_neN, z_lay, z_sz, z_str, z_stI, z_stL, z_stR, eq_self, ↓reduceIte, true_and, and_true, and_self, false_and, and_false, or_self, false_or, or_false, true_or, or_true, not_true_eq_false, not_false_eq_true, Nat.reduceLeDiff, Nat.reduceLT, Nat.reduceAdd, Nat.reduceEqDiff, Nat.reduceMul, Nat.reduceSub, Value.category, Nat.zero_le, beq_self_eq_true]
  · have z1 := thn_0of (thn_0of z)
    have e := hc1 z1
    have k := l3.2.1 z
    rw [e] at k
    exact k
  · have z1 := thn_0of z
    have e := hc1 (thn_0of z1)
    obtain ⟨k1, k2, k3⟩ := b3 z1
    rw [e] at k2 k3
    refine ⟨?_, ?_, seg_frm k3 c3 (fun k _ => by unfold pP; omega)⟩
    · rw [c3 _ _ (by unfold pP; omega)]; exact k1
    · rw [c3 _ _ (by unfold pP; omega)]; exact k2
  · funext k
    rw [c3 _ _ (by unfold pP; omega), b5 a ha, a3 _ _ (by unfold pP; omega)]
/-- a branch, its code between lo and hi -/
def brW (J : Nat → Nat → Int32) (M b : Nat) (q : sB) (lo hi : Nat) : Prop := ∃ p, lo ≤ p ∧ p + q.2.length ≤ hi ∧ J (M + 22) b = nI p ∧ J (M + 23) b = nI (p + q.2.length) ∧ segR J M p q.2 ∧
  match q.1 with
  | none => J (M + 19) b = nI 0
  | some t => J (M + 19) b = nI 1 ∧ ∃ p1 p2, lo ≤ p1 ∧ J (M + 20) b = nI p1 ∧ J (M + 21) b = nI p2 ∧ p2 = p1 + t.1.length ∧ p = p2 + t.2.length ∧ segR J M p1 t.1 ∧ segR J M p2 t.2
def brL (q : sB) : Nat := (match q.1 with
  | none => 0
  | some t => t.1.length + t.2.length) + q.2.length
theorem brW.kept {P : Nat → Nat → Prop} {I J : Nat → Nat → Int32} {M b lo hi : Nat} {q : sB} (h : brW I M b q lo hi) (hf : frm P I J) (h1 : ∀ k, k < hi → ¬ P (M + 24) k ∧ ¬ P (M + 25) k) (h2 : ∀ a, M + 19 ≤ a → a ≤ M + 23 → ¬ P a b) : brW J M b q lo hi := by
  obtain ⟨p, a1, a2, a3, a4, a5, a6⟩ := h
  refine ⟨p, a1, a2, by rw [hf _ _ (h2 _ (by omega) (by omega))]; exact a3, by rw [hf _ _ (h2 _ (by omega) (by omega))]; exact a4, seg_frm a5 hf (fun k hk => h1 k (by omega)), ?_⟩
  obtain ⟨t, w⟩ := q
  cases t with
  | none =>
    show J (M + 19) b = nI 0
    rw [hf _ _ (h2 _ (by omega) (by omega))]
    exact a6
  | some t =>
    obtain ⟨b1, p1, p2, b2, b3, b4, b5, b6, b7, b8⟩ := a6
    show J (M + 19) b = nI 1 ∧ ∃ p1 p2, lo ≤ p1 ∧ J (M + 20) b = nI p1 ∧ J (M + 21) b = nI p2 ∧ p2 = p1 + t.1.length ∧ p = p2 + t.2.length ∧ segR J M p1 t.1 ∧ segR J M p2 t.2
    have a2 : p + w.length ≤ hi := a2
    exact ⟨by rw [hf _ _ (h2 _ (by omega) (by omega))]; exact b1, p1, p2, b2, by rw [hf _ _ (h2 _ (by omega) (by omega))]; exact b3, by rw [hf _ _ (h2 _ (by omega) (by omega))]; exact b4, b5, b6, seg_frm b7 hf (fun k hk => h1 k (by omega)), seg_frm b8 hf (fun k hk => h1 k (by omega))⟩
theorem brW.weak {J : Nat → Nat → Int32} {M b lo hi lo' hi' : Nat} {q : sB} (h : brW J M b q lo hi) (h1 : lo' ≤ lo) (h2 : hi ≤ hi') : brW J M b q lo' hi' := by
  obtain ⟨p, a1, a2, a3, a4, a5, a6⟩ := h
  refine ⟨p, by omega, by omega, a3, a4, a5, ?_⟩
  obtain ⟨t, w⟩ := q
  cases t with
  | none => exact a6
  | some t =>
    obtain ⟨b1, p1, p2, b2, b3⟩ := a6
    exact ⟨b1, p1, p2, by omega, b3⟩
theorem r_exprF {I : Nat → Nat → Int32} {L : Nat → Nat → Int64} {Z : zZ} {M f j : Nat} {S : Nat → Nat} (h : isMod Z M) (hF : flQ I M S f j) (h12 : I M 12 = nI 0) : fX12_expression [.ref M] (I, L, Z) = some (none, (z_up I M 42 (nI 0), L, Z)) := by
  have fl : flQ (z_up I M 42 (nI 0)) M S f j := hF.kept (P := fun a k => a = M ∧ k = 42) ((frm.refl _ _).up ⟨rfl, rfl⟩) (by omega) (by omega) (by omega)
  have w12 : z_up I M 42 (nI 0) M 12 = nI 0 := by rw [zup_ne (by omega)]; exact h12
  rw [← x12_fl (L := L) h fl]
  generalize hX : q_lp bX12_expression_12 = X
  have eX : kX12_expression_12 = X := hX
  show kX12_expression_0 [some (Value.ref (M)), none, none] [] (I, L, Z) = _
  simp (disch := omega) only [kX12_expression_0, eX, h.1, w12, e_push, e_pushl, e_iload, e_lload, e_aload, e_istore, e_astore, e_lstore, e_iinc, e_iadd, e_isub, e_imul, e_iand, e_ior, e_ixor, e_ishl, e_ishr, e_iushr, e_idiv, e_irem, e_ladd, e_lsub, e_lmul, e_lcmp, e_mmax, e_mmin, e_i2l, e_l2i, e_i2b, e_i2c, e_dup, e_dup2, e_pop, e_icmp_eq, e_icmp_ne, e_icmp_lt, e_icmp_ge, e_icmp_gt, e_icmp_le, e_if_eq, e_if_ne, e_if_lt, e_if_ge, e_if_gt, e_if_le, e_getI, e_getR, e_putI, e_putZ, e_putR, e_iald, e_bald, e_zald, e_lald, e_aald, e_alen, e_iast, e_bast, e_zast, e_last, e_aast, e_iret, e_zret, e_lret, e_vret, e_obj, e_callV, e_callS, e_callT, e_acpy, e_ldcS, e_dn, e_ag, z_pop, List.getElem?_cons_zero, List.getElem?_cons_succ, List.set_cons_zero, List.set_cons_succ, List.length_cons, List.length_nil, z_nol, Option.map_some, Option.toList_some, Option.toList_none, List.cons_append, List.nil_append, n_lit, n_m1, n_m2, n_m1lt, n_m1le, n_rem, n_div, n_out, n_cl, n_eq, n_le, n_lt, n_add, n_mul, n_sub, n_nle, n_yle, n_nlt, n_ylt, n_neN, z_lay, z_sz, z_str, z_stI, z_stL, z_stR, eq_self, ↓reduceIte, true_and, and_true, and_self, false_and, and_false, or_self, false_or, or_false, true_or, or_true, not_true_eq_false, not_false_eq_true, Nat.reduceLeDiff, Nat.reduceLT, Nat.reduceAdd, Nat.reduceEqDiff, Nat.reduceMul, Nat.reduceSub, Value.category, Nat.zero_le, beq_self_eq_true]
theorem r_mustF {I : Nat → Nat → Int32} {L : Nat → Nat → Int64} {Z : zZ} {M f j : Nat} {S : Nat → Nat} {x : Int32} (h : isMod Z M) (hF : flQ I M S f j) : fX12_must [.ref M, .int x] (I, L, Z) = some (none, (I, L, Z)) := by
  have is := r_isF (L := L) (x := x) h hF
  have f := r_failF (L := L) (x := nI 1) h hF
  show kX12_must_0 [some (Value.ref (M)), some (Value.int (x))] [] (I, L, Z) = _
  simp (disch := omega) only [kX12_must_20, kX12_must_0, h.1, is, f, e_push, e_pushl, e_iload, e_lload, e_aload, e_istore, e_astore, e_lstore, e_iinc, e_iadd, e_isub, e_imul, e_iand, e_ior, e_ixor, e_ishl, e_ishr, e_iushr, e_idiv, e_irem, e_ladd, e_lsub, e_lmul, e_lcmp, e_mmax, e_mmin, e_i2l, e_l2i, e_i2b, e_i2c, e_dup, e_dup2, e_pop, e_icmp_eq, e_icmp_ne, e_icmp_lt, e_icmp_ge, e_icmp_gt, e_icmp_le, e_if_eq, e_if_ne, e_if_lt, e_if_ge, e_if_gt, e_if_le, e_getI, e_getR, e_putI, e_putZ, e_putR, e_iald, e_bald, e_zald, e_lald, e_aald, e_alen, e_iast, e_bast, e_zast, e_last, e_aast, e_iret, e_zret, e_lret, e_vret, e_obj, e_callV, e_callS, e_callT, e_acpy, e_ldcS, e_dn, e_ag, z_pop, List.getElem?_cons_zero, List.getElem?_cons_succ, List.set_cons_zero, List.set_cons_succ, List.length_cons, List.length_nil, z_nol, Option.map_some, Option.toList_some, Option.toList_none, List.cons_append, List.nil_append, n_lit, n_m1, n_m2, n_m1lt, n_m1le, n_rem, n_div, n_out, n_cl, n_eq, n_le, n_lt, n_add, n_mul, n_sub, n_nle, n_yle, n_nlt, n_ylt, n_neN, z_lay, z_sz, z_str, z_stI, z_stL, z_stR, eq_self, ↓reduceIte, true_and, and_true, and_self, false_and, and_false, or_self, false_or, or_false, true_or, or_true, not_true_eq_false, not_false_eq_true, Nat.reduceLeDiff, Nat.reduceLT, Nat.reduceAdd, Nat.reduceEqDiff, Nat.reduceMul, Nat.reduceSub, Value.category, Nat.zero_le, beq_self_eq_true]
/-- what a test leaves -/
def ifP2 (I J : Nat → Nat → Int32) (M : Nat) (S : Nat → Nat) (lim u v c b : Nat) (r : Nat × Nat × sB) : Prop := lq J M S (pr r) (c + brL r.2.2) (b + 1) ∧ (r.1 = 0 → brW J M b r.2.2 c (c + brL r.2.2) ∧ c + brL r.2.2 ≤ lim + r.2.1) ∧ frm (pLw M u c v b) I J
theorem r_ifF {I : Nat → Nat → Int32} {L : Nat → Nat → Int64} {Z : zZ} {M sz lim u v c b f j : Nat} {K W S : Nat → Nat} {y1 y2 y3 : Option Value} {I0 : Nat → Nat → Int32} (h : isMod Z M) (hS : tkS K W S sz) (hl : lim + 420 ≤ u) (hu : u ≤ 840) (hv : v ≤ 260) (hT : tokR I M K W S sz) (h32 : I M 32 = nI b) (hF : flQ I M S f j) (hj : j < sz) (hb : b < v) (fr : frm (pLw M u c v b) I0 I) : ∃ J, kX12_tellLaw_110 [some (.ref M), y1, y2, y3] [] (I, L, Z) = some (.inl ([some (.ref M), y1, y2, y3], (J, L, Z))) ∧ ifP2 I0 J M S lim u v c b (f, j, (none, [])) := by
  have f0 : (f, j).1 ≠ 0 := hF.2.1
  obtain ⟨J, a1, a2, a3, a4, a5⟩ := r_110 (L := L) (y1 := y1) (y2 := y2) (y3 := y3) (c := c) (q := (f, j)) h hS hl hu hv hT ⟨h32, fun z => absurd z f0, fun _ => hF⟩ hj (fun z => absurd z f0) hb
  rw [thn_no f0, thn_no f0, thn_no f0] at a2
  exact ⟨J, a1, ⟨a2.1, fun z => absurd z f0, a2.2.2⟩, fun z => absurd z f0, fr.trans a4⟩
