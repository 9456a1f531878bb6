/-! what an asking call leaves as it was -/
def essK (tx k : Nat) : Prop := k ≤ 2 ∨ (tx ≤ k ∧ k ≤ tx + 4) ∨ k = tx + 6 ∨ (tx + 10 ≤ k ∧ k ≤ tx + 14) ∨ (33 ≤ k ∧ k ≤ 35) ∨ (45 ≤ k ∧ k ≤ 178) ∨ (182 ≤ k ∧ k ≤ 185) ∨ (192 ≤ k ∧ k ≤ 195) ∨ 200 ≤ k
def talZ (I : Nat → Nat → Int32) (B : Nat) : Prop := ∀ x, x < 4 → I (B + 44) x = nI 0 ∧ I (B + 181) x = nI 0 ∧ I (B + 189) x = nI 0 ∧ I (B + 198) x = nI 0
def sameC (I J : Nat → Nat → Int32) (B tx : Nat) : Prop := (∀ k, essK tx k → J (B + k) = I (B + k)) ∧ J (B + (tx + 5)) 0 = I (B + (tx + 5)) 0 ∧ J (B + 191) 0 = I (B + 191) 0 ∧ (talZ I B → talZ J B)
def essF (j : Nat) : Prop := j = 2 ∨ j = 17 ∨ j = 18 ∨ j = 52 ∨ j = 66
def essA (k : Nat) : Prop := k = 1 ∨ k = 7 ∨ k = 9 ∨ k = 11 ∨ k = 13 ∨ (16 ≤ k ∧ k ≤ 25) ∨ k = 29 ∨ k = 33 ∨ (43 ≤ k ∧ k ≤ 46) ∨ k = 48 ∨ k = 49
def sameR (I J : Nat → Nat → Int32) (B : Nat) : Prop := (∀ k, k < 200 → J (B + k) = I (B + k)) ∧ (∀ k, essA k → J (B + 200 + k) = I (B + 200 + k)) ∧ ∀ j, essF j → J (B + 200) j = I (B + 200) j
theorem sameC.refl (I : Nat → Nat → Int32) (B tx : Nat) : sameC I I B tx := ⟨fun _ _ => rfl, rfl, rfl, id⟩
theorem sameR.refl (I : Nat → Nat → Int32) (B : Nat) : sameR I I B := ⟨fun _ _ => rfl, fun _ _ => rfl, fun _ _ => rfl⟩
theorem sameC.trans {I J K : Nat → Nat → Int32} {B tx : Nat} (h1 : sameC I J B tx) (h2 : sameC J K B tx) : sameC I K B tx := ⟨fun k hk => (h2.1 k hk).trans (h1.1 k hk), h2.2.1.trans h1.2.1, h2.2.2.1.trans h1.2.2.1, fun h => h2.2.2.2 (h1.2.2.2 h)⟩
theorem sameR.trans {I J K : Nat → Nat → Int32} {B : Nat} (h1 : sameR I J B) (h2 : sameR J K B) : sameR I K B := ⟨fun k hk => (h2.1 k hk).trans (h1.1 k hk), fun k hk => (h2.2.1 k hk).trans (h1.2.1 k hk), fun j hj => (h2.2.2 j hj).trans (h1.2.2 j hj)⟩
/-- only the class's own triangle has changed -/
theorem sameC.tri {I J : Nat → Nat → Int32} {B tx : Nat} (htx : tx = 3 ∨ tx = 18) {n : Nat} {ch : Nat → Nat → Nat} {c : Nat → Nat} (hA : taI J (B + 44) n ch c) (h : ∀ q, q ≠ B + 42 → q ≠ B + 43 → q ≠ B + 44 → J q = I q) : sameC I J B tx := by
  refine ⟨fun k hk => h _ ?_ ?_ ?_, ?_, ?_, fun hz x hx => ⟨?_, ?_, ?_, ?_⟩⟩
  · unfold essK at hk; omega
  · unfold essK at hk; omega
  · unfold essK at hk; omega
  · rw [h _ (by omega) (by omega) (by omega)]
  · rw [h _ (by omega) (by omega) (by omega)]
  · have := hA 0 x (Nat.zero_le _) hx
    rwa [Nat.zero_mul, Nat.zero_add] at this
  · rw [h _ (by omega) (by omega) (by omega)]; exact (hz x hx).2.1
  · rw [h _ (by omega) (by omega) (by omega)]; exact (hz x hx).2.2.1
  · rw [h _ (by omega) (by omega) (by omega)]; exact (hz x hx).2.2.2
theorem famI.kept {I J : Nat → Nat → Int32} {la ca r n : Nat} {c : Nat → Nat} (h : famI I la ca r n c) (h1 : J la = I la) (h2 : J ca = I ca) : famI J la ca r n c := by
  unfold famI at h ⊢
  rw [h1, h2]
  exact h
theorem famC.kept {I J : Nat → Nat → Int32} {a la ca rows nc : Nat} {len : Nat → Nat} {col : Nat → Nat → Nat} {tm pd : Int32} (h : famC I a la ca rows nc len col tm pd) (h0 : J a = I a) (h1 : J la = I la) (h2 : J ca = I ca) : famC J a la ca rows nc len col tm pd := by
  unfold famC famI at h ⊢
  rw [h0, h1, h2]
  exact h
theorem cV.kept {I J : Nat → Nat → Int32} {B tx nc : Nat} {ch : Nat → Nat → Nat} {rows : Nat} {len : Nat → Nat} {col : Nat → Nat → Nat} {tm pd : Int32} (h : cV I B tx nc ch rows len col tm pd) (hs : sameC I J B tx) : cV J B tx nc ch rows len col tm pd := by
  obtain ⟨h1, h2, h3, h4, h5, h6⟩ := h
  refine ⟨by rw [hs.2.1]; exact h1, h2, h3, ?_, h5, h6.kept (hs.1 33 (by unfold essK; omega)) (hs.1 34 (by unfold essK; omega)) (hs.1 35 (by unfold essK; omega))⟩
  unfold tabI
  rw [hs.1 (tx + 6) (by unfold essK; omega)]
  exact h4
theorem rV.keptC {I J : Nat → Nat → Int32} {B tx lv nc : Nat} {ch : Nat → Nat → Nat} {rows : Nat} {len : Nat → Nat} {col : Nat → Nat → Nat} {tm pd : Int32} (h : rV I (B + 200) lv nc ch rows len col tm pd) (hs : sameC I J B tx) : rV J (B + 200) lv nc ch rows len col tm pd := by
  have e : ∀ k, J (B + 200 + k) = I (B + 200 + k) := fun k => by rw [Nat.add_assoc]; exact hs.1 (200 + k) (by unfold essK; omega)
  have e0 : J (B + 200) = I (B + 200) := hs.1 200 (by unfold essK; omega)
  refine ⟨h.1.kept (by rw [e0]) (e 9) (e 11), by rw [e 13]; exact h.2.1, by rw [e 29]; exact h.2.2⟩
theorem cV.keptR {I J : Nat → Nat → Int32} {B tx nc : Nat} {ch : Nat → Nat → Nat} {rows : Nat} {len : Nat → Nat} {col : Nat → Nat → Nat} {tm pd : Int32} (htx : tx = 3 ∨ tx = 18) (h : cV I B tx nc ch rows len col tm pd) (hs : sameR I J B) : cV J B tx nc ch rows len col tm pd := by
  obtain ⟨h1, h2, h3, h4, h5, h6⟩ := h
  refine ⟨by rw [hs.1 (tx + 5) (by omega)]; exact h1, h2, h3, ?_, h5, h6.kept (hs.1 33 (by omega)) (hs.1 34 (by omega)) (hs.1 35 (by omega))⟩
  unfold tabI
  rw [hs.1 (tx + 6) (by omega)]
  exact h4
theorem rV.kept {I J : Nat → Nat → Int32} {B lv nc : Nat} {ch : Nat → Nat → Nat} {rows : Nat} {len : Nat → Nat} {col : Nat → Nat → Nat} {tm pd : Int32} (h : rV I (B + 200) lv nc ch rows len col tm pd) (hs : sameR I J B) : rV J (B + 200) lv nc ch rows len col tm pd :=
  ⟨h.1.kept (hs.2.2 18 (by unfold essF; omega)) (hs.2.1 9 (by unfold essA; omega)) (hs.2.1 11 (by unfold essA; omega)), by rw [hs.2.1 13 (by unfold essA; omega)]; exact h.2.1, by rw [hs.2.1 29 (by unfold essA; omega)]; exact h.2.2⟩
/-- the class's triangle of a row -/
theorem c_fill {I : Nat → Nat → Int32} {L : Nat → Nat → Int64} {Z : zZ} {B tx nc : Nat} {ch : Nat → Nat → Nat} {rows : Nat} {len : Nat → Nat} {col : Nat → Nat → Nat} {tm pd : Int32} {r : Nat} (h : isCls Z B tx) (hV : cV I B tx nc ch rows len col tm pd) (hz : talZ I B) (hr : r < rows) :
    ∃ I', fX10_fill [.ref (B + 42), .ref (B + (tx + 5)), .ref (B + 33), .int (nI r)] (I, L, Z) = some (none, (I', L, Z)) ∧ trI I' (B + 42) (B + 43) (len r) ch (col r) ∧ taI I' (B + 44) (len r) ch (col r) ∧ sameC I I' B tx := by
  obtain ⟨h1, h2, h3, h4, h5, h6⟩ := hV
  obtain ⟨g1, g2, g3, g4, g5⟩ := h6
  obtain ⟨f1, f2, f3⟩ := g5 r hr
  have htx := h.1
  obtain ⟨I', a1, a2, a3, a4⟩ := p_fill (I := I) (L := L) (cg_42 h) (ct_tx h) (cf_33 h) (by omega) (by omega) h4 (by omega) f1 (fun i hi => Nat.lt_of_lt_of_le (f3 i hi) h3) (fun x hx => (hz x hx).1)
  exact ⟨I', a1, a2, a3, sameC.tri htx a3 a4⟩
/-- rows as they may be -/
def famOK (rows nc : Nat) (len : Nat → Nat) (col : Nat → Nat → Nat) : Prop := rows ≤ 4 ∧ nc ≤ 4 ∧ ∀ r, r < rows → 1 ≤ len r ∧ len r ≤ 8 ∧ ∀ i, i < len r → col r i < nc
theorem cV.ok {I : Nat → Nat → Int32} {B tx nc : Nat} {ch : Nat → Nat → Nat} {rows : Nat} {len : Nat → Nat} {col : Nat → Nat → Nat} {tm pd : Int32} (h : cV I B tx nc ch rows len col tm pd) : famOK rows nc len col := ⟨h.2.2.2.2.2.2.2.2.1, h.2.2.1, fun r hr => ⟨(h.2.2.2.2.2.2.2.2.2 r hr).2.1, (h.2.2.2.2.2.2.2.2.2 r hr).1.2.1, (h.2.2.2.2.2.2.2.2.2 r hr).2.2⟩⟩
/-- the reference's -/
theorem r_look {I : Nat → Nat → Int32} {L : Nat → Nat → Int64} {Z : zZ} {B lv nc : Nat} {ch : Nat → Nat → Nat} {rows : Nat} {len : Nat → Nat} {col : Nat → Nat → Nat} {tm pd : Int32} {r : Nat} (h : isMod Z (B + 200)) (hV : rV I (B + 200) lv nc ch rows len col tm pd) (hO : famOK rows nc len col) (hr : r < rows) :
    ∃ I1 I', fX12_copies [.ref (B + 200)] (I, L, Z) = some (none, (I1, L, Z)) ∧ fX12_laysRow [.ref (B + 200), .int (nI r)] (I1, L, Z) = some (none, (I', L, Z)) ∧ laidI I' (B + 200) (len r) ch (col r) ∧ refTab I' (B + 200) lv nc ch ∧ famR (I' (B + 200 + 30)) rows len col tm pd ∧ I' (B + 200) 48 = I (B + 200 + 16) lv ∧ sameR I I' B := by
  obtain ⟨h1, h2, h3⟩ := hV
  obtain ⟨o1, o2, o3⟩ := hO
  obtain ⟨I1, a1, a2, a3, a4, a5⟩ := r_copies (L := L) h h1
  have hT1 : refTab I1 (B + 200) lv nc ch := h1.kept (a5 18 (by omega)) (a4 _ (by omega) (by omega)) (a4 _ (by omega) (by omega))
  have hF1 : famR (I1 (B + 200 + 30)) rows len col tm pd := by
    obtain ⟨k1, k2, k3, k4, k5⟩ := h3
    refine ⟨fun r hr => by rw [a2 r (by omega)]; exact k1 r hr, fun r hr hr4 => by rw [a2 r (by omega)]; exact k2 r hr hr4, fun r' hr' i hi => ?_, by rw [a2 36 (by omega)]; exact k4, by rw [a2 37 (by omega)]; exact k5⟩
    have := o3 r' hr'
    rw [a2 _ (by omega)]
    exact k3 r' hr' i hi
  have ho := o3 r hr
  obtain ⟨I', b1, b2, b3, b4⟩ := r_laysRow (I := I1) (L := L) (r := r) (n := len r) (c := col r) h hT1 (by omega) (by omega) (hF1.1 r hr) (fun i hi => Nat.lt_of_lt_of_le (ho.2.2 i hi) o2) (fun i hi => hF1.2.2.1 r hr i hi)
  have e30 : I' (B + 200 + 30) = I1 (B + 200 + 30) := b3 _ (by omega) (by omega)
  refine ⟨I1, I', a1, b1, b2, hT1.kept (b4 18 (by omega)) (b3 _ (by omega) (by omega)) (b3 _ (by omega) (by omega)), by rw [e30]; exact hF1, by rw [b4 48 (by omega)]; exact a3, fun k hk => ?_, fun k hk => ?_, fun j hj => ?_⟩
  · rw [b3 _ (by omega) (by omega), a4 _ (by omega) (by omega)]
  · unfold essA at hk
    rw [b3 _ (by omega) (by omega), a4 _ (by omega) (by omega)]
  · unfold essF at hj
    rw [b4 j (by omega), a5 j (by omega)]
/-- how an operation is said: both sides answer alike, and what matters stays -/
def askOp (fc fr : zF) (args : List Value) (I : Nat → Nat → Int32) (L : Nat → Nat → Int64) (Z : zZ) (B tx : Nat) : Prop := ∃ (v : Int32) (I1 I2 : Nat → Nat → Int32), fc (.ref B :: args) (I, L, Z) = some (some (.int v), (I1, L, Z)) ∧ sameC I I1 B tx ∧ fr (.ref (B + 200) :: args) (I1, L, Z) = some (some (.int v), (I2, L, Z)) ∧ sameR I1 I2 B
theorem o_child {I : Nat → Nat → Int32} {L : Nat → Nat → Int64} {Z : zZ} {B tx lv nc : Nat} {ch : Nat → Nat → Nat} {rows : Nat} {len : Nat → Nat} {col : Nat → Nat → Nat} {tm pd : Int32} (h : isCls Z B tx) (hM : isMod Z (B + 200)) (hV : cV I B tx nc ch rows len col tm pd) (hR : rV I (B + 200) lv nc ch rows len col tm pd) (x y : Int32) : askOp fX11_child fX12_child [.int x, .int y] I L Z B tx := by
  obtain ⟨h1, h2, h3, h4, h5, h6⟩ := id hV
  have hT := hR.1
  rcases out_or x (n := nc) (by omega) with qx | ⟨a, ha, rfl⟩
  · refine ⟨nM1, I, I, ?_, sameC.refl _ _ _, ?_, sameR.refl _ _⟩
    · show kX11_child_0 [some (.ref B), some (.int x), some (.int y)] [] (I, L, Z) = _
      simp (disch := omega) only [kX11_child_0, kX11_child_31, kX11_child_32, cl_B h, p_isColour_no h h1 qx, q_push, q_pushl, q_iload, q_lload, q_aload, q_istore, q_astore, q_lstore, q_iinc, q_iadd, q_isub, q_imul, q_iand, q_ior, q_ixor, q_ishl, q_ishr, q_iushr, q_idiv, q_irem, q_ladd, q_lsub, q_lmul, q_lcmp, q_mmax, q_mmin, q_i2l, q_l2i, q_i2b, q_i2c, q_dup, q_dup2, q_pop, q_icmp_eq, q_icmp_ne, q_icmp_lt, q_icmp_ge, q_icmp_gt, q_icmp_le, q_if_eq, q_if_ne, q_if_lt, q_if_ge, q_if_gt, q_if_le, q_getI, q_getR, q_putI, q_putZ, q_putR, q_iald, q_bald, q_zald, q_lald, q_aald, q_alen, q_iast, q_bast, q_zast, q_last, q_aast, q_iret, q_zret, q_lret, q_vret, q_obj, q_callV, q_callS, q_callT, q_acpy, q_ldcS, q_dn, q_ag, z_pop, List.getElem?_cons_zero, List.getElem?_cons_succ, List.set_cons_zero, List.set_cons_succ, List.length_cons, List.length_nil, z_nol, Option.map_some, Option.toList_some, Option.toList_none, List.cons_append, List.nil_append, n_lit, n_m1, n_m2, n_m1lt, n_m1le, n_rem, n_div, n_out, n_cl, n_eq, n_le, n_lt, n_add, n_mul, n_sub, n_nle, n_yle, n_nlt, n_ylt, n_neN, z_lay, z_sz, z_str, z_stI, z_stL, z_stR, eq_self, reduceIte, true_and, and_true, and_self, false_and, and_false, or_self, false_or, or_false, true_or, or_true, not_true_eq_false, not_false_eq_true, Nat.reduceLeDiff, Nat.reduceLT, Nat.reduceAdd, Nat.reduceEqDiff, Nat.reduceMul, Nat.reduceSub, Value.category, Nat.zero_le, beq_self_eq_true]
    · show kX12_child_0 [some (.ref (B + 200)), some (.int x), some (.int y)] [] (I, L, Z) = _
      simp (disch := omega) only [kX12_child_0, kX12_child_25, kX12_child_26, hM.1, r_isColour_no hM hT qx, q_push, q_pushl, q_iload, q_lload, q_aload, q_istore, q_astore, q_lstore, q_iinc, q_iadd, q_isub, q_imul, q_iand, q_ior, q_ixor, q_ishl, q_ishr, q_iushr, q_idiv, q_irem, q_ladd, q_lsub, q_lmul, q_lcmp, q_mmax, q_mmin, q_i2l, q_l2i, q_i2b, q_i2c, q_dup, q_dup2, q_pop, q_icmp_eq, q_icmp_ne, q_icmp_lt, q_icmp_ge, q_icmp_gt, q_icmp_le, q_if_eq, q_if_ne, q_if_lt, q_if_ge, q_if_gt, q_if_le, q_getI, q_getR, q_putI, q_putZ, q_putR, q_iald, q_bald, q_zald, q_lald, q_aald, q_alen, q_iast, q_bast, q_zast, q_last, q_aast, q_iret, q_zret, q_lret, q_vret, q_obj, q_callV, q_callS, q_callT, q_acpy, q_ldcS, q_dn, q_ag, z_pop, List.getElem?_cons_zero, List.getElem?_cons_succ, List.set_cons_zero, List.set_cons_succ, List.length_cons, List.length_nil, z_nol, Option.map_some, Option.toList_some, Option.toList_none, List.cons_append, List.nil_append, n_lit, n_m1, n_m2, n_m1lt, n_m1le, n_rem, n_div, n_out, n_cl, n_eq, n_le, n_lt, n_add, n_mul, n_sub, n_nle, n_yle, n_nlt, n_ylt, n_neN, z_lay, z_sz, z_str, z_stI, z_stL, z_stR, eq_self, reduceIte, true_and, and_true, and_self, false_and, and_false, or_self, false_or, or_false, true_or, or_true, not_true_eq_false, not_false_eq_true, Nat.reduceLeDiff, Nat.reduceLT, Nat.reduceAdd, Nat.reduceEqDiff, Nat.reduceMul, Nat.reduceSub, Value.category, Nat.zero_le, beq_self_eq_true]
  · rcases out_or y (n := nc) (by omega) with qy | ⟨b, hb, rfl⟩
    · refine ⟨nM1, I, I, ?_, sameC.refl _ _ _, ?_, sameR.refl _ _⟩
      · show kX11_child_0 [some (.ref B), some (.int (nI a)), some (.int y)] [] (I, L, Z) = _
        simp (disch := omega) only [kX11_child_0, kX11_child_31, kX11_child_32, cl_B h, p_isColour_yes h h1 h3 ha, p_isColour_no h h1 qy, q_push, q_pushl, q_iload, q_lload, q_aload, q_istore, q_astore, q_lstore, q_iinc, q_iadd, q_isub, q_imul, q_iand, q_ior, q_ixor, q_ishl, q_ishr, q_iushr, q_idiv, q_irem, q_ladd, q_lsub, q_lmul, q_lcmp, q_mmax, q_mmin, q_i2l, q_l2i, q_i2b, q_i2c, q_dup, q_dup2, q_pop, q_icmp_eq, q_icmp_ne, q_icmp_lt, q_icmp_ge, q_icmp_gt, q_icmp_le, q_if_eq, q_if_ne, q_if_lt, q_if_ge, q_if_gt, q_if_le, q_getI, q_getR, q_putI, q_putZ, q_putR, q_iald, q_bald, q_zald, q_lald, q_aald, q_alen, q_iast, q_bast, q_zast, q_last, q_aast, q_iret, q_zret, q_lret, q_vret, q_obj, q_callV, q_callS, q_callT, q_acpy, q_ldcS, q_dn, q_ag, z_pop, List.getElem?_cons_zero, List.getElem?_cons_succ, List.set_cons_zero, List.set_cons_succ, List.length_cons, List.length_nil, z_nol, Option.map_some, Option.toList_some, Option.toList_none, List.cons_append, List.nil_append, n_lit, n_m1, n_m2, n_m1lt, n_m1le, n_rem, n_div, n_out, n_cl, n_eq, n_le, n_lt, n_add, n_mul, n_sub, n_nle, n_yle, n_nlt, n_ylt, n_neN, z_lay, z_sz, z_str, z_stI, z_stL, z_stR, eq_self, reduceIte, true_and, and_true, and_self, false_and, and_false, or_self, false_or, or_false, true_or, or_true, not_true_eq_false, not_false_eq_true, Nat.reduceLeDiff, Nat.reduceLT, Nat.reduceAdd, Nat.reduceEqDiff, Nat.reduceMul, Nat.reduceSub, Value.category, Nat.zero_le, beq_self_eq_true]
      · show kX12_child_0 [some (.ref (B + 200)), some (.int (nI a)), some (.int y)] [] (I, L, Z) = _
        simp (disch := omega) only [kX12_child_0, kX12_child_25, kX12_child_26, hM.1, r_isColour_yes hM hT ha, r_isColour_no hM hT qy, q_push, q_pushl, q_iload, q_lload, q_aload, q_istore, q_astore, q_lstore, q_iinc, q_iadd, q_isub, q_imul, q_iand, q_ior, q_ixor, q_ishl, q_ishr, q_iushr, q_idiv, q_irem, q_ladd, q_lsub, q_lmul, q_lcmp, q_mmax, q_mmin, q_i2l, q_l2i, q_i2b, q_i2c, q_dup, q_dup2, q_pop, q_icmp_eq, q_icmp_ne, q_icmp_lt, q_icmp_ge, q_icmp_gt, q_icmp_le, q_if_eq, q_if_ne, q_if_lt, q_if_ge, q_if_gt, q_if_le, q_getI, q_getR, q_putI, q_putZ, q_putR, q_iald, q_bald, q_zald, q_lald, q_aald, q_alen, q_iast, q_bast, q_zast, q_last, q_aast, q_iret, q_zret, q_lret, q_vret, q_obj, q_callV, q_callS, q_callT, q_acpy, q_ldcS, q_dn, q_ag, z_pop, List.getElem?_cons_zero, List.getElem?_cons_succ, List.set_cons_zero, List.set_cons_succ, List.length_cons, List.length_nil, z_nol, Option.map_some, Option.toList_some, Option.toList_none, List.cons_append, List.nil_append, n_lit, n_m1, n_m2, n_m1lt, n_m1le, n_rem, n_div, n_out, n_cl, n_eq, n_le, n_lt, n_add, n_mul, n_sub, n_nle, n_yle, n_nlt, n_ylt, n_neN, z_lay, z_sz, z_str, z_stI, z_stL, z_stR, eq_self, reduceIte, true_and, and_true, and_self, false_and, and_false, or_self, false_or, or_false, true_or, or_true, not_true_eq_false, not_false_eq_true, Nat.reduceLeDiff, Nat.reduceLT, Nat.reduceAdd, Nat.reduceEqDiff, Nat.reduceMul, Nat.reduceSub, Value.category, Nat.zero_le, beq_self_eq_true]
    · refine ⟨nI (ch a b), I, I, ?_, sameC.refl _ _ _, ?_, sameR.refl _ _⟩
      · have a1 := p_childOf (L := L) (x := a) (y := b) (ct_tx h) h4 (by omega) (by omega)
        show kX11_child_0 [some (.ref B), some (.int (nI a)), some (.int (nI b))] [] (I, L, Z) = _
        simp (disch := omega) only [kX11_child_0, kX11_child_31, kX11_child_32, cl_B h, h.2.2.2.1, tl_0 h, tr_0_1 h, tl_5 h, p_isColour_yes h h1 h3 ha, p_isColour_yes h h1 h3 hb, a1, q_push, q_pushl, q_iload, q_lload, q_aload, q_istore, q_astore, q_lstore, q_iinc, q_iadd, q_isub, q_imul, q_iand, q_ior, q_ixor, q_ishl, q_ishr, q_iushr, q_idiv, q_irem, q_ladd, q_lsub, q_lmul, q_lcmp, q_mmax, q_mmin, q_i2l, q_l2i, q_i2b, q_i2c, q_dup, q_dup2, q_pop, q_icmp_eq, q_icmp_ne, q_icmp_lt, q_icmp_ge, q_icmp_gt, q_icmp_le, q_if_eq, q_if_ne, q_if_lt, q_if_ge, q_if_gt, q_if_le, q_getI, q_getR, q_putI, q_putZ, q_putR, q_iald, q_bald, q_zald, q_lald, q_aald, q_alen, q_iast, q_bast, q_zast, q_last, q_aast, q_iret, q_zret, q_lret, q_vret, q_obj, q_callV, q_callS, q_callT, q_acpy, q_ldcS, q_dn, q_ag, z_pop, List.getElem?_cons_zero, List.getElem?_cons_succ, List.set_cons_zero, List.set_cons_succ, List.length_cons, List.length_nil, z_nol, Option.map_some, Option.toList_some, Option.toList_none, List.cons_append, List.nil_append, n_lit, n_m1, n_m2, n_m1lt, n_m1le, n_rem, n_div, n_out, n_cl, n_eq, n_le, n_lt, n_add, n_mul, n_sub, n_nle, n_yle, n_nlt, n_ylt, n_neN, z_lay, z_sz, z_str, z_stI, z_stL, z_stR, eq_self, reduceIte, true_and, and_true, and_self, false_and, and_false, or_self, false_or, or_false, true_or, or_true, not_true_eq_false, not_false_eq_true, Nat.reduceLeDiff, Nat.reduceLT, Nat.reduceAdd, Nat.reduceEqDiff, Nat.reduceMul, Nat.reduceSub, Value.category, Nat.zero_le, beq_self_eq_true]
      · have a1 := r_childOf (L := L) (a := a) (b := b) hM hT (by omega) (by omega)
        show kX12_child_0 [some (.ref (B + 200)), some (.int (nI a)), some (.int (nI b))] [] (I, L, Z) = _
        simp (disch := omega) only [kX12_child_0, kX12_child_25, kX12_child_26, hM.1, r_isColour_yes hM hT ha, r_isColour_yes hM hT hb, a1, q_push, q_pushl, q_iload, q_lload, q_aload, q_istore, q_astore, q_lstore, q_iinc, q_iadd, q_isub, q_imul, q_iand, q_ior, q_ixor, q_ishl, q_ishr, q_iushr, q_idiv, q_irem, q_ladd, q_lsub, q_lmul, q_lcmp, q_mmax, q_mmin, q_i2l, q_l2i, q_i2b, q_i2c, q_dup, q_dup2, q_pop, q_icmp_eq, q_icmp_ne, q_icmp_lt, q_icmp_ge, q_icmp_gt, q_icmp_le, q_if_eq, q_if_ne, q_if_lt, q_if_ge, q_if_gt, q_if_le, q_getI, q_getR, q_putI, q_putZ, q_putR, q_iald, q_bald, q_zald, q_lald, q_aald, q_alen, q_iast, q_bast, q_zast, q_last, q_aast, q_iret, q_zret, q_lret, q_vret, q_obj, q_callV, q_callS, q_callT, q_acpy, q_ldcS, q_dn, q_ag, z_pop, List.getElem?_cons_zero, List.getElem?_cons_succ, List.set_cons_zero, List.set_cons_succ, List.length_cons, List.length_nil, z_nol, Option.map_some, Option.toList_some, Option.toList_none, List.cons_append, List.nil_append, n_lit, n_m1, n_m2, n_m1lt, n_m1le, n_rem, n_div, n_out, n_cl, n_eq, n_le, n_lt, n_add, n_mul, n_sub, n_nle, n_yle, n_nlt, n_ylt, n_neN, z_lay, z_sz, z_str, z_stI, z_stL, z_stR, eq_self, reduceIte, true_and, and_true, and_self, false_and, and_false, or_self, false_or, or_false, true_or, or_true, not_true_eq_false, not_false_eq_true, Nat.reduceLeDiff, Nat.reduceLT, Nat.reduceAdd, Nat.reduceEqDiff, Nat.reduceMul, Nat.reduceSub, Value.category, Nat.zero_le, beq_self_eq_true]
