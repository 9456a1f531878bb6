/-! the constructors: objects behind the last -/
def lzN (l : Nat → Option zT) (n : Nat) (t : zT) : Nat → Option zT := fun k => if k = n then some t else l k
def rzN (r : Nat → Nat → Option Nat) (n : Nat) : Nat → Nat → Option Nat := fun k f => if k = n then none else r k f
def rzU (r : Nat → Nat → Option Nat) (a f b : Nat) : Nat → Nat → Option Nat := fun k g => if k = a ∧ g = f then some b else r k g
def zz (B n : Nat) (l : Nat → Option zT) (r : Nat → Nat → Option Nat) (sA : Nat → Nat) : zZ := (fun a f => if a < B then none else (r (a - B) f).map (B + ·), fun a => if a < B then none else l (a - B), B + n, sA)
def frI (I : Nat → Nat → Int32) (s : Nat) : Prop := ∀ a k, s ≤ a → I a k = 0
def frL (L : Nat → Nat → Int64) (s : Nat) : Prop := ∀ a k, s ≤ a → L a k = 0
theorem lzN_at {l : Nat → Option zT} {n : Nat} {t : zT} : lzN l n t n = some t := if_pos rfl
theorem lzN_ne {l : Nat → Option zT} {n k : Nat} {t : zT} (h : k ≠ n) : lzN l n t k = l k := if_neg h
theorem zz_l {B n k : Nat} {l : Nat → Option zT} {r : Nat → Nat → Option Nat} {sA : Nat → Nat} : (zz B n l r sA).2.1 (B + k) = l k := by
  show (if B + k < B then none else l (B + k - B)) = l k
  rw [if_neg (by omega), Nat.add_sub_cancel_left]
theorem zz_r {B n k f : Nat} {l : Nat → Option zT} {r : Nat → Nat → Option Nat} {sA : Nat → Nat} : (zz B n l r sA).1 (B + k) f = (r k f).map (B + ·) := by
  show (if B + k < B then none else (r (B + k - B) f).map (B + ·)) = _
  rw [if_neg (by omega), Nat.add_sub_cancel_left]
theorem zz_s {B n : Nat} {l : Nat → Option zT} {r : Nat → Nat → Option Nat} {sA : Nat → Nat} : (zz B n l r sA).2.2.1 = B + n := rfl
theorem z_new_zz {I : Nat → Nat → Int32} {L : Nat → Nat → Int64} {B n s : Nat} {l : Nat → Option zT} {r : Nat → Nat → Option Nat} {sA : Nat → Nat} {t : zT} (hI : frI I s) (hL : frL L s) (hs : s ≤ B + n) : z_new (I, L, zz B n l r sA) t = (I, L, zz B (n + 1) (lzN l n t) (rzN r n) sA) := by
  have e1 : z_row0 I (B + n) 0 = I := funext fun a => funext fun k => by
    unfold z_row0
    by_cases g : a = B + n
    · rw [if_pos g, hI a k (by omega)]
    · rw [if_neg g]
  have e2 : z_row0 L (B + n) 0 = L := funext fun a => funext fun k => by
    unfold z_row0
    by_cases g : a = B + n
    · rw [if_pos g, hL a k (by omega)]
    · rw [if_neg g]
  have e3 : z_row0 (zz B n l r sA).1 (B + n) none = (zz B (n + 1) (lzN l n t) (rzN r n) sA).1 := funext fun a => funext fun f => by
    unfold z_row0 zz rzN
    show (if a = B + n then none else if a < B then none else (r (a - B) f).map (B + ·)) = if a < B then none else (if a - B = n then none else r (a - B) f).map (B + ·)
    by_cases g : a = B + n
    · rw [if_pos g, if_neg (by omega), if_pos (by omega)]
      rfl
    · rw [if_neg g]
      by_cases g2 : a < B
      · rw [if_pos g2, if_pos g2]
      · rw [if_neg g2, if_neg g2, if_neg (by omega)]
  have e4 : (fun b => if b = B + n then some t else (zz B n l r sA).2.1 b) = (zz B (n + 1) (lzN l n t) (rzN r n) sA).2.1 := funext fun a => by
    unfold zz lzN
    show (if a = B + n then some t else if a < B then none else l (a - B)) = if a < B then none else if a - B = n then some t else l (a - B)
    by_cases g : a = B + n
    · rw [if_pos g, if_neg (by omega), if_pos (by omega)]
    · rw [if_neg g]
      by_cases g2 : a < B
      · rw [if_pos g2, if_pos g2]
      · rw [if_neg g2, if_neg g2, if_neg (by omega)]
  show (z_row0 I (B + n) 0, z_row0 L (B + n) 0, z_row0 (zz B n l r sA).1 (B + n) none, (fun b => if b = B + n then some t else (zz B n l r sA).2.1 b), B + n + 1, sA) = _
  rw [e1, e2, e3, e4]
  rfl
theorem z_stR_zz {I : Nat → Nat → Int32} {L : Nat → Nat → Int64} {B n a f b : Nat} {l : Nat → Option zT} {r : Nat → Nat → Option Nat} {sA : Nat → Nat} : z_stR (I, L, zz B n l r sA) (B + a) f (some (B + b)) = (I, L, zz B n l (rzU r a f b) sA) := by
  have e : z_up (zz B n l r sA).1 (B + a) f (some (B + b)) = (zz B n l (rzU r a f b) sA).1 := funext fun x => funext fun g => by
    unfold z_up zz rzU
    show (if x = B + a ∧ g = f then some (B + b) else if x < B then none else (r (x - B) g).map (B + ·)) = if x < B then none else (if x - B = a ∧ g = f then some b else r (x - B) g).map (B + ·)
    by_cases h : x = B + a ∧ g = f
    · rw [if_pos h, if_neg (by omega), if_pos ⟨by omega, h.2⟩]
      rfl
    · rw [if_neg h]
      by_cases g2 : x < B
      · rw [if_pos g2, if_pos g2]
      · rw [if_neg g2, if_neg g2, if_neg (fun z => h ⟨by omega, z.2⟩)]
  show (I, L, z_up (zz B n l r sA).1 (B + a) f (some (B + b)), (zz B n l r sA).2) = _
  rw [e]
  rfl
theorem c_new {α : Type} {I : Nat → Nat → Int32} {L : Nat → Nat → Int64} {B n s : Nat} {l : Nat → Option zT} {r : Nat → Nat → Option Nat} {sA : Nat → Nat} (hI : frI I s) (hL : frL L s) (ci lim : Nat) (k : zK α) (ls : zL) (st : List Value) (hs : s ≤ B + n) (hl : B + n + 1 ≤ lim) : q_new ci lim k ls st (I, L, zz B n l r sA) = k ls (.ref (B + n) :: st) (I, L, zz B (n + 1) (lzN l n (.inr ci)) (rzN r n) sA) := by
  unfold q_new
  rw [z_new_zz hI hL hs, if_pos (show z_sz (I, L, zz B n l r sA) + 1 ≤ lim from hl)]
  rfl
theorem c_newa {α : Type} {I : Nat → Nat → Int32} {L : Nat → Nat → Int64} {B n s : Nat} {l : Nat → Option zT} {r : Nat → Nat → Option Nat} {sA : Nat → Nat} (hI : frI I s) (hL : frL L s) (t mx lim m : Nat) (k : zK α) (ls : zL) (st : List Value) (hs : s ≤ B + n) (hl : B + n + 1 ≤ lim) (hm : m ≤ mx) (hm2 : m < 100000) : q_newa t mx lim k ls (.int (nI m) :: st) (I, L, zz B n l r sA) = k ls (.ref (B + n) :: st) (I, L, zz B (n + 1) (lzN l n (.inl (t, m))) (rzN r n) sA) := by
  unfold q_newa
  show (if nI m < 0 then none else if z_sz (I, L, zz B n l r sA) + 1 ≤ lim ∧ (nI m).toNatClampNeg ≤ mx then k ls (.ref (z_sz (I, L, zz B n l r sA)) :: st) (z_new (I, L, zz B n l r sA) (.inl (t, (nI m).toNatClampNeg))) else none) = _
  have p : ¬ nI m < 0 := nI_pos (by omega)
  rw [if_neg p, n_cl (by omega), z_new_zz hI hL hs, if_pos ⟨hl, hm⟩]
  rfl
theorem c_newq {α : Type} {I : Nat → Nat → Int32} {L : Nat → Nat → Int64} {B n s : Nat} {l : Nat → Option zT} {r : Nat → Nat → Option Nat} {sA : Nat → Nat} (hI : frI I s) (hL : frL L s) (mx lim m : Nat) (k : zK α) (ls : zL) (st : List Value) (hs : s ≤ B + n) (hl : B + n + 1 ≤ lim) (hm : m ≤ mx) (hm2 : m < 100000) : q_newq mx lim k ls (.int (nI m) :: st) (I, L, zz B n l r sA) = k ls (.ref (B + n) :: st) (I, L, zz B (n + 1) (lzN l n (.inl (4, m))) (rzN r n) sA) := by
  unfold q_newq
  show (if nI m < 0 then none else if z_sz (I, L, zz B n l r sA) + 1 ≤ lim ∧ (nI m).toNatClampNeg ≤ mx then k ls (.ref (z_sz (I, L, zz B n l r sA)) :: st) (z_new (I, L, zz B n l r sA) (.inl (4, (nI m).toNatClampNeg))) else none) = _
  have p : ¬ nI m < 0 := nI_pos (by omega)
  rw [if_neg p, n_cl (by omega), z_new_zz hI hL hs, if_pos ⟨hl, hm⟩]
  rfl
theorem c_putR {α : Type} {I : Nat → Nat → Int32} {L : Nat → Nat → Int64} {B n a b : Nat} {l : Nat → Option zT} {r : Nat → Nat → Option Nat} {sA : Nat → Nat} (ci f : Nat) (k : zK α) (ls : zL) (st : List Value) : q_putR ci f k ls (.ref (B + b) :: .ref (B + a) :: st) (I, L, zz B n l r sA) = if l a = some (.inr ci) then k ls st (I, L, zz B n l (rzU r a f b) sA) else none := by
  show (if z_lay (I, L, zz B n l r sA) (B + a) = some (.inr ci) then k ls st (z_stR (I, L, zz B n l r sA) (B + a) f (some (B + b))) else none) = _
  rw [z_stR_zz, show z_lay (I, L, zz B n l r sA) (B + a) = l a from zz_l]
theorem e_ctor {α : Type} (G : zF) (n mc lim : Nat) (k : zK α) (ls : zL) (st : List Value) (σ : zS) : q_ctor G n mc lim k ls st σ = match z_pop n [] st with
  | some (as, .ref b :: r) => if z_sz σ + mc ≤ lim ∧ r.length ≤ 4 then match G (.ref b :: as) σ with
      | some q => if z_sz q.2 = z_sz σ + mc then k ls (q.1.toList ++ r) q.2 else none
      | none => none
    else none
  | _ => none := rfl
theorem p_init1 {I : Nat → Nat → Int32} {L : Nat → Nat → Int64} {B n a s : Nat} {l : Nat → Option zT} {r : Nat → Nat → Option Nat} {sA : Nat → Nat} (hI : frI I s) (hL : frL L s) (hs : s ≤ B + n) (ha : a < n) (hl : l a = some (.inr 1)) : fX1_init [.ref (B + a)] (I, L, zz B n l r sA) = some (none, (I, L, zz B (n + 2) (lzN (lzN l n (.inl (0, 4))) (n + 1) (.inl (0, 32))) (rzU (rzN (rzU (rzN r n) a 3 n) (n + 1)) a 4 (n + 1)) sA)) := by
  show kX1_init_0 (B + n + 2) [some (Value.ref ((B + a)))] [] (I, L, zz B n l r sA) = _
  simp (disch := omega) only [kX1_init_0, c_newa hI hL, hl, c_putR, e_ctor, lzN_ne, lzN_at, zz_l, zz_s, zz_r, e_push, e_pushl, e_iload, e_lload, e_aload, e_istore, e_astore, e_lstore, e_iinc, e_iadd, e_isub, e_imul, e_iand, e_ior, e_ixor, e_ishl, e_ishr, e_iushr, e_idiv, e_irem, e_ladd, e_lsub, e_lmul, e_lcmp, e_mmax, e_mmin, e_i2l, e_l2i, e_i2b, e_i2c, e_dup, e_dup2, e_pop, e_icmp_eq, e_icmp_ne, e_icmp_lt, e_icmp_ge, e_icmp_gt, e_icmp_le, e_if_eq, e_if_ne, e_if_lt, e_if_ge, e_if_gt, e_if_le, e_getI, e_getR, e_putI, e_putZ, e_iald, e_bald, e_zald, e_lald, e_aald, e_alen, e_iast, e_bast, e_zast, e_last, e_aast, e_iret, e_zret, e_lret, e_vret, e_obj, e_callV, e_callS, e_callT, e_acpy, e_ldcS, e_dn, e_ag, z_pop, List.getElem?_cons_zero, List.getElem?_cons_succ, List.set_cons_zero, List.set_cons_succ, List.length_cons, List.length_nil, z_nol, Option.map_some, Option.toList_some, Option.toList_none, List.cons_append, List.nil_append, n_lit, n_m1, n_m2, n_m1lt, n_m1le, n_rem, n_div, n_out, n_cl, n_eq, n_le, n_lt, n_add, n_mul, n_sub, n_nle, n_yle, n_nlt, n_ylt, n_neN, z_lay, z_sz, z_str, z_stI, z_stL, z_stR, eq_self, ↓reduceIte, true_and, and_true, and_self, false_and, and_false, or_self, false_or, or_false, true_or, or_true, not_true_eq_false, not_false_eq_true, Nat.reduceLeDiff, Nat.reduceLT, Nat.reduceAdd, Nat.reduceEqDiff, Nat.reduceMul, Nat.reduceSub, Value.category, Nat.zero_le, beq_self_eq_true, Nat.add_assoc]
theorem p_init8 {I : Nat → Nat → Int32} {L : Nat → Nat → Int64} {B n a s : Nat} {l : Nat → Option zT} {r : Nat → Nat → Option Nat} {sA : Nat → Nat} (hI : frI I s) (hL : frL L s) (hs : s ≤ B + n) (ha : a < n) (hl : l a = some (.inr 8)) : fX8_init [.ref (B + a)] (I, L, zz B n l r sA) = some (none, (I, L, zz B (n + 3) (lzN (lzN (lzN l n (.inl (0, 401))) (n + 1) (.inl (3, 401))) (n + 2) (.inl (0, 401))) (rzU (rzN (rzU (rzN (rzU (rzN r n) a 0 n) (n + 1)) a 1 (n + 1)) (n + 2)) a 2 (n + 2)) sA)) := by
  show kX8_init_0 (B + n + 3) [some (Value.ref ((B + a)))] [] (I, L, zz B n l r sA) = _
  simp (disch := omega) only [kX8_init_0, c_newa hI hL, hl, c_putR, e_ctor, lzN_ne, lzN_at, zz_l, zz_s, zz_r, e_push, e_pushl, e_iload, e_lload, e_aload, e_istore, e_astore, e_lstore, e_iinc, e_iadd, e_isub, e_imul, e_iand, e_ior, e_ixor, e_ishl, e_ishr, e_iushr, e_idiv, e_irem, e_ladd, e_lsub, e_lmul, e_lcmp, e_mmax, e_mmin, e_i2l, e_l2i, e_i2b, e_i2c, e_dup, e_dup2, e_pop, e_icmp_eq, e_icmp_ne, e_icmp_lt, e_icmp_ge, e_icmp_gt, e_icmp_le, e_if_eq, e_if_ne, e_if_lt, e_if_ge, e_if_gt, e_if_le, e_getI, e_getR, e_putI, e_putZ, e_iald, e_bald, e_zald, e_lald, e_aald, e_alen, e_iast, e_bast, e_zast, e_last, e_aast, e_iret, e_zret, e_lret, e_vret, e_obj, e_callV, e_callS, e_callT, e_acpy, e_ldcS, e_dn, e_ag, z_pop, List.getElem?_cons_zero, List.getElem?_cons_succ, List.set_cons_zero, List.set_cons_succ, List.length_cons, List.length_nil, z_nol, Option.map_some, Option.toList_some, Option.toList_none, List.cons_append, List.nil_append, n_lit, n_m1, n_m2, n_m1lt, n_m1le, n_rem, n_div, n_out, n_cl, n_eq, n_le, n_lt, n_add, n_mul, n_sub, n_nle, n_yle, n_nlt, n_ylt, n_neN, z_lay, z_sz, z_str, z_stI, z_stL, z_stR, eq_self, ↓reduceIte, true_and, and_true, and_self, false_and, and_false, or_self, false_or, or_false, true_or, or_true, not_true_eq_false, not_false_eq_true, Nat.reduceLeDiff, Nat.reduceLT, Nat.reduceAdd, Nat.reduceEqDiff, Nat.reduceMul, Nat.reduceSub, Value.category, Nat.zero_le, beq_self_eq_true, Nat.add_assoc]
theorem p_init6 {I : Nat → Nat → Int32} {L : Nat → Nat → Int64} {B n a s : Nat} {l : Nat → Option zT} {r : Nat → Nat → Option Nat} {sA : Nat → Nat} (hI : frI I s) (hL : frL L s) (hs : s ≤ B + n) (ha : a < n) (hl : l a = some (.inr 6)) : fX6_init [.ref (B + a)] (I, L, zz B n l r sA) = some (none, (I, L, zz B (n + 1) (lzN l n (.inl (1, 2000))) (rzU (rzN r n) a 0 n) sA)) := by
  show kX6_init_0 (B + n + 1) [some (Value.ref ((B + a)))] [] (I, L, zz B n l r sA) = _
  simp (disch := omega) only [kX6_init_0, c_newa hI hL, hl, c_putR, e_ctor, lzN_ne, lzN_at, zz_l, zz_s, zz_r, e_push, e_pushl, e_iload, e_lload, e_aload, e_istore, e_astore, e_lstore, e_iinc, e_iadd, e_isub, e_imul, e_iand, e_ior, e_ixor, e_ishl, e_ishr, e_iushr, e_idiv, e_irem, e_ladd, e_lsub, e_lmul, e_lcmp, e_mmax, e_mmin, e_i2l, e_l2i, e_i2b, e_i2c, e_dup, e_dup2, e_pop, e_icmp_eq, e_icmp_ne, e_icmp_lt, e_icmp_ge, e_icmp_gt, e_icmp_le, e_if_eq, e_if_ne, e_if_lt, e_if_ge, e_if_gt, e_if_le, e_getI, e_getR, e_putI, e_putZ, e_iald, e_bald, e_zald, e_lald, e_aald, e_alen, e_iast, e_bast, e_zast, e_last, e_aast, e_iret, e_zret, e_lret, e_vret, e_obj, e_callV, e_callS, e_callT, e_acpy, e_ldcS, e_dn, e_ag, z_pop, List.getElem?_cons_zero, List.getElem?_cons_succ, List.set_cons_zero, List.set_cons_succ, List.length_cons, List.length_nil, z_nol, Option.map_some, Option.toList_some, Option.toList_none, List.cons_append, List.nil_append, n_lit, n_m1, n_m2, n_m1lt, n_m1le, n_rem, n_div, n_out, n_cl, n_eq, n_le, n_lt, n_add, n_mul, n_sub, n_nle, n_yle, n_nlt, n_ylt, n_neN, z_lay, z_sz, z_str, z_stI, z_stL, z_stR, eq_self, ↓reduceIte, true_and, and_true, and_self, false_and, and_false, or_self, false_or, or_false, true_or, or_true, not_true_eq_false, not_false_eq_true, Nat.reduceLeDiff, Nat.reduceLT, Nat.reduceAdd, Nat.reduceEqDiff, Nat.reduceMul, Nat.reduceSub, Value.category, Nat.zero_le, beq_self_eq_true, Nat.add_assoc]
theorem p_init5 {I : Nat → Nat → Int32} {L : Nat → Nat → Int64} {B n a s : Nat} {l : Nat → Option zT} {r : Nat → Nat → Option Nat} {sA : Nat → Nat} (hI : frI I s) (hL : frL L s) (hs : s ≤ B + n) (ha : a < n) (hl : l a = some (.inr 5)) : fX5_init [.ref (B + a)] (I, L, zz B n l r sA) = some (none, (I, L, zz B (n + 4) (lzN (lzN (lzN (lzN l n (.inl (0, 16))) (n + 1) (.inl (0, 36))) (n + 2) (.inl (0, 16))) (n + 3) (.inl (0, 16))) (rzU (rzN (rzU (rzN (rzU (rzN (rzU (rzN r n) a 3 n) (n + 1)) a 4 (n + 1)) (n + 2)) a 5 (n + 2)) (n + 3)) a 6 (n + 3)) sA)) := by
  show kX5_init_0 (B + n + 4) [some (Value.ref ((B + a)))] [] (I, L, zz B n l r sA) = _
  simp (disch := omega) only [kX5_init_0, c_newa hI hL, hl, c_putR, e_ctor, lzN_ne, lzN_at, zz_l, zz_s, zz_r, e_push, e_pushl, e_iload, e_lload, e_aload, e_istore, e_astore, e_lstore, e_iinc, e_iadd, e_isub, e_imul, e_iand, e_ior, e_ixor, e_ishl, e_ishr, e_iushr, e_idiv, e_irem, e_ladd, e_lsub, e_lmul, e_lcmp, e_mmax, e_mmin, e_i2l, e_l2i, e_i2b, e_i2c, e_dup, e_dup2, e_pop, e_icmp_eq, e_icmp_ne, e_icmp_lt, e_icmp_ge, e_icmp_gt, e_icmp_le, e_if_eq, e_if_ne, e_if_lt, e_if_ge, e_if_gt, e_if_le, e_getI, e_getR, e_putI, e_putZ, e_iald, e_bald, e_zald, e_lald, e_aald, e_alen, e_iast, e_bast, e_zast, e_last, e_aast, e_iret, e_zret, e_lret, e_vret, e_obj, e_callV, e_callS, e_callT, e_acpy, e_ldcS, e_dn, e_ag, z_pop, List.getElem?_cons_zero, List.getElem?_cons_succ, List.set_cons_zero, List.set_cons_succ, List.length_cons, List.length_nil, z_nol, Option.map_some, Option.toList_some, Option.toList_none, List.cons_append, List.nil_append, n_lit, n_m1, n_m2, n_m1lt, n_m1le, n_rem, n_div, n_out, n_cl, n_eq, n_le, n_lt, n_add, n_mul, n_sub, n_nle, n_yle, n_nlt, n_ylt, n_neN, z_lay, z_sz, z_str, z_stI, z_stL, z_stR, eq_self, ↓reduceIte, true_and, and_true, and_self, false_and, and_false, or_self, false_or, or_false, true_or, or_true, not_true_eq_false, not_false_eq_true, Nat.reduceLeDiff, Nat.reduceLT, Nat.reduceAdd, Nat.reduceEqDiff, Nat.reduceMul, Nat.reduceSub, Value.category, Nat.zero_le, beq_self_eq_true, Nat.add_assoc]
theorem p_init2 {I : Nat → Nat → Int32} {L : Nat → Nat → Int64} {B n a s : Nat} {l : Nat → Option zT} {r : Nat → Nat → Option Nat} {sA : Nat → Nat} (hI : frI I s) (hL : frL L s) (hs : s ≤ B + n) (ha : a < n) (hl : l a = some (.inr 2)) : fX2_init [.ref (B + a)] (I, L, zz B n l r sA) = some (none, (I, L, zz B (n + 1) (lzN l n (.inl (0, 9))) (rzU (rzN r n) a 0 n) sA)) := by
  show kX2_init_0 (B + n + 1) [some (Value.ref ((B + a)))] [] (I, L, zz B n l r sA) = _
  simp (disch := omega) only [kX2_init_0, c_newa hI hL, hl, c_putR, e_ctor, lzN_ne, lzN_at, zz_l, zz_s, zz_r, e_push, e_pushl, e_iload, e_lload, e_aload, e_istore, e_astore, e_lstore, e_iinc, e_iadd, e_isub, e_imul, e_iand, e_ior, e_ixor, e_ishl, e_ishr, e_iushr, e_idiv, e_irem, e_ladd, e_lsub, e_lmul, e_lcmp, e_mmax, e_mmin, e_i2l, e_l2i, e_i2b, e_i2c, e_dup, e_dup2, e_pop, e_icmp_eq, e_icmp_ne, e_icmp_lt, e_icmp_ge, e_icmp_gt, e_icmp_le, e_if_eq, e_if_ne, e_if_lt, e_if_ge, e_if_gt, e_if_le, e_getI, e_getR, e_putI, e_putZ, e_iald, e_bald, e_zald, e_lald, e_aald, e_alen, e_iast, e_bast, e_zast, e_last, e_aast, e_iret, e_zret, e_lret, e_vret, e_obj, e_callV, e_callS, e_callT, e_acpy, e_ldcS, e_dn, e_ag, z_pop, List.getElem?_cons_zero, List.getElem?_cons_succ, List.set_cons_zero, List.set_cons_succ, List.length_cons, List.length_nil, z_nol, Option.map_some, Option.toList_some, Option.toList_none, List.cons_append, List.nil_append, n_lit, n_m1, n_m2, n_m1lt, n_m1le, n_rem, n_div, n_out, n_cl, n_eq, n_le, n_lt, n_add, n_mul, n_sub, n_nle, n_yle, n_nlt, n_ylt, n_neN, z_lay, z_sz, z_str, z_stI, z_stL, z_stR, eq_self, ↓reduceIte, true_and, and_true, and_self, false_and, and_false, or_self, false_or, or_false, true_or, or_true, not_true_eq_false, not_false_eq_true, Nat.reduceLeDiff, Nat.reduceLT, Nat.reduceAdd, Nat.reduceEqDiff, Nat.reduceMul, Nat.reduceSub, Value.category, Nat.zero_le, beq_self_eq_true, Nat.add_assoc]
theorem p_init10 {I : Nat → Nat → Int32} {L : Nat → Nat → Int64} {B n a s : Nat} {l : Nat → Option zT} {r : Nat → Nat → Option Nat} {sA : Nat → Nat} (hI : frI I s) (hL : frL L s) (hs : s ≤ B + n) (ha : a < n) (hl : l a = some (.inr 10)) : fX10_init [.ref (B + a)] (I, L, zz B n l r sA) = some (none, (I, L, zz B (n + 2) (lzN (lzN l n (.inl (0, 64))) (n + 1) (.inl (0, 36))) (rzU (rzN (rzU (rzN r n) a 1 n) (n + 1)) a 2 (n + 1)) sA)) := by
  show kX10_init_0 (B + n + 2) [some (Value.ref ((B + a)))] [] (I, L, zz B n l r sA) = _
  simp (disch := omega) only [kX10_init_0, c_newa hI hL, hl, c_putR, e_ctor, lzN_ne, lzN_at, zz_l, zz_s, zz_r, e_push, e_pushl, e_iload, e_lload, e_aload, e_istore, e_astore, e_lstore, e_iinc, e_iadd, e_isub, e_imul, e_iand, e_ior, e_ixor, e_ishl, e_ishr, e_iushr, e_idiv, e_irem, e_ladd, e_lsub, e_lmul, e_lcmp, e_mmax, e_mmin, e_i2l, e_l2i, e_i2b, e_i2c, e_dup, e_dup2, e_pop, e_icmp_eq, e_icmp_ne, e_icmp_lt, e_icmp_ge, e_icmp_gt, e_icmp_le, e_if_eq, e_if_ne, e_if_lt, e_if_ge, e_if_gt, e_if_le, e_getI, e_getR, e_putI, e_putZ, e_iald, e_bald, e_zald, e_lald, e_aald, e_alen, e_iast, e_bast, e_zast, e_last, e_aast, e_iret, e_zret, e_lret, e_vret, e_obj, e_callV, e_callS, e_callT, e_acpy, e_ldcS, e_dn, e_ag, z_pop, List.getElem?_cons_zero, List.getElem?_cons_succ, List.set_cons_zero, List.set_cons_succ, List.length_cons, List.length_nil, z_nol, Option.map_some, Option.toList_some, Option.toList_none, List.cons_append, List.nil_append, n_lit, n_m1, n_m2, n_m1lt, n_m1le, n_rem, n_div, n_out, n_cl, n_eq, n_le, n_lt, n_add, n_mul, n_sub, n_nle, n_yle, n_nlt, n_ylt, n_neN, z_lay, z_sz, z_str, z_stI, z_stL, z_stR, eq_self, ↓reduceIte, true_and, and_true, and_self, false_and, and_false, or_self, false_or, or_false, true_or, or_true, not_true_eq_false, not_false_eq_true, Nat.reduceLeDiff, Nat.reduceLT, Nat.reduceAdd, Nat.reduceEqDiff, Nat.reduceMul, Nat.reduceSub, Value.category, Nat.zero_le, beq_self_eq_true, Nat.add_assoc]
