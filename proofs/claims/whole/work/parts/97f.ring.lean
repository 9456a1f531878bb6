/-! rows closed to a ring -/
def rgT (ch : Nat → Nat → Nat) (n : Nat) (c : Nat → Nat) (i : Nat) : Nat := ch (c i) (c (if i + 1 < n then i + 1 else 0))
def rgI (ch : Nat → Nat → Nat) (n : Nat) (c : Nat → Nat) : Nat → Nat → Nat
  | 0 => c
  | k + 1 => rgT ch n (rgI ch n c k)
theorem rgI_lt {ch : Nat → Nat → Nat} {n nc : Nat} {c : Nat → Nat} (hch : ∀ a b, a < nc → b < nc → ch a b < nc) (hc : ∀ i, i < n → c i < nc) : ∀ k i, i < n → rgI ch n c k i < nc
  | 0, i, h => hc i h
  | k + 1, i, h => hch _ _ (rgI_lt hch hc k i h) (rgI_lt hch hc k _ (by split <;> omega))
/-- the same row -/
def rgE (ch : Nat → Nat → Nat) (n : Nat) (c : Nat → Nat) (i j : Nat) : Prop := ∀ s, s < n → rgI ch n c i s = rgI ch n c j s
theorem rgE.symm {ch : Nat → Nat → Nat} {n : Nat} {c : Nat → Nat} {i j : Nat} (h : rgE ch n c i j) : rgE ch n c j i := fun s hs => (h s hs).symm
theorem rgE.trans {ch : Nat → Nat → Nat} {n : Nat} {c : Nat → Nat} {i j k : Nat} (h1 : rgE ch n c i j) (h2 : rgE ch n c j k) : rgE ch n c i k := fun s hs => (h1 s hs).trans (h2 s hs)
theorem rgE.succ {ch : Nat → Nat → Nat} {n : Nat} {c : Nat → Nat} {i j : Nat} (h : rgE ch n c i j) : rgE ch n c (i + 1) (j + 1) := fun s hs => by
  show rgT ch n (rgI ch n c i) s = rgT ch n (rgI ch n c j) s
  unfold rgT
  rw [h s hs, h _ (by split <;> omega)]
theorem rgE.add {ch : Nat → Nat → Nat} {n : Nat} {c : Nat → Nat} {i j : Nat} (h : rgE ch n c i j) : ∀ k, rgE ch n c (i + k) (j + k)
  | 0 => h
  | k + 1 => (rgE.add h k).succ
theorem num_inj {b : Nat} {c c' : Nat → Nat} {n : Nat} (hb : 0 < b) (hc : ∀ i, i < n → c i < b) (hc' : ∀ i, i < n → c' i < b) (h : num b c n = num b c' n) : ∀ i, i < n → c i = c' i := fun i hi => by
  rw [← dig_num hb hc i hi, h, dig_num hb hc' i hi]
/-- among more than N there are two alike -/
theorem pigeon : ∀ (N : Nat) (f : Nat → Nat), (∀ i, i ≤ N → f i < N) → ∃ i j, i < j ∧ j ≤ N ∧ f i = f j := by
  intro N
  induction N with
  | zero => intro f h; exact absurd (h 0 (Nat.le_refl 0)) (Nat.not_lt_zero _)
  | succ N ih =>
    intro f h
    rcases Classical.em (∃ i, i ≤ N ∧ f i = f (N + 1)) with ⟨i, h1, h2⟩ | hno
    · exact ⟨i, N + 1, by omega, by omega, h2⟩
    · have hne : ∀ i, i ≤ N → f i ≠ f (N + 1) := fun i hi z => hno ⟨i, hi, z⟩
      have hl := h (N + 1) (by omega)
      obtain ⟨i, j, h1, h2, h3⟩ := ih (fun i => if f i < f (N + 1) then f i else f i - 1) (fun i hi => by
        have a := h i (by omega)
        have b := hne i hi
        show (if f i < f (N + 1) then f i else f i - 1) < N
        split <;> omega)
      refine ⟨i, j, h1, by omega, ?_⟩
      have b1 := hne i (by omega)
      have b2 := hne j h2
      have h3 : (if f i < f (N + 1) then f i else f i - 1) = (if f j < f (N + 1) then f j else f j - 1) := h3
      by_cases q1 : f i < f (N + 1)
      · rw [if_pos q1] at h3
        by_cases q2 : f j < f (N + 1)
        · rw [if_pos q2] at h3; exact h3
        · rw [if_neg q2] at h3; omega
      · rw [if_neg q1] at h3
        by_cases q2 : f j < f (N + 1)
        · rw [if_pos q2] at h3; omega
        · rw [if_neg q2] at h3; omega
/-- the way in, and the way round -/
def rgM (ch : Nat → Nat → Nat) (n : Nat) (c : Nat → Nat) (m l : Nat) : Prop := 1 ≤ l ∧ rgE ch n c m (m + l) ∧ ∀ i j, i < j → j < m + l → ¬ rgE ch n c i j
theorem rg_ex {ch : Nat → Nat → Nat} {n nc : Nat} {c : Nat → Nat} (hch : ∀ a b, a < nc → b < nc → ch a b < nc) (hc : ∀ i, i < n → c i < nc) (h0 : 0 < nc) : ∃ m l, rgM ch n c m l ∧ m + l ≤ nc ^ n := by
  obtain ⟨i, j, h1, h2, h3⟩ := pigeon (nc ^ n) (fun k => num nc (rgI ch n c k) n) (fun k _ => num_lt (fun i hi => rgI_lt hch hc k i hi))
  have e : rgE ch n c i j := num_inj h0 (fun s hs => rgI_lt hch hc i s hs) (fun s hs => rgI_lt hch hc j s hs) h3
  obtain ⟨t, ⟨a, a1, a2⟩, t2⟩ := pk_least (fun t => ∃ a, a < t ∧ rgE ch n c a t) ⟨j, i, h1, e⟩
  have t3 : t ≤ j := Classical.byContradiction fun z => t2 j (by omega) ⟨i, h1, e⟩
  refine ⟨a, t - a, ⟨by omega, by rw [show a + (t - a) = t by omega]; exact a2, fun x y hxy hy hE => ?_⟩, by omega⟩
  exact t2 y (by omega) ⟨x, hxy, hE⟩
theorem rgM.per {ch : Nat → Nat → Nat} {n : Nat} {c : Nat → Nat} {m l : Nat} (h : rgM ch n c m l) {k : Nat} (hk : m ≤ k) : rgE ch n c k (k + l) := by
  have := h.2.1.add (k - m)
  rwa [show m + (k - m) = k by omega, show m + l + (k - m) = k + l by omega] at this
theorem rgM.red {ch : Nat → Nat → Nat} {n : Nat} {c : Nat → Nat} {m l : Nat} (h : rgM ch n c m l) : ∀ (d k : Nat), m ≤ k → k = d → ∃ k', m ≤ k' ∧ k' < m + l ∧ rgE ch n c k k' ∧ k' ≤ k ∧ ∃ t, k = k' + t * l := by
  intro d
  induction d using Nat.strongRecOn with
  | _ d ih =>
    intro k hk hd
    by_cases q : k < m + l
    · exact ⟨k, hk, q, fun _ _ => rfl, Nat.le_refl _, 0, by omega⟩
    · have h1 := h.1
      obtain ⟨k', a1, a2, a3, a4, t, a5⟩ := ih (k - l) (by omega) (k - l) (by omega) rfl
      have e := h.per (k := k - l) (by omega)
      rw [show k - l + l = k by omega] at e
      exact ⟨k', a1, a2, e.symm.trans a3, by omega, t + 1, by rw [Nat.succ_mul]; omega⟩
theorem rgM.lead {ch : Nat → Nat → Nat} {n : Nat} {c : Nat → Nat} {m l i j : Nat} (h : rgM ch n c m l) (hij : i < j) (hE : rgE ch n c i j) : m ≤ i := Classical.byContradiction fun q => by
  by_cases q2 : j < m + l
  · exact h.2.2 i j hij q2 hE
  · obtain ⟨k', a1, a2, a3, -⟩ := h.red j j (by omega) rfl
    exact h.2.2 i k' (by omega) a2 (hE.trans a3)
theorem rgM.round {ch : Nat → Nat → Nat} {n : Nat} {c : Nat → Nat} {m l k q : Nat} (h : rgM ch n c m l) (hk : m ≤ k) (h1 : 1 ≤ q) (hE : rgE ch n c k (k + q)) : l ≤ q := Classical.byContradiction fun z => by
  obtain ⟨k', a1, a2, a3, a4, t, a5⟩ := h.red k k hk rfl
  -- the same from k' on
  have e1 : rgE ch n c k' (k' + q) := by
    have := a3.add q
    exact a3.symm.trans (hE.trans this)
  by_cases q2 : k' + q < m + l
  · exact h.2.2 k' (k' + q) (by omega) q2 e1
  · have e2 := h.per (k := k' + q - l) (by omega)
    rw [show k' + q - l + l = k' + q by omega] at e2
    exact h.2.2 (k' + q - l) k' (by omega) a2 (e2.trans e1.symm)
/-! the class: rows packed by fours -/
def pkN (ch : Nat → Nat → Nat) (n : Nat) (c : Nat → Nat) (k : Nat) : Nat := num 4 (rgI ch n c k) n
theorem n_ush {v k : Nat} (hv : v < 65536) (hk : k < 8) : ((nI v).toUInt32 >>> ((nI (2 * k)).toUInt32 &&& Int32.toUInt32 (nI 31))).toInt32 &&& nI 3 = nI (v / 4 ^ k % 4) := by
  have e1 : ((nI v).toUInt32 >>> ((nI (2 * k)).toUInt32 &&& Int32.toUInt32 (nI 31))).toInt32 = nI (v / 2 ^ (2 * k)) := pk_ushrN (by omega) (nI (2 * k)) (2 * k) (by
    rcases (by omega : k = 0 ∨ k = 1 ∨ k = 2 ∨ k = 3 ∨ k = 4 ∨ k = 5 ∨ k = 6 ∨ k = 7) with rfl | rfl | rfl | rfl | rfl | rfl | rfl | rfl <;> rfl)
  have e2 : (2 : Nat) ^ (2 * k) = 4 ^ k := by rw [Nat.pow_mul]
  rw [e1, e2, pk_andN (Nat.lt_of_le_of_lt (Nat.div_le_self _ _) (by omega)) 2 (by decide)]
theorem p_unpacked {n i v : Nat} {σ : zS} (hn : n ≤ 8) (hi : i < n) (hv : v < 65536) : fX11_unpacked [.int (nI v), .int (nI n), .int (nI i)] σ = some (some (.int (nI (dig 4 n v i))), σ) := by
  have e := n_ush (k := n - 1 - i) hv (by omega)
  show kX11_unpacked_0 [some (Value.int (nI (v))), some (Value.int (nI (n))), some (Value.int (nI (i)))] [] σ = _
  unfold dig
  simp (disch := omega) only [kX11_unpacked_0, e, e_push, e_pushl, e_iload, e_lload, e_aload, e_istore, e_astore, e_lstore, e_iinc, e_iadd, e_isub, e_imul, e_iand, e_ior, e_ixor, e_ishl, e_ishr, e_iushr, e_idiv, e_irem, e_ladd, e_lsub, e_lmul, e_lcmp, e_mmax, e_mmin, e_i2l, e_l2i, e_i2b, e_i2c, e_dup, e_dup2, e_pop, e_icmp_eq, e_icmp_ne, e_icmp_lt, e_icmp_ge, e_icmp_gt, e_icmp_le, e_if_eq, e_if_ne, e_if_lt, e_if_ge, e_if_gt, e_if_le, e_getI, e_getR, e_putI, e_putZ, e_putR, e_iald, e_bald, e_zald, e_lald, e_aald, e_alen, e_iast, e_bast, e_zast, e_last, e_aast, e_iret, e_zret, e_lret, e_vret, e_obj, e_callV, e_callS, e_callT, e_acpy, e_ldcS, e_dn, e_ag, z_pop, List.getElem?_cons_zero, List.getElem?_cons_succ, List.set_cons_zero, List.set_cons_succ, List.length_cons, List.length_nil, z_nol, Option.map_some, Option.toList_some, Option.toList_none, List.cons_append, List.nil_append, n_lit, n_m1, n_m2, n_m1lt, n_m1le, n_rem, n_div, n_out, n_cl, n_eq, n_le, n_lt, n_add, n_mul, n_sub, n_nle, n_yle, n_nlt, n_ylt, n_neN, z_lay, z_sz, z_str, z_stI, z_stL, z_stR, eq_self, ↓reduceIte, true_and, and_true, and_self, false_and, and_false, or_self, false_or, or_false, true_or, or_true, not_true_eq_false, not_false_eq_true, Nat.reduceLeDiff, Nat.reduceLT, Nat.reduceAdd, Nat.reduceEqDiff, Nat.reduceMul, Nat.reduceSub, Value.category, Nat.zero_le, beq_self_eq_true]
theorem p_ringStep {I : Nat → Nat → Int32} {L : Nat → Nat → Int64} {Z : zZ} {b cb n k nc : Nat} {ch : Nat → Nat → Nat} {c : Nat → Nat} (h : isTab Z b cb) (h4 : nc ≤ 4) (hT : tabI I cb ch) (hch : ∀ a b, a < nc → b < nc → ch a b < nc) (hn : n ≤ 8) (hc : ∀ i, i < n → c i < nc) : fX5_ringStep [.ref b, .int (nI (pkN ch n c k)), .int (nI n)] (I, L, Z) = some (some (.int (nI (pkN ch n c (k + 1)))), (I, L, Z)) := by
  have hc4 : ∀ i, i < n → rgI ch n c k i < 4 := fun i hi => Nat.lt_of_lt_of_le (rgI_lt hch hc k i hi) h4
  have vb : pkN ch n c k < 65536 := by
    have a : pkN ch n c k < 4 ^ n := num_lt hc4
    have b := pw_le (b := 4) (n := n) (Nat.le_refl 4) hn
    omega
  have e2 : ∀ i, i < n → dig 4 n (pkN ch n c k) i = rgI ch n c k i := fun i hi => dig_num (by omega) hc4 i hi
  generalize pkN ch n c k = v at vb e2
  have e3 : pkN ch n c (k + 1) = num 4 (rgT ch n (rgI ch n c k)) n := rfl
  rw [e3]
  show kX5_ringStep_0 [some (Value.ref (b)), some (Value.int (nI (v))), some (Value.int (nI (n))), none, none, none] [] (I, L, Z) = _
  simp (disch := omega) only [kX5_ringStep_0, kX5_ringStep_5, e_push, e_pushl, e_iload, e_lload, e_aload, e_istore, e_astore, e_lstore, e_iinc, e_iadd, e_isub, e_imul, e_iand, e_ior, e_ixor, e_ishl, e_ishr, e_iushr, e_idiv, e_irem, e_ladd, e_lsub, e_lmul, e_lcmp, e_mmax, e_mmin, e_i2l, e_l2i, e_i2b, e_i2c, e_dup, e_dup2, e_pop, e_icmp_eq, e_icmp_ne, e_icmp_lt, e_icmp_ge, e_icmp_gt, e_icmp_le, e_if_eq, e_if_ne, e_if_lt, e_if_ge, e_if_gt, e_if_le, e_getI, e_getR, e_putI, e_putZ, e_putR, e_iald, e_bald, e_zald, e_lald, e_aald, e_alen, e_iast, e_bast, e_zast, e_last, e_aast, e_iret, e_zret, e_lret, e_vret, e_obj, e_callV, e_callS, e_callT, e_acpy, e_ldcS, e_dn, e_ag, z_pop, List.getElem?_cons_zero, List.getElem?_cons_succ, List.set_cons_zero, List.set_cons_succ, List.length_cons, List.length_nil, z_nol, Option.map_some, Option.toList_some, Option.toList_none, List.cons_append, List.nil_append, n_lit, n_m1, n_m2, n_m1lt, n_m1le, n_rem, n_div, n_out, n_cl, n_eq, n_le, n_lt, n_add, n_mul, n_sub, n_nle, n_yle, n_nlt, n_ylt, n_neN, z_lay, z_sz, z_str, z_stI, z_stL, z_stR, eq_self, ↓reduceIte, true_and, and_true, and_self, false_and, and_false, or_self, false_or, or_false, true_or, or_true, not_true_eq_false, not_false_eq_true, Nat.reduceLeDiff, Nat.reduceLT, Nat.reduceAdd, Nat.reduceEqDiff, Nat.reduceMul, Nat.reduceSub, Value.category, Nat.zero_le, beq_self_eq_true]
  refine lp_one (fun i ls σ => ∃ y, ls = [some (Value.ref (b)), some (Value.int (nI (v))), some (Value.int (nI (n))), some (Value.int (nI (num 4 (rgT ch n (rgI ch n c k)) i))), some (Value.int (nI (i))), y] ∧ σ = (I, L, Z)) n ⟨none, rfl, rfl⟩ ?_ ?_
  · rintro ls σ ⟨y, rfl, rfl⟩
    simp (disch := omega) only [bX5_ringStep_5, kX5_ringStep_58, e_push, e_pushl, e_iload, e_lload, e_aload, e_istore, e_astore, e_lstore, e_iinc, e_iadd, e_isub, e_imul, e_iand, e_ior, e_ixor, e_ishl, e_ishr, e_iushr, e_idiv, e_irem, e_ladd, e_lsub, e_lmul, e_lcmp, e_mmax, e_mmin, e_i2l, e_l2i, e_i2b, e_i2c, e_dup, e_dup2, e_pop, e_icmp_eq, e_icmp_ne, e_icmp_lt, e_icmp_ge, e_icmp_gt, e_icmp_le, e_if_eq, e_if_ne, e_if_lt, e_if_ge, e_if_gt, e_if_le, e_getI, e_getR, e_putI, e_putZ, e_putR, e_iald, e_bald, e_zald, e_lald, e_aald, e_alen, e_iast, e_bast, e_zast, e_last, e_aast, e_iret, e_zret, e_lret, e_vret, e_obj, e_callV, e_callS, e_callT, e_acpy, e_ldcS, e_dn, e_ag, z_pop, List.getElem?_cons_zero, List.getElem?_cons_succ, List.set_cons_zero, List.set_cons_succ, List.length_cons, List.length_nil, z_nol, Option.map_some, Option.toList_some, Option.toList_none, List.cons_append, List.nil_append, n_lit, n_m1, n_m2, n_m1lt, n_m1le, n_rem, n_div, n_out, n_cl, n_eq, n_le, n_lt, n_add, n_mul, n_sub, n_nle, n_yle, n_nlt, n_ylt, n_neN, z_lay, z_sz, z_str, z_stI, z_stL, z_stR, eq_self, ↓reduceIte, true_and, and_true, and_self, false_and, and_false, or_self, false_or, or_false, true_or, or_true, not_true_eq_false, not_false_eq_true, Nat.reduceLeDiff, Nat.reduceLT, Nat.reduceAdd, Nat.reduceEqDiff, Nat.reduceMul, Nat.reduceSub, Value.category, Nat.zero_le, beq_self_eq_true]
  · rintro i hi ls σ ⟨y, rfl, rfl⟩
    have u1 := p_unpacked (σ := (I, L, Z)) hn hi vb
    rw [e2 i hi] at u1
    have e4 : num 4 (rgT ch n (rgI ch n c k)) (i + 1) = num 4 (rgT ch n (rgI ch n c k)) i * 4 + ch (rgI ch n c k i) (rgI ch n c k (if i + 1 < n then i + 1 else 0)) := rfl
    by_cases q : i + 1 < n
    · rw [if_pos q] at e4
      have u2 := p_unpacked (σ := (I, L, Z)) hn q vb
      rw [e2 _ q] at u2
      have c1 := p_childOf (I := I) (L := L) (x := rgI ch n c k i) (y := rgI ch n c k (i + 1)) h hT (hc4 i hi) (hc4 _ q)
      have q2 : ¬ n ≤ i + 1 := by omega
      refine ⟨[some (Value.ref (b)), some (Value.int (nI (v))), some (Value.int (nI (n))), some (Value.int (nI (num 4 (rgT ch n (rgI ch n c k)) (i + 1)))), some (Value.int (nI (i + 1))), some (Value.int (nI (i + 1)))], (I, L, Z), ?_, _, rfl, rfl⟩
      rw [e4]
      simp (disch := omega) only [bX5_ringStep_5, kX5_ringStep_27, h.1, q2, u1, u2, c1, e_push, e_pushl, e_iload, e_lload, e_aload, e_istore, e_astore, e_lstore, e_iinc, e_iadd, e_isub, e_imul, e_iand, e_ior, e_ixor, e_ishl, e_ishr, e_iushr, e_idiv, e_irem, e_ladd, e_lsub, e_lmul, e_lcmp, e_mmax, e_mmin, e_i2l, e_l2i, e_i2b, e_i2c, e_dup, e_dup2, e_pop, e_icmp_eq, e_icmp_ne, e_icmp_lt, e_icmp_ge, e_icmp_gt, e_icmp_le, e_if_eq, e_if_ne, e_if_lt, e_if_ge, e_if_gt, e_if_le, e_getI, e_getR, e_putI, e_putZ, e_putR, e_iald, e_bald, e_zald, e_lald, e_aald, e_alen, e_iast, e_bast, e_zast, e_last, e_aast, e_iret, e_zret, e_lret, e_vret, e_obj, e_callV, e_callS, e_callT, e_acpy, e_ldcS, e_dn, e_ag, z_pop, List.getElem?_cons_zero, List.getElem?_cons_succ, List.set_cons_zero, List.set_cons_succ, List.length_cons, List.length_nil, z_nol, Option.map_some, Option.toList_some, Option.toList_none, List.cons_append, List.nil_append, n_lit, n_m1, n_m2, n_m1lt, n_m1le, n_rem, n_div, n_out, n_cl, n_eq, n_le, n_lt, n_add, n_mul, n_sub, n_nle, n_yle, n_nlt, n_ylt, n_neN, z_lay, z_sz, z_str, z_stI, z_stL, z_stR, eq_self, ↓reduceIte, true_and, and_true, and_self, false_and, and_false, or_self, false_or, or_false, true_or, or_true, not_true_eq_false, not_false_eq_true, Nat.reduceLeDiff, Nat.reduceLT, Nat.reduceAdd, Nat.reduceEqDiff, Nat.reduceMul, Nat.reduceSub, Value.category, Nat.zero_le, beq_self_eq_true]
    · rw [if_neg q] at e4
      have u2 := p_unpacked (σ := (I, L, Z)) (i := 0) hn (by omega) vb
      rw [e2 _ (by omega)] at u2
      have c1 := p_childOf (I := I) (L := L) (x := rgI ch n c k i) (y := rgI ch n c k 0) h hT (hc4 i hi) (hc4 _ (by omega))
      have q2 : n ≤ i + 1 := by omega
      refine ⟨[some (Value.ref (b)), some (Value.int (nI (v))), some (Value.int (nI (n))), some (Value.int (nI (num 4 (rgT ch n (rgI ch n c k)) (i + 1)))), some (Value.int (nI (i + 1))), some (Value.int (nI (0)))], (I, L, Z), ?_, _, rfl, rfl⟩
      rw [e4]
      simp (disch := omega) only [bX5_ringStep_5, kX5_ringStep_27, h.1, q2, u1, u2, c1, e_push, e_pushl, e_iload, e_lload, e_aload, e_istore, e_astore, e_lstore, e_iinc, e_iadd, e_isub, e_imul, e_iand, e_ior, e_ixor, e_ishl, e_ishr, e_iushr, e_idiv, e_irem, e_ladd, e_lsub, e_lmul, e_lcmp, e_mmax, e_mmin, e_i2l, e_l2i, e_i2b, e_i2c, e_dup, e_dup2, e_pop, e_icmp_eq, e_icmp_ne, e_icmp_lt, e_icmp_ge, e_icmp_gt, e_icmp_le, e_if_eq, e_if_ne, e_if_lt, e_if_ge, e_if_gt, e_if_le, e_getI, e_getR, e_putI, e_putZ, e_putR, e_iald, e_bald, e_zald, e_lald, e_aald, e_alen, e_iast, e_bast, e_zast, e_last, e_aast, e_iret, e_zret, e_lret, e_vret, e_obj, e_callV, e_callS, e_callT, e_acpy, e_ldcS, e_dn, e_ag, z_pop, List.getElem?_cons_zero, List.getElem?_cons_succ, List.set_cons_zero, List.set_cons_succ, List.length_cons, List.length_nil, z_nol, Option.map_some, Option.toList_some, Option.toList_none, List.cons_append, List.nil_append, n_lit, n_m1, n_m2, n_m1lt, n_m1le, n_rem, n_div, n_out, n_cl, n_eq, n_le, n_lt, n_add, n_mul, n_sub, n_nle, n_yle, n_nlt, n_ylt, n_neN, z_lay, z_sz, z_str, z_stI, z_stL, z_stR, eq_self, ↓reduceIte, true_and, and_true, and_self, false_and, and_false, or_self, false_or, or_false, true_or, or_true, not_true_eq_false, not_false_eq_true, Nat.reduceLeDiff, Nat.reduceLT, Nat.reduceAdd, Nat.reduceEqDiff, Nat.reduceMul, Nat.reduceSub, Value.category, Nat.zero_le, beq_self_eq_true]
theorem p_ringSteps {I : Nat → Nat → Int32} {L : Nat → Nat → Int64} {Z : zZ} {b cb n t nc : Nat} {ch : Nat → Nat → Nat} {c : Nat → Nat} (h : isTab Z b cb) (h4 : nc ≤ 4) (hT : tabI I cb ch) (hch : ∀ a b, a < nc → b < nc → ch a b < nc) (hn : n ≤ 8) (hc : ∀ i, i < n → c i < nc) (ht : t < 2147483648) : fX5_ringSteps [.ref b, .int (nI (pkN ch n c 0)), .int (nI n), .int (nI t)] (I, L, Z) = some (some (.int (nI (pkN ch n c t))), (I, L, Z)) := by
  show kX5_ringSteps_0 [some (Value.ref (b)), some (Value.int (nI (pkN ch n c 0))), some (Value.int (nI (n))), some (Value.int (nI (t))), none, none] [] (I, L, Z) = _
  simp (disch := omega) only [kX5_ringSteps_0, kX5_ringSteps_6, e_push, e_pushl, e_iload, e_lload, e_aload, e_istore, e_astore, e_lstore, e_iinc, e_iadd, e_isub, e_imul, e_iand, e_ior, e_ixor, e_ishl, e_ishr, e_iushr, e_idiv, e_irem, e_ladd, e_lsub, e_lmul, e_lcmp, e_mmax, e_mmin, e_i2l, e_l2i, e_i2b, e_i2c, e_dup, e_dup2, e_pop, e_icmp_eq, e_icmp_ne, e_icmp_lt, e_icmp_ge, e_icmp_gt, e_icmp_le, e_if_eq, e_if_ne, e_if_lt, e_if_ge, e_if_gt, e_if_le, e_getI, e_getR, e_putI, e_putZ, e_putR, e_iald, e_bald, e_zald, e_lald, e_aald, e_alen, e_iast, e_bast, e_zast, e_last, e_aast, e_iret, e_zret, e_lret, e_vret, e_obj, e_callV, e_callS, e_callT, e_acpy, e_ldcS, e_dn, e_ag, z_pop, List.getElem?_cons_zero, List.getElem?_cons_succ, List.set_cons_zero, List.set_cons_succ, List.length_cons, List.length_nil, z_nol, Option.map_some, Option.toList_some, Option.toList_none, List.cons_append, List.nil_append, n_lit, n_m1, n_m2, n_m1lt, n_m1le, n_rem, n_div, n_out, n_cl, n_eq, n_le, n_lt, n_add, n_mul, n_sub, n_nle, n_yle, n_nlt, n_ylt, n_neN, z_lay, z_sz, z_str, z_stI, z_stL, z_stR, eq_self, ↓reduceIte, true_and, and_true, and_self, false_and, and_false, or_self, false_or, or_false, true_or, or_true, not_true_eq_false, not_false_eq_true, Nat.reduceLeDiff, Nat.reduceLT, Nat.reduceAdd, Nat.reduceEqDiff, Nat.reduceMul, Nat.reduceSub, Value.category, Nat.zero_le, beq_self_eq_true]
  refine lp_for (fun k => [some (Value.ref (b)), some (Value.int (nI (pkN ch n c 0))), some (Value.int (nI (n))), some (Value.int (nI (t))), some (Value.int (nI (pkN ch n c k))), some (Value.int (nI (k)))]) (fun _ => (I, L, Z)) t ?_ ?_
  · simp (disch := omega) only [bX5_ringSteps_6, kX5_ringSteps_27, e_push, e_pushl, e_iload, e_lload, e_aload, e_istore, e_astore, e_lstore, e_iinc, e_iadd, e_isub, e_imul, e_iand, e_ior, e_ixor, e_ishl, e_ishr, e_iushr, e_idiv, e_irem, e_ladd, e_lsub, e_lmul, e_lcmp, e_mmax, e_mmin, e_i2l, e_l2i, e_i2b, e_i2c, e_dup, e_dup2, e_pop, e_icmp_eq, e_icmp_ne, e_icmp_lt, e_icmp_ge, e_icmp_gt, e_icmp_le, e_if_eq, e_if_ne, e_if_lt, e_if_ge, e_if_gt, e_if_le, e_getI, e_getR, e_putI, e_putZ, e_putR, e_iald, e_bald, e_zald, e_lald, e_aald, e_alen, e_iast, e_bast, e_zast, e_last, e_aast, e_iret, e_zret, e_lret, e_vret, e_obj, e_callV, e_callS, e_callT, e_acpy, e_ldcS, e_dn, e_ag, z_pop, List.getElem?_cons_zero, List.getElem?_cons_succ, List.set_cons_zero, List.set_cons_succ, List.length_cons, List.length_nil, z_nol, Option.map_some, Option.toList_some, Option.toList_none, List.cons_append, List.nil_append, n_lit, n_m1, n_m2, n_m1lt, n_m1le, n_rem, n_div, n_out, n_cl, n_eq, n_le, n_lt, n_add, n_mul, n_sub, n_nle, n_yle, n_nlt, n_ylt, n_neN, z_lay, z_sz, z_str, z_stI, z_stL, z_stR, eq_self, ↓reduceIte, true_and, and_true, and_self, false_and, and_false, or_self, false_or, or_false, true_or, or_true, not_true_eq_false, not_false_eq_true, Nat.reduceLeDiff, Nat.reduceLT, Nat.reduceAdd, Nat.reduceEqDiff, Nat.reduceMul, Nat.reduceSub, Value.category, Nat.zero_le, beq_self_eq_true]
  · intro k hk
    have a1 := p_ringStep (I := I) (L := L) (k := k) h h4 hT hch hn hc
    simp (disch := omega) only [bX5_ringSteps_6, h.1, a1, e_push, e_pushl, e_iload, e_lload, e_aload, e_istore, e_astore, e_lstore, e_iinc, e_iadd, e_isub, e_imul, e_iand, e_ior, e_ixor, e_ishl, e_ishr, e_iushr, e_idiv, e_irem, e_ladd, e_lsub, e_lmul, e_lcmp, e_mmax, e_mmin, e_i2l, e_l2i, e_i2b, e_i2c, e_dup, e_dup2, e_pop, e_icmp_eq, e_icmp_ne, e_icmp_lt, e_icmp_ge, e_icmp_gt, e_icmp_le, e_if_eq, e_if_ne, e_if_lt, e_if_ge, e_if_gt, e_if_le, e_getI, e_getR, e_putI, e_putZ, e_putR, e_iald, e_bald, e_zald, e_lald, e_aald, e_alen, e_iast, e_bast, e_zast, e_last, e_aast, e_iret, e_zret, e_lret, e_vret, e_obj, e_callV, e_callS, e_callT, e_acpy, e_ldcS, e_dn, e_ag, z_pop, List.getElem?_cons_zero, List.getElem?_cons_succ, List.set_cons_zero, List.set_cons_succ, List.length_cons, List.length_nil, z_nol, Option.map_some, Option.toList_some, Option.toList_none, List.cons_append, List.nil_append, n_lit, n_m1, n_m2, n_m1lt, n_m1le, n_rem, n_div, n_out, n_cl, n_eq, n_le, n_lt, n_add, n_mul, n_sub, n_nle, n_yle, n_nlt, n_ylt, n_neN, z_lay, z_sz, z_str, z_stI, z_stL, z_stR, eq_self, ↓reduceIte, true_and, and_true, and_self, false_and, and_false, or_self, false_or, or_false, true_or, or_true, not_true_eq_false, not_false_eq_true, Nat.reduceLeDiff, Nat.reduceLT, Nat.reduceAdd, Nat.reduceEqDiff, Nat.reduceMul, Nat.reduceSub, Value.category, Nat.zero_le, beq_self_eq_true]
theorem pk_iff {n nc i j : Nat} {ch : Nat → Nat → Nat} {c : Nat → Nat} (h4 : nc ≤ 4) (hch : ∀ a b, a < nc → b < nc → ch a b < nc) (hn : n ≤ 8) (hc : ∀ i, i < n → c i < nc) : (nI (pkN ch n c i) = nI (pkN ch n c j)) = rgE ch n c i j := by
  have hb : ∀ k, pkN ch n c k < 65536 := fun k => by
    have a : pkN ch n c k < 4 ^ n := num_lt (fun i hi => Nat.lt_of_lt_of_le (rgI_lt hch hc k i hi) h4)
    have b := pw_le (b := 4) (n := n) (Nat.le_refl 4) hn
    omega
  have b1 := hb i
  have b2 := hb j
  rw [n_eq (by omega) (by omega)]
  refine propext ⟨fun z => ?_, fun z => num_congr z⟩
  exact num_inj (by omega) (fun s hs => Nat.lt_of_lt_of_le (rgI_lt hch hc i s hs) h4) (fun s hs => Nat.lt_of_lt_of_le (rgI_lt hch hc j s hs) h4) z
