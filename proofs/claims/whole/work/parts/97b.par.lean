/-! parents of a row -/
def bwW (ch : Nat → Nat → Nat) (nc : Nat) (c : Nat → Nat) (n : Nat) : Nat → Nat → Nat
  | 0, _ => 1
  | k + 1, l => smN (fun r => if ch l r = c (n - (k + 1)) then bwW ch nc c n k r else 0) nc
theorem smN_mul (a : Nat) (f : Nat → Nat) : ∀ n, smN (fun r => a * f r) n = a * smN f n
  | 0 => rfl
  | n + 1 => by rw [smN, smN, smN_mul a f n, Nat.mul_add]
theorem smN_cut {f : Nat → Nat} {m : Nat} (h : ∀ r, m ≤ r → f r = 0) : ∀ d, smN f (m + d) = smN f m
  | 0 => rfl
  | d + 1 => by
    show smN f (m + d) + f (m + d) = _
    rw [smN_cut h d, h _ (by omega)]
    rfl
theorem smN_0 : ∀ n, smN (fun _ => 0) n = 0
  | 0 => rfl
  | n + 1 => by rw [smN, smN_0 n]
theorem smN_pos {f : Nat → Nat} : ∀ {n : Nat}, 0 < smN f n ↔ ∃ i, i < n ∧ 0 < f i
  | 0 => ⟨fun z => absurd z (Nat.lt_irrefl 0), fun ⟨i, h, _⟩ => absurd h (Nat.not_lt_zero i)⟩
  | n + 1 => by
    rw [smN]
    constructor
    · intro z
      by_cases q : 0 < f n
      · exact ⟨n, by omega, q⟩
      · obtain ⟨i, h1, h2⟩ := smN_pos.mp (show 0 < smN f n by omega)
        exact ⟨i, by omega, h2⟩
    · rintro ⟨i, h1, h2⟩
      by_cases q : i = n
      · subst q; omega
      · have := smN_pos.mpr ⟨i, show i < n by omega, h2⟩
        omega
theorem bwW_le {ch : Nat → Nat → Nat} {nc : Nat} {c : Nat → Nat} {n : Nat} (h4 : nc ≤ 4) : ∀ k l, bwW ch nc c n k l ≤ 4 ^ k
  | 0, _ => Nat.le_refl 1
  | k + 1, l => by
    rw [bwW]
    refine Nat.le_trans (smN_le (m := 4 ^ k) (fun r hr => ?_)) ?_
    · split
      · exact bwW_le h4 k r
      · exact Nat.zero_le _
    · rw [Nat.pow_succ, Nat.mul_comm]
      exact Nat.mul_le_mul_left _ h4
theorem bwW_b {ch : Nat → Nat → Nat} {nc : Nat} {c : Nat → Nat} {n k l : Nat} (h4 : nc ≤ 4) (hk : k ≤ 8) : bwW ch nc c n k l ≤ 65536 := by
  refine Nat.le_trans (bwW_le h4 k l) ?_
  exact pw_le (Nat.le_refl 4) hk
/-- forwards, as the reference counts -/
def feK (ch : Nat → Nat → Nat) (nc c0 : Nat) (E : Nat → Nat) : Nat → Nat → Nat
  | 0, _ => 0
  | k + 1, r => if r = k % 4 ∧ k / 4 < nc ∧ k % 4 < nc ∧ ch (k / 4) (k % 4) = c0 then feK ch nc c0 E k r + E (k / 4) else feK ch nc c0 E k r
def fwE (ch : Nat → Nat → Nat) (nc : Nat) (c : Nat → Nat) : Nat → Nat → Nat
  | 0, x => if x < nc then 1 else 0
  | i + 1, r => feK ch nc (c i) (fwE ch nc c i) 16 r
def tJ (ch : Nat → Nat → Nat) (nc c0 : Nat) (E W : Nat → Nat) (j : Nat) : Nat := if j / 4 < nc ∧ j % 4 < nc ∧ ch (j / 4) (j % 4) = c0 then E (j / 4) * W (j % 4) else 0
theorem feK_sum {ch : Nat → Nat → Nat} {nc c0 : Nat} {E W : Nat → Nat} : ∀ k, smN (fun r => feK ch nc c0 E k r * W r) 4 = smN (tJ ch nc c0 E W) k
  | 0 => by simp [smN, feK]
  | k + 1 => by
    have ih := feK_sum (ch := ch) (nc := nc) (c0 := c0) (E := E) (W := W) k
    show smN (fun r => feK ch nc c0 E (k + 1) r * W r) 4 = smN (tJ ch nc c0 E W) k + tJ ch nc c0 E W k
    rw [← ih, tJ]
    by_cases q : k / 4 < nc ∧ k % 4 < nc ∧ ch (k / 4) (k % 4) = c0
    · rw [if_pos q]
      have e : ∀ r, feK ch nc c0 E (k + 1) r = if r = k % 4 then feK ch nc c0 E k r + E (k / 4) else feK ch nc c0 E k r := fun r => by
        rw [feK]
        by_cases q2 : r = k % 4
        · rw [if_pos q2, if_pos ⟨q2, q⟩]
        · rw [if_neg q2, if_neg (fun z => q2 z.1)]
      simp only [e]
      rcases (by omega : k % 4 = 0 ∨ k % 4 = 1 ∨ k % 4 = 2 ∨ k % 4 = 3) with m | m | m | m <;> rw [m] <;> simp [smN, Nat.add_mul] <;> omega
    · rw [if_neg q]
      have e : ∀ r, feK ch nc c0 E (k + 1) r = feK ch nc c0 E k r := fun r => by
        rw [feK, if_neg (fun z => q z.2)]
      simp only [e, Nat.add_zero]
theorem smN_4 (f : Nat → Nat) : ∀ m, smN f (4 * m) = smN (fun l => smN (fun r => f (4 * l + r)) 4) m
  | 0 => rfl
  | m + 1 => by
    rw [smN, ← smN_4 f m, show 4 * (m + 1) = 4 * m + 1 + 1 + 1 + 1 by omega]
    simp [smN]
    omega
theorem tJ_sum {ch : Nat → Nat → Nat} {nc c0 : Nat} {E W : Nat → Nat} (h4 : nc ≤ 4) (hE : ∀ l, nc ≤ l → E l = 0) : smN (tJ ch nc c0 E W) 16 = smN (fun l => E l * smN (fun r => if ch l r = c0 then W r else 0) nc) 4 := by
  rw [show 16 = 4 * 4 by omega, smN_4]
  refine smN_congr (fun l hl => ?_)
  rw [← smN_mul]
  by_cases q : l < nc
  · have e : ∀ r, r < 4 → tJ ch nc c0 E W (4 * l + r) = if r < nc then E l * (if ch l r = c0 then W r else 0) else 0 := fun r hr => by
      unfold tJ
      rw [show (4 * l + r) / 4 = l by omega, show (4 * l + r) % 4 = r by omega]
      by_cases q1 : r < nc
      · rw [if_pos q1]
        by_cases q2 : ch l r = c0
        · rw [if_pos ⟨q, q1, q2⟩, if_pos q2]
        · rw [if_neg (fun z => q2 z.2.2), if_neg q2, Nat.mul_zero]
      · rw [if_neg q1, if_neg (fun z => q1 z.2.1)]
    rw [smN_congr e]
    have e2 := smN_cut (f := fun r => if r < nc then E l * (if ch l r = c0 then W r else 0) else 0) (m := nc) (fun r hr => if_neg (by omega)) (4 - nc)
    rw [show nc + (4 - nc) = 4 by omega] at e2
    rw [e2]
    exact smN_congr (fun r hr => if_pos hr)
  · have z := hE l (by omega)
    have e : ∀ r, r < 4 → tJ ch nc c0 E W (4 * l + r) = 0 := fun r hr => by
      unfold tJ
      rw [show (4 * l + r) / 4 = l by omega]
      exact if_neg (fun z => q z.1)
    rw [smN_congr e, smN_0]
    have e3 : ∀ r, r < nc → E l * (if ch l r = c0 then W r else 0) = 0 := fun r _ => by rw [z, Nat.zero_mul]
    rw [smN_congr e3, smN_0]
theorem feK_out {ch : Nat → Nat → Nat} {nc c0 : Nat} {E : Nat → Nat} : ∀ k l, nc ≤ l → feK ch nc c0 E k l = 0
  | 0, _, _ => rfl
  | k + 1, l, h => by
    rw [feK, if_neg (by omega)]
    exact feK_out k l h
theorem fwE_out {ch : Nat → Nat → Nat} {nc : Nat} {c : Nat → Nat} : ∀ i l, nc ≤ l → fwE ch nc c i l = 0
  | 0, _, h => if_neg (by omega)
  | i + 1, l, h => feK_out 16 l h
theorem fw_bw {ch : Nat → Nat → Nat} {nc : Nat} {c : Nat → Nat} {n : Nat} (h4 : nc ≤ 4) : ∀ i, i ≤ n → smN (fun l => fwE ch nc c i l * bwW ch nc c n (n - i) l) 4 = smN (fun l => bwW ch nc c n n l) nc
  | 0, _ => by
    have e : ∀ l, l < 4 → fwE ch nc c 0 l * bwW ch nc c n (n - 0) l = if l < nc then bwW ch nc c n n l else 0 := fun l _ => by
      show (if l < nc then 1 else 0) * _ = _
      by_cases q : l < nc
      · rw [if_pos q, if_pos q, Nat.one_mul, Nat.sub_zero]
      · rw [if_neg q, if_neg q, Nat.zero_mul]
    rw [smN_congr e]
    have e2 := smN_cut (f := fun l => if l < nc then bwW ch nc c n n l else 0) (m := nc) (fun r hr => if_neg (by omega)) (4 - nc)
    rw [show nc + (4 - nc) = 4 by omega] at e2
    rw [e2]
    exact smN_congr (fun r hr => if_pos hr)
  | i + 1, hi => by
    rw [← fw_bw h4 i (by omega)]
    have e1 : (fun l => fwE ch nc c (i + 1) l * bwW ch nc c n (n - (i + 1)) l) = (fun r => feK ch nc (c i) (fwE ch nc c i) 16 r * bwW ch nc c n (n - (i + 1)) r) := rfl
    rw [e1, feK_sum 16, tJ_sum h4 (fwE_out i)]
    refine smN_congr (fun l hl => ?_)
    have e2 : bwW ch nc c n (n - i) l = smN (fun r => if ch l r = c i then bwW ch nc c n (n - (i + 1)) r else 0) nc := by
      rw [show n - i = n - (i + 1) + 1 by omega, bwW, show n - (n - (i + 1) + 1) = i by omega]
    rw [e2]
theorem par_sum {ch : Nat → Nat → Nat} {nc : Nat} {c : Nat → Nat} {n : Nat} (h4 : nc ≤ 4) : fwE ch nc c n 0 + fwE ch nc c n 1 + fwE ch nc c n 2 + fwE ch nc c n 3 = smN (fun l => bwW ch nc c n n l) nc := by
  have := fw_bw (ch := ch) (c := c) (n := n) h4 n (Nat.le_refl n)
  rw [← this, Nat.sub_self]
  simp [smN, bwW]
/-- which colours can stand there -/
def cbK (ch : Nat → Nat → Nat) (nc c0 s : Nat) : Nat → Nat
  | 0 => 0
  | k + 1 => if k / 4 < nc ∧ s / 2 ^ (k % 4) % 2 = 1 ∧ ch (k / 4) (k % 4) = c0 then cbK ch nc c0 s k ||| 2 ^ (k / 4) else cbK ch nc c0 s k
def cbS (ch : Nat → Nat → Nat) (nc : Nat) (c : Nat → Nat) (n : Nat) : Nat → Nat
  | 0 => 2 ^ nc - 1
  | k + 1 => cbK ch nc (c (n - (k + 1))) (cbS ch nc c n k) 16
theorem cbK_lt {ch : Nat → Nat → Nat} {nc c0 s : Nat} : ∀ {k : Nat}, cbK ch nc c0 s k < 2 ^ nc
  | 0 => Nat.two_pow_pos nc
  | k + 1 => by
    rw [cbK]
    split
    · rename_i q
      exact or_lt16 cbK_lt (p2_lt q.1)
    · exact cbK_lt
theorem cbS_lt {ch : Nat → Nat → Nat} {nc : Nat} {c : Nat → Nat} {n : Nat} : ∀ {k : Nat}, cbS ch nc c n k < 2 ^ nc
  | 0 => by have := Nat.two_pow_pos nc; show 2 ^ nc - 1 < 2 ^ nc; omega
  | k + 1 => cbK_lt
theorem cbK_tb {ch : Nat → Nat → Nat} {nc c0 s l : Nat} : ∀ {k : Nat}, (cbK ch nc c0 s k).testBit l = true ↔ ∃ j, j < k ∧ j / 4 = l ∧ l < nc ∧ s.testBit (j % 4) = true ∧ ch l (j % 4) = c0
  | 0 => by simp [cbK]
  | k + 1 => by
    rw [cbK]
    split
    · rename_i q
      rw [Nat.testBit_or, Nat.testBit_two_pow, Bool.or_eq_true, cbK_tb (k := k), decide_eq_true_iff]
      have q1 := tb_iff.mp q.2.1
      constructor
      · rintro (⟨j, h1, h2⟩ | h)
        · exact ⟨j, by omega, h2⟩
        · subst h; exact ⟨k, by omega, rfl, q.1, q1, q.2.2⟩
      · rintro ⟨j, h1, h2⟩
        by_cases e : j = k
        · subst e; exact Or.inr h2.1
        · exact Or.inl ⟨j, by omega, h2⟩
    · rename_i q
      rw [cbK_tb (k := k)]
      constructor
      · rintro ⟨j, h1, h2⟩
        exact ⟨j, by omega, h2⟩
      · rintro ⟨j, h1, h2, h3, h5, h6⟩
        by_cases e : j = k
        · subst e; subst h2; exact absurd ⟨h3, tb_iff.mpr h5, h6⟩ q
        · exact ⟨j, by omega, h2, h3, h5, h6⟩
theorem cbS_tb {ch : Nat → Nat → Nat} {nc : Nat} {c : Nat → Nat} {n : Nat} (h4 : nc ≤ 4) : ∀ k l, (cbS ch nc c n k).testBit l = true ↔ l < nc ∧ 0 < bwW ch nc c n k l
  | 0, l => by
    show (2 ^ nc - 1).testBit l = true ↔ _
    rw [Nat.testBit_two_pow_sub_one, decide_eq_true_iff]
    exact ⟨fun z => ⟨z, Nat.one_pos⟩, fun z => z.1⟩
  | k + 1, l => by
    rw [cbS, cbK_tb, bwW, smN_pos]
    constructor
    · rintro ⟨j, h1, h2, h3, h5, h6⟩
      have := (cbS_tb h4 k (j % 4)).mp h5
      exact ⟨h3, j % 4, this.1, by rw [if_pos h6]; exact this.2⟩
    · rintro ⟨h1, r, h2, h3⟩
      by_cases q : ch l r = c (n - (k + 1))
      · rw [if_pos q] at h3
        refine ⟨4 * l + r, by omega, by omega, h1, ?_, ?_⟩
        · rw [show (4 * l + r) % 4 = r by omega]; exact (cbS_tb h4 k r).mpr ⟨h2, h3⟩
        · rw [show (4 * l + r) % 4 = r by omega]; exact q
      · rw [if_neg q] at h3; omega
/-- the least parents -/
noncomputable def paC (ch : Nat → Nat → Nat) (nc : Nat) (c : Nat → Nat) (n : Nat) : Nat → Nat
  | 0 => (lsP (fun x => 0 < bwW ch nc c n n x) nc).getD 0
  | s + 1 => (lsP (fun x => ch (paC ch nc c n s) x = c s ∧ 0 < bwW ch nc c n (n - (s + 1)) x) nc).getD 0
noncomputable def paN (ch : Nat → Nat → Nat) (nc : Nat) (c : Nat → Nat) (n : Nat) : Nat → Nat
  | 0 => paC ch nc c n 0
  | s + 1 => paN ch nc c n s * nc + paC ch nc c n (s + 1)
theorem lsP_ex {p : Nat → Prop} {n : Nat} (h : ∃ i, i < n ∧ p i) : ∃ w, lsP p n = some w ∧ w < n ∧ p w ∧ ∀ j, j < w → ¬ p j := by
  obtain ⟨i, h1, h2⟩ := h
  obtain ⟨w, w1, w2⟩ := pk_least p ⟨i, h2⟩
  have w3 : w ≤ i := Classical.byContradiction fun z => w2 i (by omega) h2
  exact ⟨w, lsP_some w2 w1 (by omega), by omega, w1, w2⟩
theorem pa_0 {ch : Nat → Nat → Nat} {nc : Nat} {c : Nat → Nat} {n : Nat} (h : 0 < smN (fun l => bwW ch nc c n n l) nc) : paC ch nc c n 0 < nc ∧ 0 < bwW ch nc c n n (paC ch nc c n 0) ∧ ∀ j, j < paC ch nc c n 0 → ¬ 0 < bwW ch nc c n n j := by
  obtain ⟨w, w1, w2, w3, w4⟩ := lsP_ex (p := fun x => 0 < bwW ch nc c n n x) (n := nc) (smN_pos.mp h)
  have e : paC ch nc c n 0 = w := by rw [paC, w1]; rfl
  rw [e]
  exact ⟨w2, w3, w4⟩
theorem pa_s {ch : Nat → Nat → Nat} {nc : Nat} {c : Nat → Nat} {n s : Nat} (hs : s < n) (h : 0 < bwW ch nc c n (n - s) (paC ch nc c n s)) : paC ch nc c n (s + 1) < nc ∧ (ch (paC ch nc c n s) (paC ch nc c n (s + 1)) = c s ∧ 0 < bwW ch nc c n (n - (s + 1)) (paC ch nc c n (s + 1))) ∧ ∀ j, j < paC ch nc c n (s + 1) → ¬ (ch (paC ch nc c n s) j = c s ∧ 0 < bwW ch nc c n (n - (s + 1)) j) := by
  rw [show n - s = n - (s + 1) + 1 by omega, bwW, show n - (n - (s + 1) + 1) = s by omega, smN_pos] at h
  obtain ⟨i, i1, i2⟩ := h
  have i3 : ch (paC ch nc c n s) i = c s ∧ 0 < bwW ch nc c n (n - (s + 1)) i := by
    by_cases q : ch (paC ch nc c n s) i = c s
    · rw [if_pos q] at i2; exact ⟨q, i2⟩
    · rw [if_neg q] at i2; omega
  obtain ⟨w, w1, w2, w3, w4⟩ := lsP_ex (p := fun x => ch (paC ch nc c n s) x = c s ∧ 0 < bwW ch nc c n (n - (s + 1)) x) (n := nc) ⟨i, i1, i3⟩
  have e : paC ch nc c n (s + 1) = w := by rw [paC, w1]; rfl
  rw [e]
  exact ⟨w2, w3, w4⟩
theorem pa_all {ch : Nat → Nat → Nat} {nc : Nat} {c : Nat → Nat} {n : Nat} (h : 0 < smN (fun l => bwW ch nc c n n l) nc) : ∀ s, s ≤ n → paC ch nc c n s < nc ∧ 0 < bwW ch nc c n (n - s) (paC ch nc c n s)
  | 0, _ => ⟨(pa_0 h).1, by rw [Nat.sub_zero]; exact (pa_0 h).2.1⟩
  | s + 1, hs => by
    have := pa_s (ch := ch) (c := c) (n := n) (s := s) (by omega) (pa_all h s (by omega)).2
    exact ⟨this.1, this.2.1.2⟩
