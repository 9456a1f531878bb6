/-! read: the form of a text, faults and places alone -/
def thn (q : Nat × Nat) (g : Nat → Nat × Nat) : Nat × Nat := if q.1 ≠ 0 then q else g q.2
theorem thn_no {q : Nat × Nat} {g : Nat → Nat × Nat} (h : q.1 ≠ 0) : thn q g = q := if_pos h
theorem thn_yes {q : Nat × Nat} {g : Nat → Nat × Nat} (h : q.1 = 0) : thn q g = g q.2 := if_neg (fun z => z h)
theorem thn_0 {i : Nat} {g : Nat → Nat × Nat} : thn (0, i) g = g i := thn_yes rfl
theorem thn_assoc {q : Nat × Nat} {a b : Nat → Nat × Nat} : thn (thn q a) b = thn q (fun i => thn (a i) b) := by
  by_cases h : q.1 = 0
  · rw [thn_yes h, thn_yes (g := fun i => thn (a i) b) h]
  · rw [thn_no h, thn_no h, thn_no h]
theorem thn_id {q : Nat × Nat} : thn q (fun i => (0, i)) = q := by
  by_cases h : q.1 = 0
  · rw [thn_yes h]
    exact Prod.ext h.symm rfl
  · exact thn_no h
def adv (i : Nat) : Nat × Nat := if 400 ≤ i then (2, i) else (0, i + 1)
def must2 (K : Nat → Nat) (k i : Nat) : Nat × Nat := if K i = k then adv i else (1, i)
def leaf2 (K : Nat → Nat) (i : Nat) : Nat × Nat := if K i = 21 ∨ (11 ≤ K i ∧ K i ≤ 19) then adv i else (1, i)
def tl2 (U : Nat → Nat × Nat) (K : Nat → Nat) : Nat → Nat → Nat × Nat
  | 0, j => (0, j)
  | n + 1, j => if sOp (K j) = 0 then (0, j) else thn (adv j) fun j1 => thn (U j1) (tl2 U K n)
def ex2 (U : Nat → Nat × Nat) (K : Nat → Nat) (i : Nat) : Nat × Nat := thn (U i) (tl2 U K 400)
def un2 (K : Nat → Nat) : Nat → Nat → Nat × Nat
  | 0, i => if K i = 40 then (2, i) else leaf2 K i
  | m + 1, i => if K i = 40 then thn (adv i) fun j => thn (ex2 (un2 K m) K j) (must2 K 41) else leaf2 K i
def xe2 (K : Nat → Nat) (i : Nat) : Nat × Nat := ex2 (un2 K 6) K i
def if2 (K : Nat → Nat) (i : Nat) : Nat × Nat := thn (adv i) fun i => thn (xe2 K i) fun i => thn (must2 K 60 i) fun i => thn (xe2 K i) fun i => thn (must2 K 9 i) fun i => thn (xe2 K i) (must2 K 10)
def lw2 (K : Nat → Nat) : Nat → Nat → Nat × Nat
  | 0, i => if K i = 8 then (2, i) else xe2 K i
  | n + 1, i => if K i = 8 then thn (if2 K i) (lw2 K n) else xe2 K i
def seats2 (K : Nat → Nat) : Nat → Nat → Nat × Nat
  | 0, i => if K i = 21 then (2, i) else (0, i)
  | n + 1, i => if K i = 21 then thn (adv i) (seats2 K n) else (0, i)
def row2 (K : Nat → Nat) (i : Nat) : Nat × Nat := thn (must2 K 20 i) fun i => thn (must2 K 21 i) (seats2 K 7)
def num2 (K : Nat → Nat) : Nat → Nat → Nat × Nat
  | 0, i => (0, i)
  | c + 1, i => thn (must2 K 21 i) (num2 K c)
def body2 (K : Nat → Nat) (k i : Nat) : Nat × Nat := if k = 2 then row2 K i else if 3 ≤ k ∧ k ≤ 6 then thn (must2 K 61 i) (lw2 K 4) else num2 K (if k = 1 then 3 else 1) i
def tell2 (K : Nat → Nat) (nch nrow i : Nat) : Nat × Nat := if (K i = 1 ∧ 20 ≤ nch) ∨ (K i = 2 ∧ 4 ≤ nrow) then (2, i) else if 7 < K i then (1, i) else thn (adv i) fun j => thn (body2 K (K i) j) (must2 K 59)
def tells2 (K : Nat → Nat) : Nat → Nat → Nat → Nat → Nat × Nat
  | 0, _, _, i => (0, i)
  | n + 1, nch, nrow, i => if K i = 22 then (0, i) else thn (tell2 K nch nrow i) (tells2 K n (nch + if K i = 1 then 1 else 0) (nrow + if K i = 2 then 1 else 0))
/-- from i on, nothing but what p allows was passed -/
def spn (p : Nat → Prop) (K : Nat → Nat) (i : Nat) (q : Nat × Nat) : Prop := q.1 < 3 ∧ i ≤ q.2 ∧ q.2 ≤ 400 ∧ ∀ k, i ≤ k → k < q.2 → p (K k)
theorem spn_thn {p : Nat → Prop} {K : Nat → Nat} {i : Nat} {q : Nat × Nat} {g : Nat → Nat × Nat} (h : spn p K i q) (hg : ∀ j, j ≤ 400 → spn p K j (g j)) : spn p K i (thn q g) := by
  by_cases e : q.1 = 0
  · rw [thn_yes e]
    obtain ⟨a1, a2, a3, a4⟩ := h
    obtain ⟨b1, b2, b3, b4⟩ := hg q.2 a3
    refine ⟨b1, by omega, b3, fun k k1 k2 => ?_⟩
    by_cases z : k < q.2
    · exact a4 k k1 z
    · exact b4 k (by omega) k2
  · rw [thn_no e]
    exact h
theorem spn_at {p : Nat → Prop} {K : Nat → Nat} {i f : Nat} (hf : f < 3) (hi : i ≤ 400) : spn p K i (f, i) := ⟨hf, Nat.le_refl _, hi, fun k k1 k2 => absurd k2 (by have k2 : k < i := k2; omega)⟩
theorem spn_adv {p : Nat → Prop} {K : Nat → Nat} {i : Nat} (hp : p (K i)) (hi : i ≤ 400) : spn p K i (adv i) := by
  unfold adv
  by_cases g : 400 ≤ i
  · rw [if_pos g]
    exact spn_at (by decide) hi
  · rw [if_neg g]
    refine ⟨by show 0 < 3; decide, Nat.le_succ _, by show i + 1 ≤ 400; omega, fun k k1 k2 => ?_⟩
    have k2 : k < i + 1 := k2
    rw [show k = i by omega]
    exact hp
theorem spn_must {p : Nat → Prop} {K : Nat → Nat} {k : Nat} (hp : p k) : ∀ i, i ≤ 400 → spn p K i (must2 K k i) := by
  intro i hi
  unfold must2
  by_cases g : K i = k
  · rw [if_pos g]
    exact spn_adv (by rw [g]; exact hp) hi
  · rw [if_neg g]
    exact spn_at (by decide) hi
theorem sOp_ne {k : Nat} (h : sOp k ≠ 0) : k = 43 ∨ k = 45 ∨ k = 42 ∨ k = 47 := by
  unfold sOp at h
  split at h
  · omega
  · split at h
    · omega
    · split at h
      · omega
      · split at h
        · omega
        · exact absurd rfl h
/-- neither the end, nor what is none, nor a semicolon -/
def inn (k : Nat) : Prop := k ≠ 22 ∧ k ≠ 23 ∧ k ≠ 59
def inn0 (k : Nat) : Prop := k ≠ 22 ∧ k ≠ 23
theorem spn_leaf {K : Nat → Nat} : ∀ i, i ≤ 400 → spn inn K i (leaf2 K i) := by
  intro i hi
  unfold leaf2
  by_cases g : K i = 21 ∨ (11 ≤ K i ∧ K i ≤ 19)
  · rw [if_pos g]
    exact spn_adv (by unfold inn; omega) hi
  · rw [if_neg g]
    exact spn_at (by decide) hi
theorem spn_tl {K : Nat → Nat} {U : Nat → Nat × Nat} (hU : ∀ i, i ≤ 400 → spn inn K i (U i)) : ∀ n j, j ≤ 400 → spn inn K j (tl2 U K n j)
  | 0, j, hj => spn_at (by decide) hj
  | n + 1, j, hj => by
    rw [tl2]
    by_cases g : sOp (K j) = 0
    · rw [if_pos g]
      exact spn_at (by decide) hj
    · rw [if_neg g]
      have := sOp_ne g
      exact spn_thn (spn_adv (by unfold inn; omega) hj) fun j1 h1 => spn_thn (hU j1 h1) fun j2 h2 => spn_tl hU n j2 h2
theorem spn_ex {K : Nat → Nat} {U : Nat → Nat × Nat} (hU : ∀ i, i ≤ 400 → spn inn K i (U i)) : ∀ i, i ≤ 400 → spn inn K i (ex2 U K i) := fun i hi => spn_thn (hU i hi) fun j hj => spn_tl hU 400 j hj
theorem spn_un {K : Nat → Nat} : ∀ m i, i ≤ 400 → spn inn K i (un2 K m i)
  | 0, i, hi => by
    rw [un2]
    split
    · exact spn_at (by decide) hi
    · exact spn_leaf i hi
  | m + 1, i, hi => by
    rw [un2]
    by_cases g : K i = 40
    · rw [if_pos g]
      exact spn_thn (spn_adv (by unfold inn; omega) hi) fun j hj => spn_thn (spn_ex (spn_un m) j hj) (spn_must (by unfold inn; omega))
    · rw [if_neg g]
      exact spn_leaf i hi
theorem spn_e {K : Nat → Nat} : ∀ i, i ≤ 400 → spn inn K i (xe2 K i) := spn_ex (spn_un 6)
theorem spn_lw {K : Nat → Nat} : ∀ n i, i ≤ 400 → spn inn K i (lw2 K n i)
  | 0, i, hi => by
    rw [lw2]
    split
    · exact spn_at (by decide) hi
    · exact spn_e i hi
  | n + 1, i, hi => by
    rw [lw2]
    by_cases g : K i = 8
    · rw [if_pos g]
      refine spn_thn ?_ (spn_lw n)
      exact spn_thn (spn_adv (by unfold inn; omega) hi) fun j hj => spn_thn (spn_e j hj) fun j hj => spn_thn (spn_must (by unfold inn; omega) j hj) fun j hj => spn_thn (spn_e j hj) fun j hj => spn_thn (spn_must (by unfold inn; omega) j hj) fun j hj => spn_thn (spn_e j hj) (spn_must (by unfold inn; omega))
    · rw [if_neg g]
      exact spn_e i hi
theorem spn_seats {K : Nat → Nat} : ∀ n i, i ≤ 400 → spn inn K i (seats2 K n i)
  | 0, i, hi => by
    rw [seats2]
    split
    · exact spn_at (by decide) hi
    · exact spn_at (by decide) hi
  | n + 1, i, hi => by
    rw [seats2]
    by_cases g : K i = 21
    · rw [if_pos g]
      exact spn_thn (spn_adv (by unfold inn; omega) hi) (spn_seats n)
    · rw [if_neg g]
      exact spn_at (by decide) hi
theorem spn_row {K : Nat → Nat} : ∀ i, i ≤ 400 → spn inn K i (row2 K i) := fun i hi => spn_thn (spn_must (by unfold inn; omega) i hi) fun j hj => spn_thn (spn_must (by unfold inn; omega) j hj) (spn_seats 7)
theorem spn_num {K : Nat → Nat} : ∀ c i, i ≤ 400 → spn inn K i (num2 K c i)
  | 0, i, hi => spn_at (by decide) hi
  | c + 1, i, hi => spn_thn (spn_must (by unfold inn; omega) i hi) (spn_num c)
theorem spn_body {K : Nat → Nat} (k : Nat) : ∀ i, i ≤ 400 → spn inn K i (body2 K k i) := by
  intro i hi
  unfold body2
  by_cases g : k = 2
  · rw [if_pos g]
    exact spn_row i hi
  · rw [if_neg g]
    by_cases g2 : 3 ≤ k ∧ k ≤ 6
    · rw [if_pos g2]
      exact spn_thn (spn_must (by unfold inn; omega) i hi) (spn_lw 4)
    · rw [if_neg g2]
      exact spn_num _ i hi
theorem spn.weak {p q : Nat → Prop} {K : Nat → Nat} {i : Nat} {r : Nat × Nat} (h : spn p K i r) (hpq : ∀ k, p k → q k) : spn q K i r := ⟨h.1, h.2.1, h.2.2.1, fun k k1 k2 => hpq _ (h.2.2.2 k k1 k2)⟩
theorem spn_tell {K : Nat → Nat} {nch nrow : Nat} : ∀ i, i ≤ 400 → spn inn0 K i (tell2 K nch nrow i) := by
  intro i hi
  unfold tell2
  by_cases g : (K i = 1 ∧ 20 ≤ nch) ∨ (K i = 2 ∧ 4 ≤ nrow)
  · rw [if_pos g]
    exact spn_at (by decide) hi
  · rw [if_neg g]
    by_cases g2 : 7 < K i
    · rw [if_pos g2]
      exact spn_at (by decide) hi
    · rw [if_neg g2]
      exact spn_thn (spn_adv (by unfold inn0; omega) hi) fun j hj => spn_thn ((spn_body (K i) j hj).weak fun k hk => ⟨hk.1, hk.2.1⟩) (spn_must (by unfold inn0; omega))
/-- tell by tell, at least three tokens each -/
theorem adv_lt {i : Nat} (h : (adv i).1 = 0) : (adv i).2 = i + 1 ∧ i < 400 := by
  unfold adv at h ⊢
  by_cases g : 400 ≤ i
  · rw [if_pos g] at h
    cases h
  · rw [if_neg g]
    exact ⟨rfl, by omega⟩
theorem thn_ok {q : Nat × Nat} {g : Nat → Nat × Nat} (h : (thn q g).1 = 0) : q.1 = 0 ∧ (g q.2).1 = 0 ∧ thn q g = g q.2 := by
  by_cases e : q.1 = 0
  · rw [thn_yes e] at h ⊢
    exact ⟨e, h, rfl⟩
  · rw [thn_no e] at h
    exact absurd h e
theorem must_ok {K : Nat → Nat} {k i : Nat} (h : (must2 K k i).1 = 0) : K i = k ∧ (must2 K k i).2 = i + 1 ∧ i < 400 ∧ must2 K k i = (0, i + 1) := by
  unfold must2 at h ⊢
  by_cases g : K i = k
  · rw [if_pos g] at h ⊢
    obtain ⟨a, b⟩ := adv_lt h
    exact ⟨g, a, b, Prod.ext h a⟩
  · rw [if_neg g] at h
    cases h
theorem tell_gt {K : Nat → Nat} {nch nrow i : Nat} (h : (tell2 K nch nrow i).1 = 0) (hi : i ≤ 400) : i < (tell2 K nch nrow i).2 := by
  have hs := spn_tell (K := K) (nch := nch) (nrow := nrow) i hi
  unfold tell2 at h hs ⊢
  by_cases g : (K i = 1 ∧ 20 ≤ nch) ∨ (K i = 2 ∧ 4 ≤ nrow)
  · rw [if_pos g] at h
    cases h
  · rw [if_neg g] at h hs ⊢
    by_cases g2 : 7 < K i
    · rw [if_pos g2] at h
      cases h
    · rw [if_neg g2] at h hs ⊢
      obtain ⟨a1, a2, a3⟩ := thn_ok h
      obtain ⟨b1, b2⟩ := adv_lt a1
      rw [a3, b1]
      have hs2 := spn_thn ((spn_body (K := K) (K i) (i + 1) (by omega)).weak (q := inn0) fun k hk => ⟨hk.1, hk.2.1⟩) (spn_must (p := inn0) (k := 59) (by unfold inn0; omega))
      exact hs2.2.1
