/-! read: what the reference knows after some tells -/
def lwA (J : Nat → Nat → Int32) (M sd : Nat) (K W : Nat → Nat) (b c s k : Nat) : Prop := (s = 0 ∧ J (M + 17) (4 * sd + k) = nI 0 ∧ J (M + 18) (4 * sd + k) = nI 0) ∨ (s ≠ 0 ∧ s ≤ 400 ∧ ∃ j f bs, sLw K W 4 s = (0, j, bs) ∧ J (M + 17) (4 * sd + k) = nI f ∧ J (M + 18) (4 * sd + k) = nI (f + bs.length) ∧ 130 * sd ≤ f ∧ f + bs.length ≤ b ∧ ∀ y r, bs[y]? = some r → brW J M (f + y) r (420 * sd) c)
def rrA (J : Nat → Nat → Int32) (L : Nat → Nat → Int64) (M sd : Nat) (K W : Nat → Nat) (b c : Nat) (A : Nat → Nat) : Prop := J (M + 9) sd = nI (A 0) ∧ J (M + 12) sd = nI (A 1) ∧ J (M + 16) sd = nI (A 3) ∧ (∀ k, k < 16 → J (M + 11) (16 * sd + k) = oN (A (10 + k))) ∧ (∀ r, r < A 2 → J (M + 14) (4 * sd + r) = nI (A (30 + r))) ∧ (∀ r i, r < A 2 → i < A (30 + r) → J (M + 15) (8 * (4 * sd + r) + i) = nI (A (50 + (r * 8 + i)))) ∧ (∀ r, r < A 2 → L (M + 8) r = L (M + 6) (A (40 + r))) ∧ ∀ k, k < 4 → lwA J M sd K W b c (A (100 + k)) k
def tiB (J : Nat → Nat → Int32) (M sd i nch nrow b c : Nat) : Prop := J M 19 = nI sd ∧ sd < 2 ∧ J M 12 = nI 0 ∧ J (M + 10) sd = nI nch ∧ nch ≤ 20 ∧ J (M + 13) sd = nI nrow ∧ nrow ≤ 4 ∧ J M 20 = nI nrow ∧ (∃ g, g < 10000 ∧ J (M + 12) sd = nI g) ∧ J M 32 = nI b ∧ 130 * sd ≤ b ∧ 4 * b ≤ 520 * sd + i ∧ J M 38 = nI c ∧ 420 * sd ≤ c ∧ c ≤ 420 * sd + i
def TI (J : Nat → Nat → Int32) (L : Nat → Nat → Int64) (M : Nat) (S : Nat → Nat) (sd : Nat) (K W : Nat → Nat) (i nch nrow b c : Nat) (p : (Nat × Nat) × (Nat → Nat)) : Prop := okQ J M i ∧ tiB J M sd i nch nrow b c ∧ wrS J M S p.1 ∧ (p.1.1 ≠ 0 → p.1.2 < i) ∧ (p.1.1 = 0 → rrA J L M sd K W b c p.2)
noncomputable def stp (K W : Nat → Nat) (N : Nat → Nat → Prop) (i : Nat) (p : (Nat × Nat) × (Nat → Nat)) : (Nat × Nat) × (Nat → Nat) := if p.1.1 ≠ 0 then p else (((mTell K W N i p.2).1, (mTell K W N i p.2).2.1), (mTell K W N i p.2).2.2)
theorem stp_n {K W : Nat → Nat} {N : Nat → Nat → Prop} {i : Nat} {p : (Nat × Nat) × (Nat → Nat)} (h : p.1.1 ≠ 0) : stp K W N i p = p := if_pos h
theorem stp_y {K W : Nat → Nat} {N : Nat → Nat → Prop} {i : Nat} {p : (Nat × Nat) × (Nat → Nat)} (h : p.1.1 = 0) : stp K W N i p = (((mTell K W N i p.2).1, (mTell K W N i p.2).2.1), (mTell K W N i p.2).2.2) := if_neg (fun z => z h)
def pTl (M sd a k : Nat) : Prop := (a = M ∧ (k = 11 ∨ k = 12 ∨ k = 13 ∨ k = 14 ∨ k = 15 ∨ k = 16 ∨ k = 20 ∨ k = 32 ∨ k = 38 ∨ k = 42)) ∨ a = M + 26 ∨ ((a = M + 24 ∨ a = M + 25) ∧ 420 * sd ≤ k ∧ k < 420 * sd + 420) ∨ (M + 19 ≤ a ∧ a ≤ M + 23 ∧ 130 * sd ≤ k ∧ k < 130 * sd + 130) ∨ ((a = M + 9 ∨ a = M + 10 ∨ a = M + 12 ∨ a = M + 13 ∨ a = M + 16) ∧ k = sd) ∨ (a = M + 11 ∧ 16 * sd ≤ k ∧ k < 16 * sd + 16) ∨ ((a = M + 14 ∨ a = M + 17 ∨ a = M + 18) ∧ 4 * sd ≤ k ∧ k < 4 * sd + 4) ∨ (a = M + 15 ∧ 32 * sd ≤ k ∧ k < 32 * sd + 32)
theorem pT_M {M sd k : Nat} (h : k = 11 ∨ k = 12 ∨ k = 13 ∨ k = 14 ∨ k = 15 ∨ k = 16 ∨ k = 20 ∨ k = 32 ∨ k = 38 ∨ k = 42) : pTl M sd M k := Or.inl ⟨rfl, h⟩
theorem pT_1 {M sd a : Nat} (h : a = M + 9 ∨ a = M + 10 ∨ a = M + 12 ∨ a = M + 13 ∨ a = M + 16) : pTl M sd a sd := Or.inr (Or.inr (Or.inr (Or.inr (Or.inl ⟨h, rfl⟩))))
theorem pT_11 {M sd k : Nat} (h1 : 16 * sd ≤ k) (h2 : k < 16 * sd + 16) : pTl M sd (M + 11) k := Or.inr (Or.inr (Or.inr (Or.inr (Or.inr (Or.inl ⟨rfl, h1, h2⟩)))))
theorem pT_4 {M sd a k : Nat} (h : a = M + 14 ∨ a = M + 17 ∨ a = M + 18) (h1 : 4 * sd ≤ k) (h2 : k < 4 * sd + 4) : pTl M sd a k := Or.inr (Or.inr (Or.inr (Or.inr (Or.inr (Or.inr (Or.inl ⟨h, h1, h2⟩))))))
theorem pT_15 {M sd k : Nat} (h1 : 32 * sd ≤ k) (h2 : k < 32 * sd + 32) : pTl M sd (M + 15) k := Or.inr (Or.inr (Or.inr (Or.inr (Or.inr (Or.inr (Or.inr ⟨rfl, h1, h2⟩))))))
theorem pT_n {M sd k : Nat} (h : k ≠ 11 ∧ k ≠ 12 ∧ k ≠ 13 ∧ k ≠ 14 ∧ k ≠ 15 ∧ k ≠ 16 ∧ k ≠ 20 ∧ k ≠ 32 ∧ k ≠ 38 ∧ k ≠ 42) : ¬ pTl M sd M k := by
  rintro (⟨_, z⟩ | z | ⟨z, _⟩ | ⟨z, _⟩ | ⟨z, _⟩ | ⟨z, _⟩ | ⟨z, _⟩ | ⟨z, _⟩) <;> omega
theorem pP_T {M sd a k : Nat} (h : pP M a k) : pTl M sd a k := Or.inl ⟨h.1, by have := h.2; omega⟩
theorem pB_T {M sd a k : Nat} (h : pB M a k) : pTl M sd a k := Or.inl ⟨h.1, by have := h.2; omega⟩
theorem pC_T {M sd a k : Nat} (h : pC M sd a k) : pTl M sd a k := h.elim pB_T (fun z => by rw [z.2]; exact pT_1 (by omega))
theorem pT_t {M sd : Nat} : ∀ a k, pTl M sd a k → a ≠ M + 3 ∧ a ≠ M + 4 ∧ a ≠ M + 5 := fun a k h => by rcases h with ⟨z, _⟩ | z | ⟨z, _⟩ | ⟨z, _⟩ | ⟨z, _⟩ | ⟨z, _⟩ | ⟨z, _⟩ | ⟨z, _⟩ <;> omega
/-- what one tell does -/
def tlR (I : Nat → Nat → Int32) (L : Nat → Nat → Int64) (J : Nat → Nat → Int32) (L' : Nat → Nat → Int64) (M : Nat) (S : Nat → Nat) (sd : Nat) (K W : Nat → Nat) (N : Nat → Nat → Prop) (i nch nrow : Nat) (p : (Nat × Nat) × (Nat → Nat)) : Prop := pqs J M S (tell2 K nch nrow i) ∧ ((tell2 K nch nrow i).1 = 0 → ∃ b c, TI J L' M S sd K W (tell2 K nch nrow i).2 (nch + if K i = 1 then 1 else 0) (nrow + if K i = 2 then 1 else 0) b c (stp K W N i p)) ∧ frm (pTl M sd) I J ∧ ∀ a, a ≠ M + 8 → L' a = L a
theorem lwA.kept {P : Nat → Nat → Prop} {J X : Nat → Nat → Int32} {M sd b c b' c' s k : Nat} {K W : Nat → Nat} (h : lwA J M sd K W b c s k) (hf : frm P J X) (h1 : ¬ P (M + 17) (4 * sd + k)) (h2 : ¬ P (M + 18) (4 * sd + k)) (h3 : ∀ x, x < c → ¬ P (M + 24) x ∧ ¬ P (M + 25) x) (h4 : ∀ a x, M + 19 ≤ a → a ≤ M + 23 → x < b → ¬ P a x) (hb : b ≤ b') (hc : c ≤ c') : lwA X M sd K W b' c' s k := by
  rcases h with ⟨a1, a2, a3⟩ | ⟨a1, a2, j, f, bs, a3, a4, a5, a6, a7, a8⟩
  · exact Or.inl ⟨a1, by rw [hf _ _ h1]; exact a2, by rw [hf _ _ h2]; exact a3⟩
  · refine Or.inr ⟨a1, a2, j, f, bs, a3, by rw [hf _ _ h1]; exact a4, by rw [hf _ _ h2]; exact a5, a6, by omega, fun y r hr => ?_⟩
    have hy : y < bs.length := (List.getElem?_eq_some_iff.mp hr).1
    exact ((a8 y r hr).kept hf h3 (fun a u1 u2 => h4 a _ u1 u2 (by omega))).weak (Nat.le_refl _) hc
theorem rrA.kept {P : Nat → Nat → Prop} {J X : Nat → Nat → Int32} {L : Nat → Nat → Int64} {M sd b c : Nat} {K W A : Nat → Nat} (h : rrA J L M sd K W b c A) (hf : frm P J X) (hP : ∀ a k, P a k → a = M ∨ a = M + 26 ∨ a = M + 10) : rrA X L M sd K W b c A := by
  have e : ∀ a k, a ≠ M → a ≠ M + 26 → a ≠ M + 10 → X a k = J a k := fun a k h1 h2 h3 => hf a k (fun z => by have := hP a k z; omega)
  obtain ⟨r0, r1, r2, r3, r4, r5, r6, r7⟩ := h
  refine ⟨by rw [e _ _ (by omega) (by omega) (by omega)]; exact r0, by rw [e _ _ (by omega) (by omega) (by omega)]; exact r1, by rw [e _ _ (by omega) (by omega) (by omega)]; exact r2, fun k hk => ?_, fun r hr => ?_, fun r i hr hi => ?_, r6, fun k hk => ?_⟩
  · rw [e _ _ (by omega) (by omega) (by omega)]; exact r3 k hk
  · rw [e _ _ (by omega) (by omega) (by omega)]; exact r4 r hr
  · rw [e _ _ (by omega) (by omega) (by omega)]; exact r5 r i hr hi
  · exact (r7 k hk).kept hf (fun z => by have := hP _ _ z; omega) (fun z => by have := hP _ _ z; omega) (fun x _ => ⟨fun z => by have := hP _ _ z; omega, fun z => by have := hP _ _ z; omega⟩) (fun a x _ _ _ z => by have := hP _ _ z; omega) (Nat.le_refl _) (Nat.le_refl _)
theorem rrA.nc {J : Nat → Nat → Int32} {L : Nat → Nat → Int64} {M sd b c x : Nat} {K W A : Nat → Nat} (h : rrA J L M sd K W b c A) (hA : mOK A) : rrA (z_up J (M + 9) sd (nI x)) L M sd K W b c (fUp A 0 x) := by
  have a2 := hA.2.2.2.1
  have l8 := hA.2.2.2.2.2.2.1
  have e : ∀ a k, a ≠ M + 9 → z_up J (M + 9) sd (nI x) a k = J a k := fun a k ha => by rw [zup_off ha]
  have f : ∀ k, k ≠ 0 → fUp A 0 x k = A k := fun k hk => fUp_ne hk
  obtain ⟨r0, r1, r2, r3, r4, r5, r6, r7⟩ := h
  refine ⟨by rw [zup_at, fUp_at], by rw [e _ _ (by omega), f _ (by omega)]; exact r1, by rw [e _ _ (by omega), f _ (by omega)]; exact r2, fun k hk => ?_, fun r hr => ?_, fun r i hr hi => ?_, fun r hr => ?_, fun k hk => ?_⟩
  · rw [e _ _ (by omega), f _ (by omega)]; exact r3 k hk
  · rw [f _ (by omega)] at hr
    rw [e _ _ (by omega), f _ (by omega)]; exact r4 r hr
  · rw [f _ (by omega)] at hr hi
    rw [e _ _ (by omega), f _ (by omega)]; exact r5 r i hr hi
  · rw [f _ (by omega)] at hr
    rw [f _ (by omega)]; exact r6 r hr
  · rw [f _ (by omega)]
    exact (r7 k hk).kept (P := fun a _ => a = M + 9) ((frm.refl _ _).up rfl) (by omega) (by omega) (fun x _ => by omega) (fun a x _ _ _ => by omega) (Nat.le_refl _) (Nat.le_refl _)
theorem rrA.gr {J : Nat → Nat → Int32} {L : Nat → Nat → Int64} {M sd b c x : Nat} {K W A : Nat → Nat} (h : rrA J L M sd K W b c A) (hA : mOK A) : rrA (z_up J (M + 12) sd (nI x)) L M sd K W b c (fUp A 1 x) := by
  have a2 := hA.2.2.2.1
  have l8 := hA.2.2.2.2.2.2.1
  have e : ∀ a k, a ≠ M + 12 → z_up J (M + 12) sd (nI x) a k = J a k := fun a k ha => by rw [zup_off ha]
  have f : ∀ k, k ≠ 1 → fUp A 1 x k = A k := fun k hk => fUp_ne hk
  obtain ⟨r0, r1, r2, r3, r4, r5, r6, r7⟩ := h
  refine ⟨by rw [e _ _ (by omega), f _ (by omega)]; exact r0, by rw [zup_at, fUp_at], by rw [e _ _ (by omega), f _ (by omega)]; exact r2, fun k hk => ?_, fun r hr => ?_, fun r i hr hi => ?_, fun r hr => ?_, fun k hk => ?_⟩
  · rw [e _ _ (by omega), f _ (by omega)]; exact r3 k hk
  · rw [f _ (by omega)] at hr
    rw [e _ _ (by omega), f _ (by omega)]; exact r4 r hr
  · rw [f _ (by omega)] at hr hi
    rw [e _ _ (by omega), f _ (by omega)]; exact r5 r i hr hi
  · rw [f _ (by omega)] at hr
    rw [f _ (by omega)]; exact r6 r hr
  · rw [f _ (by omega)]
    exact (r7 k hk).kept (P := fun a _ => a = M + 12) ((frm.refl _ _).up rfl) (by omega) (by omega) (fun x _ => by omega) (fun a x _ _ _ => by omega) (Nat.le_refl _) (Nat.le_refl _)
theorem rrA.seed {J : Nat → Nat → Int32} {L : Nat → Nat → Int64} {M sd b c x : Nat} {K W A : Nat → Nat} (h : rrA J L M sd K W b c A) (hA : mOK A) : rrA (z_up J (M + 16) sd (nI x)) L M sd K W b c (fUp A 3 x) := by
  have a2 := hA.2.2.2.1
  have l8 := hA.2.2.2.2.2.2.1
  have e : ∀ a k, a ≠ M + 16 → z_up J (M + 16) sd (nI x) a k = J a k := fun a k ha => by rw [zup_off ha]
  have f : ∀ k, k ≠ 3 → fUp A 3 x k = A k := fun k hk => fUp_ne hk
  obtain ⟨r0, r1, r2, r3, r4, r5, r6, r7⟩ := h
  refine ⟨by rw [e _ _ (by omega), f _ (by omega)]; exact r0, by rw [e _ _ (by omega), f _ (by omega)]; exact r1, by rw [zup_at, fUp_at], fun k hk => ?_, fun r hr => ?_, fun r i hr hi => ?_, fun r hr => ?_, fun k hk => ?_⟩
  · rw [e _ _ (by omega), f _ (by omega)]; exact r3 k hk
  · rw [f _ (by omega)] at hr
    rw [e _ _ (by omega), f _ (by omega)]; exact r4 r hr
  · rw [f _ (by omega)] at hr hi
    rw [e _ _ (by omega), f _ (by omega)]; exact r5 r i hr hi
  · rw [f _ (by omega)] at hr
    rw [f _ (by omega)]; exact r6 r hr
  · rw [f _ (by omega)]
    exact (r7 k hk).kept (P := fun a _ => a = M + 16) ((frm.refl _ _).up rfl) (by omega) (by omega) (fun x _ => by omega) (fun a x _ _ _ => by omega) (Nat.le_refl _) (Nat.le_refl _)
theorem rrA.col {J X : Nat → Nat → Int32} {L : Nat → Nat → Int64} {M sd b c g : Nat} {K W A : Nat → Nat} (h : rrA J L M sd K W b c A) (hA : mOK A) (hf : frm (pC M sd) J X) (hg : X (M + 12) sd = nI g) : rrA X L M sd K W b c (fUp A 1 g) := by
  refine (h.gr (x := g) hA).kept (P := pB M) (fun a k hk => ?_) (fun a k z => Or.inl z.1)
  by_cases z : a = M + 12 ∧ k = sd
  · rw [z.1, z.2, hg, zup_at]
  · have e : z_up J (M + 12) sd (nI g) a k = J a k := if_neg z
    rw [e]
    exact hf a k (fun y => y.elim hk z)
theorem rrA.child {J : Nat → Nat → Int32} {L : Nat → Nat → Int64} {M sd b c x j : Nat} {K W A : Nat → Nat} (h : rrA J L M sd K W b c A) (hA : mOK A) (hj : j < 16) : rrA (z_up J (M + 11) (16 * sd + j) (nI x)) L M sd K W b c (fUp A (10 + j) (x + 1)) := by
  have a2 := hA.2.2.2.1
  have l8 := hA.2.2.2.2.2.2.1
  have e : ∀ a k, a ≠ M + 11 → z_up J (M + 11) (16 * sd + j) (nI x) a k = J a k := fun a k ha => by rw [zup_off ha]
  have f : ∀ k, k ≠ 10 + j → fUp A (10 + j) (x + 1) k = A k := fun k hk => fUp_ne hk
  obtain ⟨r0, r1, r2, r3, r4, r5, r6, r7⟩ := h
  refine ⟨by rw [e _ _ (by omega), f _ (by omega)]; exact r0, by rw [e _ _ (by omega), f _ (by omega)]; exact r1, by rw [e _ _ (by omega), f _ (by omega)]; exact r2, fun k hk => ?_, fun r hr => ?_, fun r i hr hi => ?_, fun r hr => ?_, fun k hk => ?_⟩
  · by_cases g : k = j
    · subst g
      rw [zup_at, fUp_at, oN, if_neg (by omega), Nat.add_sub_cancel]
    · rw [zup_ne (by omega), f _ (by omega)]; exact r3 k hk
  · rw [f _ (by omega)] at hr
    rw [e _ _ (by omega), f _ (by omega)]; exact r4 r hr
  · rw [f _ (by omega)] at hr hi
    rw [e _ _ (by omega), f _ (by omega)]; exact r5 r i hr hi
  · rw [f _ (by omega)] at hr
    rw [f _ (by omega)]; exact r6 r hr
  · rw [f _ (by omega)]
    exact (r7 k hk).kept (P := fun a _ => a = M + 11) ((frm.refl _ _).up rfl) (by omega) (by omega) (fun x _ => by omega) (fun a x _ _ _ => by omega) (Nat.le_refl _) (Nat.le_refl _)
theorem e_sw20 {α : Type} {ks : List (zK α)} {kd : zK α} {ls : zL} {r : List Value} {σ : zS} {k : Nat} (hk : k < 1000) : q_sw 20 ks kd ls (.int (nI (20 + k)) :: r) σ = match ks[k]? with
    | some q => q ls r σ
    | none => kd ls r σ := by
  show (if (nI (20 + k)).toInt < 20 then kd ls r σ else match ks[((nI (20 + k)).toInt - 20).toNat]? with
    | some q => q ls r σ
    | none => kd ls r σ) = _
  rw [nI_toInt (by omega), if_neg (by omega), show (((20 + k : Nat) : Int) - 20).toNat = k by omega]
theorem e_sw20_0 {α : Type} {ks : List (zK α)} {kd : zK α} {ls : zL} {r : List Value} {σ : zS} : q_sw 20 ks kd ls (.int (nI 20) :: r) σ = match ks[0]? with
    | some q => q ls r σ
    | none => kd ls r σ := e_sw20 (k := 0) (by decide)
theorem e_sw20_1 {α : Type} {ks : List (zK α)} {kd : zK α} {ls : zL} {r : List Value} {σ : zS} : q_sw 20 ks kd ls (.int (nI 21) :: r) σ = match ks[1]? with
    | some q => q ls r σ
    | none => kd ls r σ := e_sw20 (k := 1) (by decide)
theorem e_sw20_2 {α : Type} {ks : List (zK α)} {kd : zK α} {ls : zL} {r : List Value} {σ : zS} : q_sw 20 ks kd ls (.int (nI 22) :: r) σ = match ks[2]? with
    | some q => q ls r σ
    | none => kd ls r σ := e_sw20 (k := 2) (by decide)
theorem e_sw20_3 {α : Type} {ks : List (zK α)} {kd : zK α} {ls : zL} {r : List Value} {σ : zS} : q_sw 20 ks kd ls (.int (nI 23) :: r) σ = match ks[3]? with
    | some q => q ls r σ
    | none => kd ls r σ := e_sw20 (k := 3) (by decide)
theorem e_sw20_4 {α : Type} {ks : List (zK α)} {kd : zK α} {ls : zL} {r : List Value} {σ : zS} : q_sw 20 ks kd ls (.int (nI 24) :: r) σ = match ks[4]? with
    | some q => q ls r σ
    | none => kd ls r σ := e_sw20 (k := 4) (by decide)
theorem e_sw20_5 {α : Type} {ks : List (zK α)} {kd : zK α} {ls : zL} {r : List Value} {σ : zS} : q_sw 20 ks kd ls (.int (nI 25) :: r) σ = match ks[5]? with
    | some q => q ls r σ
    | none => kd ls r σ := e_sw20 (k := 5) (by decide)
theorem e_sw20_6 {α : Type} {ks : List (zK α)} {kd : zK α} {ls : zL} {r : List Value} {σ : zS} : q_sw 20 ks kd ls (.int (nI 26) :: r) σ = match ks[6]? with
    | some q => q ls r σ
    | none => kd ls r σ := e_sw20 (k := 6) (by decide)
theorem e_sw20_7 {α : Type} {ks : List (zK α)} {kd : zK α} {ls : zL} {r : List Value} {σ : zS} : q_sw 20 ks kd ls (.int (nI 27) :: r) σ = match ks[7]? with
    | some q => q ls r σ
    | none => kd ls r σ := e_sw20 (k := 7) (by decide)
theorem e_sw20_out {α : Type} {ks : List (zK α)} {kd : zK α} {ls : zL} {r : List Value} {σ : zS} {x : Nat} (hn : ks.length = 8) (hx : x < 20 ∨ 28 ≤ x) (hx2 : x < 1000) : q_sw 20 ks kd ls (.int (nI x) :: r) σ = kd ls r σ := by
  show (if (nI x).toInt < 20 then kd ls r σ else match ks[((nI x).toInt - 20).toNat]? with
    | some q => q ls r σ
    | none => kd ls r σ) = _
  rw [nI_toInt (by omega)]
  by_cases g : (x : Int) < 20
  · rw [if_pos g]
  · rw [if_neg g, List.getElem?_eq_none (by omega)]
theorem r_tell0 {I : Nat → Nat → Int32} {L : Nat → Nat → Int64} {Z : zZ} {M sz sd i nch nrow b c : Nat} {K W S : Nat → Nat} {N : Nat → Nat → Prop} {p : (Nat × Nat) × (Nat → Nat)} (h : isMod Z M) (hS : tkS K W S sz) (hT : tokR I M K W S sz) (hi : i < sz) (hI : TI I L M S sd K W i nch nrow b c p) (hA : p.1.1 = 0 → mOK p.2) (hk : K i = 0) : ∃ J, fX12_tellOne [.ref M] (I, L, Z) = some (none, (J, L, Z)) ∧ tlR I L J L M S sd K W N i nch nrow p := by
  have sz4 := hS.2.1
  obtain ⟨hO, ⟨b1, b2, b3, b4, b5, b6, b7, b8, ⟨g, b9, b9'⟩, b10, b11, b12, b13, b14, b15⟩, hw, hlt, hr⟩ := hI
  have o11 := hO.2
  have tk := (hT i hi).1
  rw [hk] at tk
  have tk : I (M + 3) i = nI 20 := tk
  obtain ⟨J1, a1, a2, a3⟩ := r_goes (L := L) (q := (0, i)) h hS hT (pqs_ok hO) hi
  rw [thn_0] at a2
  have p1 := (spn_adv (p := inn0) (K := K) (i := i) (by rw [hk]; unfold inn0; decide) (by omega)).lt hS.2.2.2.1 hi
  have t1 := hT.kept a3 pP_t
  have w1 := hw.kept a3 (by unfold pP; omega) (by unfold pP; omega)
  have c19 : J1 M 19 = nI sd := by rw [a3 _ _ (by unfold pP; omega)]; exact b1
  have ap : (adv i).1 = 0 → (adv i).2 = i + 1 := fun z => (adv_lt z).1
  obtain ⟨J2, x, w', d1, d2, d3, d0, d4, d5⟩ := r_bounded (L := L) (lo := 2) (up := 4) h hS t1 a2 p1 w1 (fun z1 z2 => by have := hlt z2; rw [ap z1]; omega) (by decide) (by decide)
  have t2 := t1.kept d5 pB_t
  have p2 := thn_lt hS p1 (sp_must (K := K) (inn0_of (k := 21) (by decide) (by decide)))
  have f3 : frm (fun a _ => a = M + 9) J2 (z_up J2 (M + 9) sd (nI x)) := (frm.refl _ _).up rfl
  have q3 : pqs (z_up J2 (M + 9) sd (nI x)) M S (thn (adv i) (must2 K 21)) := ⟨fun z => (d3.1 z).kept f3 (by omega) (by omega), fun z => (d3.2 z).kept f3 (by omega) (by omega) (by omega)⟩
  have t3 := t2.kept f3 (fun a k z => by omega)
  obtain ⟨J4, e1, e2, e3⟩ := r_must (L := L) h hS t3 q3 p2 (show 59 < 64 by decide) (show rk 59 = 4 from rfl) (by decide)
  have et : tell2 K nch nrow i = thn (thn (adv i) (must2 K 21)) (must2 K 59) := by
    rw [tell2, if_neg (by omega), if_neg (by omega), thn_assoc]
    congr 1
    funext j
    have eb : body2 K (K i) j = num2 K 1 j := by unfold body2; rw [hk]; rfl
    rw [eb, num_1]
  have fr : frm (pTl M sd) I J4 := (((a3.weak fun a k => pP_T).trans (d5.weak fun a k => pB_T)).up (pT_1 (by omega))).trans (e3.weak fun a k => pP_T)
  refine ⟨J4, ?_, by rw [et]; exact e2, fun z => ?_, fr, fun _ _ => rfl⟩
  · show kX12_tellOne_0 [some (Value.ref (M)), none] [] (I, L, Z) = _
    simp (disch := omega) only [kX12_tellOne_0, kX12_tellOne_222, e_sw20_0, h.1, mr_tKind h, ml_tKind h, mr_colours h, ml_colours h, o11, tk, a1, c19, d1, e1, e_push, e_pushl, e_iload, e_lload, e_aload, e_istore, e_astore, e_lstore, e_iinc, e_iadd, e_isub, e_imul, e_iand, e_ior, e_ixor, e_ishl, e_ishr, e_iushr, e_idiv, e_irem, e_ladd, e_lsub, e_lmul, e_lcmp, e_mmax, e_mmin, e_i2l, e_l2i, e_i2b, e_i2c, e_dup, e_dup2, e_pop, e_icmp_eq, e_icmp_ne, e_icmp_lt, e_icmp_ge, e_icmp_gt, e_icmp_le, e_if_eq, e_if_ne, e_if_lt, e_if_ge, e_if_gt, e_if_le, e_getI, e_getR, e_putI, e_putZ, e_putR, e_iald, e_bald, e_zald, e_lald, e_aald, e_alen, e_iast, e_bast, e_zast, e_last, e_aast, e_iret, e_zret, e_lret, e_vret, e_obj, e_callV, e_callS, e_callT, e_acpy, e_ldcS, e_dn, e_ag, z_pop, List.getElem?_cons_zero, List.getElem?_cons_succ, List.set_cons_zero, List.set_cons_succ, List.length_cons, List.length_nil, z_nol, Option.map_some, Option.toList_some, Option.toList_none, List.cons_append, List.nil_append, n_lit, n_m1, n_m2, n_m1lt, n_m1le, n_rem, n_div, n_out, n_cl, n_eq, n_le, n_lt, n_add, n_mul, n_sub, n_nle, n_yle, n_nlt, n_ylt, n_neN, z_lay, z_sz, z_str, z_stI, z_stL, z_stR, eq_self, ↓reduceIte, true_and, and_true, and_self, false_and, and_false, or_self, false_or, or_false, true_or, or_true, not_true_eq_false, not_false_eq_true, Nat.reduceLeDiff, Nat.reduceLT, Nat.reduceAdd, Nat.reduceEqDiff, Nat.reduceMul, Nat.reduceSub, Value.category, Nat.zero_le, beq_self_eq_true]
  · obtain ⟨s, z1, hF⟩ := tell_form z
    have zz := z
    rw [et] at zz
    have y1 := thn_0of zz
    have y0 := thn_0of y1
    obtain ⟨x1, x2⟩ := d4 y1
    rw [ap y0] at x1 x2
    rw [z1]
    have hs := hF.2.2.2.1
    have oo := e2.1 zz
    rw [← et, z1] at oo
    have fM : frm (fun a k => a = M ∨ (a = M + 9 ∧ k = sd)) I J4 := (((a3.weak fun a k z => Or.inl z.1).trans (d5.weak fun a k z => Or.inl z.1)).up (Or.inr ⟨rfl, rfl⟩)).trans (e3.weak fun a k z => Or.inl z.1)
    have wf : wrS J4 M S (if 2 ≤ W (i + 1) ∧ W (i + 1) ≤ 4 then p.1 else wAdd p.1 5 (i + 1)) := by
      rw [x2] at d0
      exact (d0.kept f3 (by omega) (by omega)).kept e3 (by unfold pP; omega) (by unfold pP; omega)
    have rn : p.1.1 = 0 → rrA J4 L M sd K W b c (fUp p.2 0 x) := fun y => by
      have h1 := (hr y).kept (a3.weak fun a k z => (show pM M a k from z.1)) (fun a k z => Or.inl z)
      have h2 := h1.kept (d5.weak fun a k z => (show pM M a k from z.1)) (fun a k z => Or.inl z)
      exact (h2.nc (x := x) (hA y)).kept (e3.weak fun a k z => (show pM M a k from z.1)) (fun a k z => Or.inl z)
    have base : tiB J4 M sd (s + 1) (nch + if K i = 1 then 1 else 0) (nrow + if K i = 2 then 1 else 0) b c := by
      rw [if_neg (by omega), if_neg (by omega)]
      have m9 : J4 (M + 12) sd = nI g := by rw [fM _ _ (by omega)]; exact b9'
      exact ⟨by rw [fr _ _ (pT_n (by decide))]; exact b1, b2, by rw [e3 _ _ (by unfold pP; omega), zup_off (by omega), d5 _ _ (by unfold pB; omega), a3 _ _ (by unfold pP; omega)]; exact b3, by rw [fM _ _ (by omega)]; exact b4, b5, by rw [fM _ _ (by omega)]; exact b6, b7, by rw [e3 _ _ (by unfold pP; omega), zup_off (by omega), d5 _ _ (by unfold pB; omega), a3 _ _ (by unfold pP; omega)]; exact b8, ⟨g, b9, m9⟩, by rw [e3 _ _ (by unfold pP; omega), zup_off (by omega), d5 _ _ (by unfold pB; omega), a3 _ _ (by unfold pP; omega)]; exact b10, b11, by omega, by rw [e3 _ _ (by unfold pP; omega), zup_off (by omega), d5 _ _ (by unfold pB; omega), a3 _ _ (by unfold pP; omega)]; exact b13, b14, by omega⟩
    refine ⟨b, c, oo, base, ?_, ?_, ?_⟩
    · by_cases y : p.1.1 = 0
      · rw [stp_y y]
        have em : mTell K W N i p.2 = if 2 ≤ W (i + 1) ∧ W (i + 1) ≤ 4 then (0, i + 2, fUp p.2 0 (W (i + 1))) else (5, i + 1, p.2) := by rw [mTell, if_pos hk]
        rw [em]
        by_cases gg : 2 ≤ W (i + 1) ∧ W (i + 1) ≤ 4
        · rw [if_pos gg] at wf ⊢
          exact ⟨by rw [wf.1, y], by show 0 < 8; decide, fun z => absurd rfl z⟩
        · rw [if_neg gg] at wf ⊢
          rw [wAdd, if_pos y] at wf
          exact wf
      · rw [stp_n y]
        by_cases gg : 2 ≤ W (i + 1) ∧ W (i + 1) ≤ 4
        · rw [if_pos gg] at wf
          exact wf
        · rw [if_neg gg, wAdd, if_neg y] at wf
          exact wf
    · by_cases y : p.1.1 = 0
      · rw [stp_y y]
        intro y2
        have bb := mTell_bad hF y2
        have : (mTell K W N i p.2).2.1 < s := bb.2.2.2
        show (mTell K W N i p.2).2.1 < s + 1
        omega
      · rw [stp_n y]
        intro _
        have := hlt y
        omega
    · by_cases y : p.1.1 = 0
      · rw [stp_y y]
        have em : mTell K W N i p.2 = if 2 ≤ W (i + 1) ∧ W (i + 1) ≤ 4 then (0, i + 2, fUp p.2 0 (W (i + 1))) else (5, i + 1, p.2) := by rw [mTell, if_pos hk]
        rw [em]
        by_cases gg : 2 ≤ W (i + 1) ∧ W (i + 1) ≤ 4
        · rw [if_pos gg]
          intro _
          have r := rn y
          rw [x1] at r
          exact r
        · rw [if_neg gg]
          intro z
          cases z
      · rw [stp_n y]
        intro y2
        exact absurd y2 y
theorem r_tell7 {I : Nat → Nat → Int32} {L : Nat → Nat → Int64} {Z : zZ} {M sz sd i nch nrow b c : Nat} {K W S : Nat → Nat} {N : Nat → Nat → Prop} {p : (Nat × Nat) × (Nat → Nat)} (h : isMod Z M) (hS : tkS K W S sz) (hT : tokR I M K W S sz) (hi : i < sz) (hI : TI I L M S sd K W i nch nrow b c p) (hA : p.1.1 = 0 → mOK p.2) (hk : K i = 7) : ∃ J, fX12_tellOne [.ref M] (I, L, Z) = some (none, (J, L, Z)) ∧ tlR I L J L M S sd K W N i nch nrow p := by
  have sz4 := hS.2.1
  obtain ⟨hO, ⟨b1, b2, b3, b4, b5, b6, b7, b8, ⟨g, b9, b9'⟩, b10, b11, b12, b13, b14, b15⟩, hw, hlt, hr⟩ := hI
  have o11 := hO.2
  have tk := (hT i hi).1
  rw [hk] at tk
  have tk : I (M + 3) i = nI 27 := tk
  obtain ⟨J1, a1, a2, a3⟩ := r_goes (L := L) (q := (0, i)) h hS hT (pqs_ok hO) hi
  rw [thn_0] at a2
  have p1 := (spn_adv (p := inn0) (K := K) (i := i) (by rw [hk]; unfold inn0; decide) (by omega)).lt hS.2.2.2.1 hi
  have t1 := hT.kept a3 pP_t
  have w1 := hw.kept a3 (by unfold pP; omega) (by unfold pP; omega)
  have c19 : J1 M 19 = nI sd := by rw [a3 _ _ (by unfold pP; omega)]; exact b1
  have ap : (adv i).1 = 0 → (adv i).2 = i + 1 := fun z => (adv_lt z).1
  obtain ⟨J2, x, w', d1, d2, d3, d0, d4, d5⟩ := r_bounded (L := L) (lo := 0) (up := 9999) h hS t1 a2 p1 w1 (fun z1 z2 => by have := hlt z2; rw [ap z1]; omega) (by decide) (by decide)
  have t2 := t1.kept d5 pB_t
  have p2 := thn_lt hS p1 (sp_must (K := K) (inn0_of (k := 21) (by decide) (by decide)))
  have f3 : frm (fun a _ => a = M + 16) J2 (z_up J2 (M + 16) sd (nI x)) := (frm.refl _ _).up rfl
  have q3 : pqs (z_up J2 (M + 16) sd (nI x)) M S (thn (adv i) (must2 K 21)) := ⟨fun z => (d3.1 z).kept f3 (by omega) (by omega), fun z => (d3.2 z).kept f3 (by omega) (by omega) (by omega)⟩
  have t3 := t2.kept f3 (fun a k z => by omega)
  obtain ⟨J4, e1, e2, e3⟩ := r_must (L := L) h hS t3 q3 p2 (show 59 < 64 by decide) (show rk 59 = 4 from rfl) (by decide)
  have et : tell2 K nch nrow i = thn (thn (adv i) (must2 K 21)) (must2 K 59) := by
    rw [tell2, if_neg (by omega), if_neg (by omega), thn_assoc]
    congr 1
    funext j
    have eb : body2 K (K i) j = num2 K 1 j := by unfold body2; rw [hk]; rfl
    rw [eb, num_1]
  have fr : frm (pTl M sd) I J4 := (((a3.weak fun a k => pP_T).trans (d5.weak fun a k => pB_T)).up (pT_1 (by omega))).trans (e3.weak fun a k => pP_T)
  refine ⟨J4, ?_, by rw [et]; exact e2, fun z => ?_, fr, fun _ _ => rfl⟩
  · show kX12_tellOne_0 [some (Value.ref (M)), none] [] (I, L, Z) = _
    simp (disch := omega) only [kX12_tellOne_0, kX12_tellOne_222, e_sw20_7, h.1, mr_tKind h, ml_tKind h, mr_seed h, ml_seed h, o11, tk, a1, c19, d1, e1, e_push, e_pushl, e_iload, e_lload, e_aload, e_istore, e_astore, e_lstore, e_iinc, e_iadd, e_isub, e_imul, e_iand, e_ior, e_ixor, e_ishl, e_ishr, e_iushr, e_idiv, e_irem, e_ladd, e_lsub, e_lmul, e_lcmp, e_mmax, e_mmin, e_i2l, e_l2i, e_i2b, e_i2c, e_dup, e_dup2, e_pop, e_icmp_eq, e_icmp_ne, e_icmp_lt, e_icmp_ge, e_icmp_gt, e_icmp_le, e_if_eq, e_if_ne, e_if_lt, e_if_ge, e_if_gt, e_if_le, e_getI, e_getR, e_putI, e_putZ, e_putR, e_iald, e_bald, e_zald, e_lald, e_aald, e_alen, e_iast, e_bast, e_zast, e_last, e_aast, e_iret, e_zret, e_lret, e_vret, e_obj, e_callV, e_callS, e_callT, e_acpy, e_ldcS, e_dn, e_ag, z_pop, List.getElem?_cons_zero, List.getElem?_cons_succ, List.set_cons_zero, List.set_cons_succ, List.length_cons, List.length_nil, z_nol, Option.map_some, Option.toList_some, Option.toList_none, List.cons_append, List.nil_append, n_lit, n_m1, n_m2, n_m1lt, n_m1le, n_rem, n_div, n_out, n_cl, n_eq, n_le, n_lt, n_add, n_mul, n_sub, n_nle, n_yle, n_nlt, n_ylt, n_neN, z_lay, z_sz, z_str, z_stI, z_stL, z_stR, eq_self, ↓reduceIte, true_and, and_true, and_self, false_and, and_false, or_self, false_or, or_false, true_or, or_true, not_true_eq_false, not_false_eq_true, Nat.reduceLeDiff, Nat.reduceLT, Nat.reduceAdd, Nat.reduceEqDiff, Nat.reduceMul, Nat.reduceSub, Value.category, Nat.zero_le, beq_self_eq_true]
  · obtain ⟨s, z1, hF⟩ := tell_form z
    have zz := z
    rw [et] at zz
    have y1 := thn_0of zz
    have y0 := thn_0of y1
    obtain ⟨x1, x2⟩ := d4 y1
    rw [ap y0] at x1 x2
    rw [z1]
    have hs := hF.2.2.2.1
    have oo := e2.1 zz
    rw [← et, z1] at oo
    have fM : frm (fun a k => a = M ∨ (a = M + 16 ∧ k = sd)) I J4 := (((a3.weak fun a k z => Or.inl z.1).trans (d5.weak fun a k z => Or.inl z.1)).up (Or.inr ⟨rfl, rfl⟩)).trans (e3.weak fun a k z => Or.inl z.1)
    have wf : wrS J4 M S (if 0 ≤ W (i + 1) ∧ W (i + 1) ≤ 9999 then p.1 else wAdd p.1 5 (i + 1)) := by
      rw [x2] at d0
      exact (d0.kept f3 (by omega) (by omega)).kept e3 (by unfold pP; omega) (by unfold pP; omega)
    have rn : p.1.1 = 0 → rrA J4 L M sd K W b c (fUp p.2 3 x) := fun y => by
      have h1 := (hr y).kept (a3.weak fun a k z => (show pM M a k from z.1)) (fun a k z => Or.inl z)
      have h2 := h1.kept (d5.weak fun a k z => (show pM M a k from z.1)) (fun a k z => Or.inl z)
      exact (h2.seed (x := x) (hA y)).kept (e3.weak fun a k z => (show pM M a k from z.1)) (fun a k z => Or.inl z)
    have base : tiB J4 M sd (s + 1) (nch + if K i = 1 then 1 else 0) (nrow + if K i = 2 then 1 else 0) b c := by
      rw [if_neg (by omega), if_neg (by omega)]
      have m9 : J4 (M + 12) sd = nI g := by rw [fM _ _ (by omega)]; exact b9'
      exact ⟨by rw [fr _ _ (pT_n (by decide))]; exact b1, b2, by rw [e3 _ _ (by unfold pP; omega), zup_off (by omega), d5 _ _ (by unfold pB; omega), a3 _ _ (by unfold pP; omega)]; exact b3, by rw [fM _ _ (by omega)]; exact b4, b5, by rw [fM _ _ (by omega)]; exact b6, b7, by rw [e3 _ _ (by unfold pP; omega), zup_off (by omega), d5 _ _ (by unfold pB; omega), a3 _ _ (by unfold pP; omega)]; exact b8, ⟨g, b9, m9⟩, by rw [e3 _ _ (by unfold pP; omega), zup_off (by omega), d5 _ _ (by unfold pB; omega), a3 _ _ (by unfold pP; omega)]; exact b10, b11, by omega, by rw [e3 _ _ (by unfold pP; omega), zup_off (by omega), d5 _ _ (by unfold pB; omega), a3 _ _ (by unfold pP; omega)]; exact b13, b14, by omega⟩
    refine ⟨b, c, oo, base, ?_, ?_, ?_⟩
    · by_cases y : p.1.1 = 0
      · rw [stp_y y]
        have em : mTell K W N i p.2 = (0, i + 2, fUp p.2 3 (W (i + 1))) := by rw [mTell, if_neg (by omega), if_neg (by omega), if_neg (by omega), if_pos hk]
        rw [em]
        have bw := hS.2.2.2.2.1 (i + 1) (hF.2.2.2.2.2.2.2.1 (Or.inr hk)).1
        rw [if_pos ⟨Nat.zero_le _, by omega⟩] at wf
        exact ⟨by rw [wf.1, y], by show 0 < 8; decide, fun z => absurd rfl z⟩
      · rw [stp_n y]
        by_cases gg : 0 ≤ W (i + 1) ∧ W (i + 1) ≤ 9999
        · rw [if_pos gg] at wf
          exact wf
        · rw [if_neg gg, wAdd, if_neg y] at wf
          exact wf
    · by_cases y : p.1.1 = 0
      · rw [stp_y y]
        intro y2
        have bb := mTell_bad hF y2
        have : (mTell K W N i p.2).2.1 < s := bb.2.2.2
        show (mTell K W N i p.2).2.1 < s + 1
        omega
      · rw [stp_n y]
        intro _
        have := hlt y
        omega
    · by_cases y : p.1.1 = 0
      · rw [stp_y y]
        have em : mTell K W N i p.2 = (0, i + 2, fUp p.2 3 (W (i + 1))) := by rw [mTell, if_neg (by omega), if_neg (by omega), if_neg (by omega), if_pos hk]
        rw [em]
        intro _
        have r := rn y
        rw [x1] at r
        exact r
      · rw [stp_n y]
        intro y2
        exact absurd y2 y
