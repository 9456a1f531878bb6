/-! read: both together; a text that is not taken -/
theorem famC.congr {I J : Nat → Nat → Int32} {a la ca rows nc : Nat} {len : Nat → Nat} {col : Nat → Nat → Nat} {tm pd : Int32} (h : famC I a la ca rows nc len col tm pd) (h1 : J a = I a) (h2 : J la = I la) (h3 : J ca = I ca) : famC J a la ca rows nc len col tm pd := by
  unfold famC famI at h ⊢
  rw [h1, h2, h3]
  exact h
theorem brR.half {I J : Nat → Nat → Int32} {M b lv : Nat} {q : sB} (h : brR I M b q) (hb1 : 130 * lv ≤ b) (hb2 : b < 130 * lv + 130) (h22 : ∀ p, p ≤ 840 → I (M + 22) b = nI p → 420 * lv ≤ p) (h23 : ∀ p, p ≤ 840 → I (M + 23) b = nI p → p ≤ 420 * lv + 420) (h20 : ∀ p, p ≤ 840 → I (M + 19) b = nI 1 → I (M + 20) b = nI p → 420 * lv ≤ p) (hb : ∀ a k, M + 19 ≤ a → a ≤ M + 23 → 130 * lv ≤ k → k < 130 * lv + 130 → J a k = I a k) (hc : ∀ a k, (a = M + 24 ∨ a = M + 25) → 420 * lv ≤ k → k < 420 * lv + 420 → J a k = I a k) : brR J M b q := by
  have e : ∀ a, M + 19 ≤ a → a ≤ M + 23 → J a b = I a b := fun a u1 u2 => hb a b u1 u2 hb1 hb2
  have sg : ∀ p c, segR I M p c → 420 * lv ≤ p → p + c.length ≤ 420 * lv + 420 → segR J M p c := fun p c hs u1 u2 => by
    refine ⟨hs.1, fun k r hr => ?_⟩
    have hk : k < c.length := (List.getElem?_eq_some_iff.mp hr).1
    rw [hc _ _ (Or.inl rfl) (by omega) (by omega), hc _ _ (Or.inr rfl) (by omega) (by omega)]
    exact hs.2 k r hr
  obtain ⟨p, a1, a2, a3, a4⟩ := h
  have p1 := h22 p (by have := a3.1; omega) a1
  have p2 := h23 (p + q.2.length) a3.1 a2
  refine ⟨p, by rw [e _ (by omega) (by omega)]; exact a1, by rw [e _ (by omega) (by omega)]; exact a2, sg _ _ a3 p1 p2, ?_⟩
  obtain ⟨t, w⟩ := q
  cases t with
  | none =>
    show J (M + 19) b = nI 0
    rw [e _ (by omega) (by omega)]
    exact a4
  | some t =>
    obtain ⟨b1, x1, x2, b2, b3, b4, b5, b6, b7⟩ := a4
    have q1 := h20 x1 (by have := b6.1; omega) b1 b2
    show J (M + 19) b = nI 1 ∧ ∃ p1 p2, J (M + 20) b = nI p1 ∧ J (M + 21) b = nI p2 ∧ p2 = p1 + t.1.length ∧ p = p2 + t.2.length ∧ segR J M p1 t.1 ∧ segR J M p2 t.2
    have p2 : p + w.length ≤ 420 * lv + 420 := p2
    exact ⟨by rw [e _ (by omega) (by omega)]; exact b1, x1, x2, by rw [e _ (by omega) (by omega)]; exact b2, by rw [e _ (by omega) (by omega)]; exact b3, b4, b5, sg _ _ b6 q1 (by omega), sg _ _ b7 (by omega) (by omega)⟩
theorem wLaw.half {I J : Nat → Nat → Int32} {L L' : Nat → Nat → Int64} {B tx lv : Nat} (h : wLaw I L B tx lv) (c1 : J (B + (tx + 1)) = I (B + (tx + 1))) (c2 : J (B + (tx + 2)) = I (B + (tx + 2))) (c13 : J (B + (tx + 13)) = I (B + (tx + 13))) (l3 : L' (B + (tx + 3)) = L (B + (tx + 3))) (h17 : ∀ k, 4 * lv ≤ k → k < 4 * lv + 4 → J (B + 200 + 17) k = I (B + 200 + 17) k ∧ J (B + 200 + 18) k = I (B + 200 + 18) k) (hb : ∀ a k, B + 200 + 19 ≤ a → a ≤ B + 200 + 23 → 130 * lv ≤ k → k < 130 * lv + 130 → J a k = I a k) (hc : ∀ a k, (a = B + 200 + 24 ∨ a = B + 200 + 25) → 420 * lv ≤ k → k < 420 * lv + 420 → J a k = I a k) : wLaw J L' B tx lv := by
  obtain ⟨K, W, sz, t, r, u⟩ := h
  refine ⟨K, W, sz, ?_, fun k hk => ?_, fun k hk => ?_⟩
  · unfold tokC at t ⊢
    rw [c1, c2, l3]
    exact t
  · have uk := u k hk
    obtain ⟨e17, e18⟩ := h17 (4 * lv + k) (by omega) (by omega)
    rcases r k hk with ⟨a1, f, a2, a3, a4⟩ | ⟨s, j, f, bs, a1, a2, a3, a4, a5, a6, a7⟩
    · exact Or.inl ⟨by rw [c13]; exact a1, f, a2, by rw [e17]; exact a3, by rw [e18]; exact a4⟩
    · refine Or.inr ⟨s, j, f, bs, by rw [c13]; exact a1, a2, a3, by rw [e17]; exact a4, by rw [e18]; exact a5, a6, fun b q hq => ?_⟩
      have hbl : b < bs.length := (List.getElem?_eq_some_iff.mp hq).1
      obtain ⟨v1, v2, v3⟩ := uk f (f + bs.length) (by omega) a6 a4 a5 (by omega)
      obtain ⟨w1, w2, w3⟩ := v3 (f + b) (by omega) (by omega)
      exact (a7 b q hq).half (by omega) (by omega) w1 w2 w3 hb hc
  · obtain ⟨e17, e18⟩ := h17 (4 * lv + k) (by omega) (by omega)
    intro f e hf he z1 z2 z3
    rw [e17] at z1
    rw [e18] at z2
    obtain ⟨v1, v2, v3⟩ := u k hk f e hf he z1 z2 z3
    refine ⟨v1, v2, fun b b1 b2 => ?_⟩
    obtain ⟨w1, w2, w3⟩ := v3 b b1 b2
    rw [hb _ b (by omega) (by omega) (by omega) (by omega), hb _ b (by omega) (by omega) (by omega) (by omega), hb _ b (by omega) (by omega) (by omega) (by omega), hb _ b (by omega) (by omega) (by omega) (by omega)]
    exact ⟨w1, w2, w3⟩
theorem pRf_lo {M sd a k : Nat} (h : a < M) : ¬ pRf M sd a k := by
  unfold pRf
  rintro (z | z | z | z | z | z)
  · rcases z with ⟨z, _⟩ | z | ⟨z, _⟩ | ⟨z, _⟩ | ⟨z, _⟩ | ⟨z, _⟩ | ⟨z, _⟩ | ⟨z, _⟩ <;> omega
  all_goals omega
theorem pRf_F {M sd k : Nat} (h : k = 18 ∨ k = 52 ∨ k = 66) : ¬ pRf M sd M k := by
  unfold pRf
  rintro (z | z | z | z | z | z)
  · exact pT_n (by omega) z
  all_goals omega
theorem pRf_A {M sd a k : Nat} (h : a = M + 1 ∨ a = M + 7 ∨ a = M + 29 ∨ a = M + 33 ∨ a = M + 43 ∨ a = M + 44 ∨ a = M + 45 ∨ a = M + 46 ∨ a = M + 48 ∨ a = M + 49) : ¬ pRf M sd a k := by
  unfold pRf
  rintro (z | z | z | z | z | z)
  · rcases z with ⟨z, _⟩ | z | ⟨z, _⟩ | ⟨z, _⟩ | ⟨z, _⟩ | ⟨z, _⟩ | ⟨z, _⟩ | ⟨z, _⟩ <;> omega
  all_goals omega
/-- the other half -/
theorem pRf_H {M lv a k : Nat} (hlv : lv < 2) (h : ((a = M + 9 ∨ a = M + 13 ∨ a = M + 16) ∧ k = lv) ∨ (a = M + 11 ∧ 16 * lv ≤ k ∧ k < 16 * lv + 16) ∨ ((a = M + 17 ∨ a = M + 18) ∧ 4 * lv ≤ k ∧ k < 4 * lv + 4) ∨ (M + 19 ≤ a ∧ a ≤ M + 23 ∧ 130 * lv ≤ k ∧ k < 130 * lv + 130) ∨ ((a = M + 24 ∨ a = M + 25) ∧ 420 * lv ≤ k ∧ k < 420 * lv + 420)) : ¬ pRf M (1 - lv) a k := by
  unfold pRf
  rintro (z | z | z | z | z | z)
  · rcases z with ⟨z, _⟩ | z | ⟨z, z1, z2⟩ | ⟨z, z1, z2, z3⟩ | ⟨z, z1⟩ | ⟨z, z1, z2⟩ | ⟨z, z1, z2⟩ | ⟨z, z1, z2⟩ <;> omega
  all_goals omega
def rdOp (I : Nat → Nat → Int32) (L : Nat → Nat → Int64) (Z : zZ) (B : Nat) : Prop := ∃ v I1 L1 Z1 I2 L2, fX11_read [.ref B] (I, L, Z) = some (some (.int v), (I1, L1, Z1)) ∧ fX12_read [.ref (B + 200)] (I1, L1, Z1) = some (some (.int v), (I2, L2, Z1)) ∧ Z1.2 = Z.2 ∧ ∃ tx lv nc ch rows, wRest I2 L2 Z1 B tx lv nc ch rows ∧ ∃ len col tm pd, wFam I2 B tx lv nc ch rows len col tm pd
theorem o_read_no {I : Nat → Nat → Int32} {L : Nat → Nat → Int64} {Z : zZ} {B tx lv nc n : Nat} {ch : Nat → Nat → Nat} {rows : Nat} {len : Nat → Nat} {col : Nat → Nat → Nat} {tm pd : Int32} {T : Nat → Nat} {I1 I2 : Nat → Nat → Int32} {L1 L2 : Nat → Nat → Int64} (hW : wRest I L Z B tx lv nc ch rows) (hF : wFam I B tx lv nc ch rows len col tm pd) {dx : Nat} (hd : dx + tx = 21) (c3 : I1 B 3 = rdp T n) (c1 : I1 (B + 1) 1 = nI 0) (cl : ∀ a, a ≠ B + (dx + 3) → a ≠ B + (dx + 14) → L1 a = L a) (ca : ∀ a, a ≠ B → a ≠ B + 1 → (a < B + dx ∨ B + (dx + 14) < a) → I1 a = I a) (r17 : I2 (B + 200) 17 = rdp T n) (r2 : I2 (B + 200) 2 = nI 0) (rl : ∀ a, a ≠ B + 200 + 6 → a ≠ B + 200 + 8 → L2 a = L1 a) (rf : frm (pRf (B + 200) (1 - lv)) I1 I2) : wRest I2 L2 Z B tx lv nc ch rows ∧ wFam I2 B tx lv nc ch rows len col tm pd := by
  obtain ⟨a1, a2, a3, a4, a5, a6, a7, a8, a9, a10, a11⟩ := hW
  obtain ⟨f1, f2, f3⟩ := hF
  have htx := a1.1
  have hlv : lv < 2 := f2.1.2.1
  have lo : ∀ k, 2 ≤ k → k < 200 → (k < dx ∨ dx + 14 < k) → I2 (B + k) = I (B + k) := fun k h1 h2 h3 => funext fun j => by rw [rf _ _ (pRf_lo (by omega)), ca _ (by omega) (by omega) (by omega)]
  have hi : ∀ a, B + 200 ≤ a → I1 a = I a := fun a ha => ca a (by omega) (by omega) (by omega)
  have mA : ∀ a, (a = B + 200 + 1 ∨ a = B + 200 + 7 ∨ a = B + 200 + 29 ∨ a = B + 200 + 33 ∨ a = B + 200 + 43 ∨ a = B + 200 + 44 ∨ a = B + 200 + 45 ∨ a = B + 200 + 46 ∨ a = B + 200 + 48 ∨ a = B + 200 + 49) → I2 a = I a := fun a ha => funext fun j => by rw [rf _ _ (pRf_A ha), hi _ (by omega)]
  have mF : ∀ k, (k = 18 ∨ k = 52 ∨ k = 66) → I2 (B + 200) k = I (B + 200) k := fun k hk => by rw [rf _ _ (pRf_F hk), hi _ (by omega)]
  have mH : ∀ a k, (((a = B + 200 + 9 ∨ a = B + 200 + 13 ∨ a = B + 200 + 16) ∧ k = lv) ∨ (a = B + 200 + 11 ∧ 16 * lv ≤ k ∧ k < 16 * lv + 16) ∨ ((a = B + 200 + 17 ∨ a = B + 200 + 18) ∧ 4 * lv ≤ k ∧ k < 4 * lv + 4) ∨ (B + 200 + 19 ≤ a ∧ a ≤ B + 200 + 23 ∧ 130 * lv ≤ k ∧ k < 130 * lv + 130) ∨ ((a = B + 200 + 24 ∨ a = B + 200 + 25) ∧ 420 * lv ≤ k ∧ k < 420 * lv + 420)) → I2 a k = I a k := fun a k hk => by rw [rf _ _ (pRf_H hlv hk), hi _ (by omega)]
  refine ⟨⟨a1, a2, ?_, ⟨0, by decide, ?_, r2, fun i hi' => absurd hi' (Nat.not_lt_zero _)⟩, ?_, ?_, ?_, ?_, ?_, ?_, ?_⟩, ?_, ?_, ?_⟩
  · unfold talZ at a3 ⊢
    rw [lo 44 (by omega) (by omega) (by omega), lo 181 (by omega) (by omega) (by omega), lo 189 (by omega) (by omega) (by omega), lo 198 (by omega) (by omega) (by omega)]
    exact a3
  · rw [rf _ _ (pRf_lo (by omega))]; exact c1
  · rw [rf _ _ (pRf_lo (by omega)), c3, r17]
  · obtain ⟨s, b1, b2, b3⟩ := a6
    exact ⟨s, b1, by rw [lo tx (by omega) (by omega) (by omega)]; exact b2, by rw [mH _ _ (Or.inl ⟨by omega, rfl⟩)]; exact b3⟩
  · intro s hs
    rw [lo 48 (by omega) (by omega) (by omega), mA (B + 200 + 48) (by omega), mA (B + 200 + 49) (by omega)]
    rcases a7 s hs with b | ⟨b1, b2, len', col', tm', pd', b3, b4⟩
    · exact Or.inl b
    · exact Or.inr ⟨b1, b2, len', col', tm', pd', b3.congr (lo (169 + 3 * s) (by omega) (by omega) (by omega)) (lo (170 + 3 * s) (by omega) (by omega) (by omega)) (lo (171 + 3 * s) (by omega) (by omega) (by omega)), b4⟩
  · unfold wTold toldAt at a8 ⊢
    rw [lo 191 (by omega) (by omega) (by omega), mF 66 (by omega), lo 192 (by omega) (by omega) (by omega), lo 193 (by omega) (by omega) (by omega), lo 194 (by omega) (by omega) (by omega), lo 195 (by omega) (by omega) (by omega), mA (B + 200 + 43) (by omega), mA (B + 200 + 44) (by omega), mA (B + 200 + 45) (by omega), mA (B + 200 + 46) (by omega)]
    exact a8
  · unfold wCen cenN at a9 ⊢
    rw [lo 182 (by omega) (by omega) (by omega), lo 183 (by omega) (by omega) (by omega), lo 184 (by omega) (by omega) (by omega), lo 185 (by omega) (by omega) (by omega)]
    exact a9
  · exact a10.half (lo (tx + 1) (by omega) (by omega) (by omega)) (lo (tx + 2) (by omega) (by omega) (by omega)) (lo (tx + 13) (by omega) (by omega) (by omega)) (by rw [rl _ (by omega) (by omega), cl _ (by omega) (by omega)]) (fun k h1 h2 => ⟨mH _ _ (by omega), mH _ _ (by omega)⟩) (fun a k h1 h2 h3 h4 => mH _ _ (by omega)) (fun a k h1 h2 h3 => mH _ _ (by omega))
  · intro k v hv
    rw [rl _ (by omega) (by omega), cl _ (by omega) (by omega)]
    exact a11 k v hv
  · unfold cV tabI at f1 ⊢
    obtain ⟨g1, g2, g3, g4, g5, g6⟩ := f1
    rw [lo (tx + 5) (by omega) (by omega) (by omega), lo (tx + 6) (by omega) (by omega) (by omega)]
    exact ⟨g1, g2, g3, g4, g5, g6.congr (lo 33 (by omega) (by omega) (by omega)) (lo 34 (by omega) (by omega) (by omega)) (lo 35 (by omega) (by omega) (by omega))⟩
  · obtain ⟨⟨g1, g2, g3, g4, g5, g6⟩, g7, g8⟩ := f2
    refine ⟨⟨by rw [mF 18 (by omega)]; exact g1, g2, by rw [mH _ _ (Or.inl ⟨by omega, rfl⟩)]; exact g3, g4, g5, fun a b ha hb => ?_⟩, by rw [mH _ _ (Or.inl ⟨by omega, rfl⟩)]; exact g7, by rw [mA _ (by omega)]; exact g8⟩
    rw [mH (B + 200 + 11) (16 * lv + 4 * a + b) (by omega)]
    exact g6 a b ha hb
  · exact f3.kept (fun k h1 h2 h3 => lo k (by omega) (by omega) (by omega)) (mF 52 (by omega)) (mA _ (by omega))
