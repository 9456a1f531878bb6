/-! read: both together; a text that is taken -/
theorem pRg_lo {M sd a k : Nat} (h : a < M) : ¬ pRg M sd a k := by
  unfold pRg
  rintro (z | z | z | z | z)
  · exact pRf_lo h z
  all_goals omega
theorem brW.brR {J : Nat → Nat → Int32} {M b lo hi : Nat} {q : sB} (h : brW J M b q lo hi) : brR J M b q := by
  obtain ⟨p, a1, a2, a3, a4, a5, a6⟩ := h
  refine ⟨p, a3, a4, a5, ?_⟩
  obtain ⟨t, w⟩ := q
  cases t with
  | none => exact a6
  | some t =>
    obtain ⟨b1, p1, p2, b2, b3⟩ := a6
    exact ⟨b1, p1, p2, b3⟩
theorem nI_inj {a b : Nat} (ha : a ≤ 100000) (hb : b ≤ 100000) (h : nI a = nI b) : a = b := by
  rw [n_eq (by omega) (by omega)] at h
  exact h
theorem lwA.law {J : Nat → Nat → Int32} {M sd b c s k : Nat} {K W : Nat → Nat} {B dx : Nat} (hM : M = B + 200) (h : lwA J M sd K W b c s k) (hb : b ≤ 130 * sd + 130) (hc : c ≤ 420 * sd + 420) (hsd : sd < 2) (h13 : J (B + (dx + 13)) k = oS s) : lawR J B dx sd k K W ∧ lawH J B sd k := by
  subst hM
  rcases h with ⟨a1, a2, a3⟩ | ⟨a1, a2, j, f, bs, a3, a4, a5, a6, a7, a8⟩
  · refine ⟨Or.inl ⟨by rw [h13, a1]; rfl, 0, by decide, a2, a3⟩, fun f e hf he z1 z2 z3 => ?_⟩
    rw [a2] at z1
    rw [a3] at z2
    have := nI_inj (by decide) (by omega) z1
    have := nI_inj (by decide) (by omega) z2
    omega
  · refine ⟨Or.inr ⟨s, j, f, bs, by rw [h13, oS, if_neg a1], a2, a3, a4, a5, by omega, fun y r hr => (a8 y r hr).brR⟩, fun f' e hf he z1 z2 z3 => ?_⟩
    rw [a4] at z1
    rw [a5] at z2
    obtain rfl := nI_inj (by omega) (by omega) z1
    have ee := nI_inj (by omega) (by omega) z2
    refine ⟨a6, by omega, fun x x1 x2 => ?_⟩
    have hx : bs[x - f]? = some (bs[x - f]'(by omega)) := List.getElem?_eq_getElem (by omega)
    obtain ⟨p, q1, q2, q3, q4, q5, q6⟩ := a8 (x - f) _ hx
    rw [show f + (x - f) = x by omega] at q3 q4 q6
    have q51 := q5.1
    refine ⟨fun p' hp z => ?_, fun p' hp z => ?_, fun p' hp y z => ?_⟩
    · rw [q3] at z
      have := nI_inj (by omega) (by omega) z
      omega
    · rw [q4] at z
      have := nI_inj (by omega) (by omega) z
      omega
    · generalize bs[x - f] = q at q6
      obtain ⟨t, w⟩ := q
      cases t with
      | none =>
        have q6 : J (B + 200 + 19) x = nI 0 := q6
        rw [q6] at y
        have := nI_inj (by decide) (by decide) y
        omega
      | some t =>
        obtain ⟨c1, p1, p2, c2, c3, c4, c5, c6, c7, c8⟩ := q6
        rw [c3] at z
        have := c7.1
        have := nI_inj (by omega) (by omega) z
        omega
theorem gpV_lt {A : Nat → Nat} {k : Nat} (hA : mOK A) (hk : k < 16) : gpV (fun k => A (10 + k)) (A 0) k < 4 ∧ (A 1 < A 0 → gpV (fun k => A (10 + k)) (A 0) k < A 0) := by
  obtain ⟨m1, m2, m3, m4, m5, m6, m7, m8, m9⟩ := hA
  have c := m6 k hk
  unfold gpV
  by_cases g : A (10 + k) = 0
  · rw [if_pos g]
    have := Nat.mod_lt (k / 4 + k % 4) (show 0 < A 0 by omega)
    exact ⟨by omega, fun _ => this⟩
  · rw [if_neg g]
    show A (10 + k) - 1 < 4 ∧ (A 1 < A 0 → A (10 + k) - 1 < A 0)
    exact ⟨by omega, fun _ => by omega⟩
theorem o_read_yes {I : Nat → Nat → Int32} {L : Nat → Nat → Int64} {Z : zZ} {B tx lv nc n : Nat} {ch : Nat → Nat → Nat} {rows : Nat} {len : Nat → Nat} {col : Nat → Nat → Nat} {tm pd : Int32} {T : Nat → Nat} {A : Nat → Nat} {I1 I2 : Nat → Nat → Int32} {L1 L2 : Nat → Nat → Int64} (hW : wRest I L Z B tx lv nc ch rows) (hF : wFam I B tx lv nc ch rows len col tm pd) {dx : Nat} (hd : dx + tx = 21) (hA : mOK A) (hl : lnOK A) (h10 : A 1 < A 0) (c3 : I1 B 3 = rdp T n) (c1 : I1 (B + 1) 1 = nI 0) (cl : ∀ a, a ≠ B + (dx + 3) → a ≠ B + (dx + 14) → L1 a = L a) (cK : rdK I1 L1 B dx T n A) (cE : famEq I1 I1 (B + 33) (B + 34) (B + 35) (B + (dx + 10)) (B + (dx + 11)) (B + (dx + 12))) (c45 : I1 (B + 45) 0 = nI 0) (c45k : ∀ k, k ≠ 0 → I1 (B + 45) k = I (B + 45) k) (c48 : ∀ s, s < 3 → I1 (B + 48) s = nI 0) (c191 : I1 (B + 191) 0 = nI 0) (c182 : ∀ i, i < 9 → I1 (B + 182) i = nI 0) (ca : ∀ a, a ≠ B → a ≠ B + 1 → (a < B + dx ∨ B + (dx + 14) < a) → a ≠ B + 33 → a ≠ B + 34 → a ≠ B + 35 → a ≠ B + 45 → a ≠ B + 48 → a ≠ B + 191 → a ≠ B + 182 → I1 a = I a) (r17 : I2 (B + 200) 17 = rdp T n) (r2 : I2 (B + 200) 2 = nI 0) (rl : ∀ a, a ≠ B + 200 + 6 → a ≠ B + 200 + 8 → L2 a = L1 a) (rf : frm (pRg (B + 200) (1 - lv)) I1 I2) (rR : rdR I2 L2 (B + 200) (1 - lv) T n A) : wRest I2 L2 (swZ Z B tx dx) B dx (1 - lv) (A 0) (fun a b => gpV (fun k => A (10 + k)) (A 0) (a * 4 + b)) (A 2) ∧ wFam I2 B dx (1 - lv) (A 0) (fun a b => gpV (fun k => A (10 + k)) (A 0) (a * 4 + b)) (A 2) (fun r => A (30 + r)) (fun r i => A (50 + (r * 8 + i))) (nI 0) (nI 0) := by
  obtain ⟨a1, a2, a3, a4, a5, a6, a7, a8, a9, a10, a11⟩ := hW
  obtain ⟨f1, f2, f3⟩ := hF
  have htx := a1.1
  have hlv : lv < 2 := f2.1.2.1
  have lo : ∀ a, a < B + 200 → I2 a = I1 a := fun a ha => funext fun j => rf _ _ (pRg_lo ha)
  obtain ⟨k0, k1, k2, k3, k4, k5, k6, k7, k8, k9⟩ := cK
  obtain ⟨e1, e2, e3, e4, e5⟩ := cE
  obtain ⟨s1, s2, s3, s4, s5, s6, b, c, s7, s8, s9⟩ := rR
  obtain ⟨m1, m2, m3, m4, m5, m6, m7, m8, m9⟩ := id hA
  obtain ⟨q0, q1, q2, q3, q4, q5, q6, q7⟩ := s9
  refine ⟨⟨swp a1 hd, ⟨a2.1, fun q hq => ?_⟩, ?_, ⟨0, by decide, ?_, r2, fun i hi' => absurd hi' (Nat.not_lt_zero _)⟩, ?_, ⟨A 3, m5, ?_, q2⟩, fun s hs => Or.inl ⟨?_, s4 s hs⟩, ⟨0, by decide, ?_, s3, fun j hj => absurd hj (Nat.not_lt_zero _)⟩, fun m h1 h2 => Or.inl ?_, ⟨kK T n, kW T n, lxN T n, ?_, fun k hk => ?_, fun k hk => ?_⟩, fun k v hv => ?_⟩, ⟨?_, m1, m2, fun x y hx hy => ?_, fun x y hx hy => (gpV_lt hA (by omega)).2 h10, ?_, ?_, ?_, m4, fun r hr => ⟨⟨?_, m7 r (by omega), fun i hi => ?_⟩, hl r hr, fun i hi => ?_⟩⟩, ⟨⟨s1, by omega, q0, m1, m2, fun x y hx hy => ⟨(gpV_lt hA (by omega)).1, ?_⟩⟩, s5, s6⟩, ?_⟩
  · have e := a2.2 q hq
    refine ⟨?_, e.2⟩
    show (if B + 200 = B then _ else Z.1 (B + 200) q.1) = _
    rw [if_neg (by omega)]
    exact e.1
  · unfold talZ at a3 ⊢
    rw [lo _ (by omega), lo _ (by omega), lo _ (by omega), lo _ (by omega), ca (B + 44) (by omega) (by omega) (by omega) (by omega) (by omega) (by omega) (by omega) (by omega) (by omega) (by omega), ca (B + 181) (by omega) (by omega) (by omega) (by omega) (by omega) (by omega) (by omega) (by omega) (by omega) (by omega), ca (B + 189) (by omega) (by omega) (by omega) (by omega) (by omega) (by omega) (by omega) (by omega) (by omega) (by omega), ca (B + 198) (by omega) (by omega) (by omega) (by omega) (by omega) (by omega) (by omega) (by omega) (by omega) (by omega)]
    exact a3
  · rw [lo _ (by omega)]; exact c1
  · rw [lo _ (by omega), c3, r17]
  · rw [lo _ (by omega)]; exact k5
  · rw [lo _ (by omega)]; exact c48 s hs
  · rw [lo _ (by omega)]; exact c191
  · rw [lo _ (by omega)]; exact c182 m h2
  · unfold tokC at k0 ⊢
    rw [lo _ (by omega), lo _ (by omega), rl _ (by omega) (by omega)]
    exact k0
  · exact ((q7 k hk).law rfl s7 s8 (by omega) (by rw [lo _ (by omega)]; exact k9 k hk)).1
  · exact ((q7 k hk).law (dx := dx) rfl s7 s8 (by omega) (by rw [lo _ (by omega)]; exact k9 k hk)).2
  · rw [rl _ (by omega) (by omega), cl _ (by omega) (by omega)]
    exact a11 k v hv
  · rw [lo _ (by omega)]; exact k1
  · rw [lo _ (by omega)]
    exact ⟨k6 _ (by omega), (gpV_lt hA (by omega)).1⟩
  · rw [lo _ (by omega), e1]; exact k2
  · rw [lo _ (by omega), e2]; exact k3
  · rw [lo _ (by omega), e3]; exact k4
  · rw [lo _ (by omega), e4 r (by omega)]; exact k7 r (by omega)
  · have hi : i < A (30 + r) := hi
    have := m7 r (by omega)
    rw [lo _ (by omega), e5 _ (by omega)]; exact k8 r i (by omega) hi
  · have hi : i < A (30 + r) := hi
    have := m8 r i (by omega) hi
    show A (50 + (r * 8 + i)) < A 0
    omega
  · have e := q3 (x * 4 + y) (by omega)
    rw [show 16 * (1 - lv) + (x * 4 + y) = 16 * (1 - lv) + 4 * x + y by omega] at e
    rw [e]
    unfold gpV oN
    by_cases g : A (10 + (x * 4 + y)) = 0
    · rw [if_pos g]
      refine Or.inr ⟨rfl, ?_⟩
      show (if A (10 + (x * 4 + y)) = 0 then _ else _) = _
      rw [if_pos g, show (x * 4 + y) / 4 = x by omega, show (x * 4 + y) % 4 = y by omega]
    · rw [if_neg g]
      refine Or.inl ?_
      show _ = nI (if A (10 + (x * 4 + y)) = 0 then _ else _)
      rw [if_neg g]
  · obtain ⟨u, nw, u1, u2, u3, u4, u5, u6⟩ := f3
    exact ⟨0, nw, by decide, u2, by rw [lo _ (by omega)]; exact c45, by rw [lo _ (by omega), c45k 1 (by decide)]; exact u4, s2, fun p hp => absurd hp (Nat.not_lt_zero _)⟩
theorem o_read {I : Nat → Nat → Int32} {L : Nat → Nat → Int64} {Z : zZ} {B tx lv nc : Nat} {ch : Nat → Nat → Nat} {rows : Nat} {len : Nat → Nat} {col : Nat → Nat → Nat} {tm pd : Int32} (hW : wRest I L Z B tx lv nc ch rows) (hF : wFam I B tx lv nc ch rows len col tm pd) (hS : strOk Z) : rdOp I L Z B := by
  have htx := hW.1.1
  have hlv : lv < 2 := hF.2.1.1.2.1
  obtain ⟨n, n1, n2, n3, n4⟩ := hW.2.2.2.1
  obtain ⟨T, hT⟩ : ∃ T : Nat → Nat, ∀ i, T i < 256 ∧ I (B + 2) i &&& nI 255 = nI (T i) := ⟨fun i => Classical.choose (by_and (I (B + 2) i)), fun i => Classical.choose_spec (by_and (I (B + 2) i))⟩
  have hd : (21 - tx) + tx = 21 := by omega
  have tp : tpC I B T n := ⟨n1, n2, fun i _ => ⟨(hT i).2, (hT i).1⟩⟩
  obtain ⟨I1, L1, ⟨c3, c1, cB, cl⟩, cN, cY⟩ := p_read (I := I) (L := L) hW.1 hd hS tp
  generalize hdx : 21 - tx = dx at hd cl cN cY
  have hK : wKey L1 (B + 200 - 200) := fun k v hv => by
    rw [Nat.add_sub_cancel, cl _ (by omega) (by omega)]
    exact hW.2.2.2.2.2.2.2.2.2.2 k v hv
  by_cases g : rdc T n = 0
  · obtain ⟨y1, y2, y3, y4, y5, y6, y7, y8, y9⟩ := cY g
    have up : ∀ a, B + 200 ≤ a → I1 a = I a := fun a ha => y9 a (by omega) (by omega) (by omega) (by omega) (by omega) (by omega) (by omega) (by omega) (by omega) (by omega)
    have iM : isMod (swZ Z B tx dx) (B + 200) := ⟨hW.2.1.1, fun q hq => by
      have e := hW.2.1.2 q hq
      refine ⟨?_, e.2⟩
      show (if B + 200 = B then _ else Z.1 (B + 200) q.1) = _
      rw [if_neg (by omega)]
      exact e.1⟩
    obtain ⟨I2, L2, r1, r2, r3, r4, r5, r6⟩ := r_read (I := I1) (L := L1) (n := n) (T := T) (lv := lv) iM (by omega) hK n1 (by rw [up _ (by omega)]; exact n3) (fun i hi => by rw [up _ (by omega), ← n4 i hi]; exact ⟨(hT i).2, (hT i).1⟩) hlv (by rw [up _ (by omega)]; exact hF.2.1.1.1)
    obtain ⟨z1, z2⟩ := r6 g
    obtain ⟨q, m, h3⟩ : (rdQ T n).1 = 0 ∧ (rdM T n).1 = 0 ∧ ¬ (rdM T n).2.2 0 ≤ (rdM T n).2.2 1 := by
      by_cases u : (rdQ T n).1 = 0
      · by_cases w : (rdM T n).1 = 0
        · by_cases x : (rdM T n).2.2 0 ≤ (rdM T n).2.2 1
          · rw [(rdc_6 u w x).1] at g
            cases g
          · exact ⟨u, w, x⟩
        · rw [(rdc_M u w).1] at g
          exact absurd g w
      · rw [(rdc_Q u).1] at g
        exact absurd g u
    obtain ⟨o1, o2, o3⟩ := rdM_ok q m
    obtain ⟨w1, w2⟩ := o_read_yes hW hF hd o1 o3 (by omega) c3 c1 cl y2 y3 y4 y5 y6 y7 y8 y9 r2 r3 r4 z1 z2
    exact ⟨_, I1, L1, swZ Z B tx dx, I2, L2, y1, r1, rfl, _, _, _, _, _, w1, _, _, _, _, w2⟩
  · obtain ⟨y1, y9⟩ := cN g
    have up : ∀ a, B + 200 ≤ a → I1 a = I a := fun a ha => y9 a (by omega) (by omega) (by omega)
    obtain ⟨I2, L2, r1, r2, r3, r4, r5, r6⟩ := r_read (I := I1) (L := L1) (n := n) (T := T) (lv := lv) hW.2.1 (by omega) hK n1 (by rw [up _ (by omega)]; exact n3) (fun i hi => by rw [up _ (by omega), ← n4 i hi]; exact ⟨(hT i).2, (hT i).1⟩) hlv (by rw [up _ (by omega)]; exact hF.2.1.1.1)
    obtain ⟨w1, w2⟩ := o_read_no hW hF hd c3 c1 cl y9 r2 r3 r4 (r5 g)
    exact ⟨_, I1, L1, Z, I2, L2, y1, r1, rfl, _, _, _, _, _, w1, _, _, _, _, w2⟩
