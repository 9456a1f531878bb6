--deps: 54.lazy 54.mem 55.mem2 56.rmem 57.spec 58.inv
/-! what a call that only touches the family leaves -/
def famSame (I J : Nat → Nat → Int32) (B tx : Nat) : Prop := (∀ k, k < 200 → essK tx k → ¬ (33 ≤ k ∧ k ≤ 35) → k ≠ 45 → ¬ (49 ≤ k ∧ k ≤ 168) → J (B + k) = I (B + k)) ∧ J (B + (tx + 5)) 0 = I (B + (tx + 5)) 0 ∧ J (B + 191) 0 = I (B + 191) 0 ∧ (talZ I B → talZ J B) ∧ (∀ k, essA k → k ≠ 29 → k ≠ 33 → J (B + 200 + k) = I (B + 200 + k)) ∧ ∀ j, essF j → j ≠ 52 → J (B + 200) j = I (B + 200) j
theorem famSame.refl (I : Nat → Nat → Int32) (B tx : Nat) : famSame I I B tx := ⟨fun _ _ _ _ _ _ => rfl, rfl, rfl, id, fun _ _ _ _ => rfl, fun _ _ _ => rfl⟩
theorem famSame.trans {I J K : Nat → Nat → Int32} {B tx : Nat} (h1 : famSame I J B tx) (h2 : famSame J K B tx) : famSame I K B tx :=
  ⟨fun k a b c d e => (h2.1 k a b c d e).trans (h1.1 k a b c d e), h2.2.1.trans h1.2.1, h2.2.2.1.trans h1.2.2.1, fun h => h2.2.2.2.1 (h1.2.2.2.1 h), fun k a b c => (h2.2.2.2.2.1 k a b c).trans (h1.2.2.2.2.1 k a b c), fun j a b => (h2.2.2.2.2.2 j a b).trans (h1.2.2.2.2.2 j a b)⟩
theorem sameC.fam {I J : Nat → Nat → Int32} {B tx : Nat} (h : sameC I J B tx) : famSame I J B tx :=
  ⟨fun k _ hk _ _ _ => h.1 k hk, h.2.1, h.2.2.1, h.2.2.2, fun k _ _ _ => by rw [Nat.add_assoc]; exact h.1 (200 + k) (by unfold essK; omega), fun j _ _ => by rw [h.1 200 (by unfold essK; omega)]⟩
theorem sameR.talZ {I J : Nat → Nat → Int32} {B : Nat} (h : sameR I J B) (hz : talZ I B) : talZ J B := fun x hx => by
  rw [h.1 44 (by omega), h.1 181 (by omega), h.1 189 (by omega), h.1 198 (by omega)]
  exact hz x hx
theorem sameR.fam {I J : Nat → Nat → Int32} {B tx : Nat} (htx : tx = 3 ∨ tx = 18) (h : sameR I J B) : famSame I J B tx :=
  ⟨fun k hk _ _ _ _ => h.1 k hk, by rw [h.1 _ (by omega)], by rw [h.1 _ (by omega)], h.talZ, fun k a _ _ => h.2.1 k a, fun j a _ => h.2.2 j a⟩
def wRest (I : Nat → Nat → Int32) (L : Nat → Nat → Int64) (Z : zZ) (B tx lv nc : Nat) (ch : Nat → Nat → Nat) (rows : Nat) : Prop := isCls Z B tx ∧ isMod Z (B + 200) ∧ talZ I B ∧ wTape I B ∧ I B 3 = I (B + 200) 17 ∧ wSeed I B tx lv ∧ wSlot I B rows nc ∧ wTold I B nc ∧ wCen I B nc ch ∧ wLaw I L B tx lv ∧ wKey L B
def wFam (I : Nat → Nat → Int32) (B tx lv nc : Nat) (ch : Nat → Nat → Nat) (rows : Nat) (len : Nat → Nat) (col : Nat → Nat → Nat) (tm pd : Int32) : Prop := cV I B tx nc ch rows len col tm pd ∧ rV I (B + 200) lv nc ch rows len col tm pd ∧ wUndo I B rows nc
theorem segR.kept {I J : Nat → Nat → Int32} {M p : Nat} {c : List (Nat × Nat)} (h : segR I M p c) (h1 : J (M + 24) = I (M + 24)) (h2 : J (M + 25) = I (M + 25)) : segR J M p c := by
  unfold segR at h ⊢
  rw [h1, h2]
  exact h
theorem brR.kept {I J : Nat → Nat → Int32} {M b : Nat} {q : sB} (h : brR I M b q) (h0 : ∀ k, 19 ≤ k → k ≤ 25 → J (M + k) = I (M + k)) : brR J M b q := by
  have e : brR J M b q = brR I M b q := by
    unfold brR segR
    rw [h0 19 (by omega) (by omega), h0 20 (by omega) (by omega), h0 21 (by omega) (by omega), h0 22 (by omega) (by omega), h0 23 (by omega) (by omega), h0 24 (by omega) (by omega), h0 25 (by omega) (by omega)]
  rw [e]
  exact h
theorem lawR.kept {I J : Nat → Nat → Int32} {B tx lv k : Nat} {K W : Nat → Nat} (h : lawR I B tx lv k K W) (h1 : J (B + (tx + 13)) = I (B + (tx + 13))) (h0 : ∀ k, 17 ≤ k → k ≤ 25 → J (B + 200 + k) = I (B + 200 + k)) : lawR J B tx lv k K W := by
  unfold lawR at h ⊢
  rw [h1, h0 17 (by omega) (by omega), h0 18 (by omega) (by omega)]
  rcases h with h | ⟨s, j, f, bs, a1, a2, a3, a4, a5, a6, a7⟩
  · exact Or.inl h
  · exact Or.inr ⟨s, j, f, bs, a1, a2, a3, a4, a5, a6, fun b q hb => (a7 b q hb).kept (fun k h1 h2 => h0 k (by omega) h2)⟩
theorem lawH.kept {I J : Nat → Nat → Int32} {B lv k : Nat} (h : lawH I B lv k) (h0 : ∀ k, 17 ≤ k → k ≤ 25 → J (B + 200 + k) = I (B + 200 + k)) : lawH J B lv k := by
  unfold lawH at h ⊢
  rw [h0 17 (by omega) (by omega), h0 18 (by omega) (by omega), h0 19 (by omega) (by omega), h0 20 (by omega) (by omega), h0 22 (by omega) (by omega), h0 23 (by omega) (by omega)]
  exact h
theorem tokC.kept {I J : Nat → Nat → Int32} {L : Nat → Nat → Int64} {B tx : Nat} {K W : Nat → Nat} {sz : Nat} (h : tokC I L B tx K W sz) (h1 : J (B + (tx + 1)) = I (B + (tx + 1))) (h2 : J (B + (tx + 2)) = I (B + (tx + 2))) : tokC J L B tx K W sz := by
  unfold tokC at h ⊢
  rw [h1, h2]
  exact h
theorem wRest.kept {I J : Nat → Nat → Int32} {L : Nat → Nat → Int64} {Z : zZ} {B tx lv nc : Nat} {ch : Nat → Nat → Nat} {rows : Nat} (h : wRest I L Z B tx lv nc ch rows) (hs : famSame I J B tx) : wRest J L Z B tx lv nc ch rows := by
  obtain ⟨a1, a2, a3, a4, a5, a6, a7, a8, a9, a10, a11⟩ := h
  obtain ⟨s1, s2, s3, s4, s5, s6⟩ := hs
  have htx := a1.1
  have c : ∀ k, k < 200 → essK tx k → ¬ (33 ≤ k ∧ k ≤ 35) → k ≠ 45 → ¬ (49 ≤ k ∧ k ≤ 168) → J (B + k) = I (B + k) := s1
  refine ⟨a1, a2, s4 a3, ?_, ?_, ?_, ?_, ?_, ?_, ?_, a11⟩
  · obtain ⟨n, b1, b2, b3, b4⟩ := a4
    refine ⟨n, b1, ?_, ?_, fun i hi => ?_⟩
    · rw [s1 1 (by omega) (by unfold essK; omega) (by omega) (by omega) (by omega)]; exact b2
    · rw [s6 2 (by unfold essF; omega) (by omega)]; exact b3
    · rw [s1 2 (by omega) (by unfold essK; omega) (by omega) (by omega) (by omega), s5 1 (by unfold essA; omega) (by omega) (by omega)]; exact b4 i hi
  · have := s1 0 (by omega) (by unfold essK; omega) (by omega) (by omega) (by omega)
    rw [Nat.add_zero] at this
    rw [this, s6 17 (by unfold essF; omega) (by omega)]; exact a5
  · obtain ⟨s, b1, b2, b3⟩ := a6
    refine ⟨s, b1, ?_, ?_⟩
    · rw [s1 tx (by omega) (by unfold essK; omega) (by omega) (by omega) (by omega)]; exact b2
    · rw [s5 16 (by unfold essA; omega) (by omega) (by omega)]; exact b3
  · intro s hs
    rw [s1 48 (by omega) (by unfold essK; omega) (by omega) (by omega) (by omega), s5 48 (by unfold essA; omega) (by omega) (by omega), s5 49 (by unfold essA; omega) (by omega) (by omega)]
    rcases a7 s hs with b | ⟨b1, b2, len, col, tm, pd, b3, b4⟩
    · exact Or.inl b
    · refine Or.inr ⟨b1, b2, len, col, tm, pd, b3.kept ?_ ?_ ?_, b4⟩
      · exact s1 _ (by omega) (by unfold essK; omega) (by omega) (by omega) (by omega)
      · exact s1 _ (by omega) (by unfold essK; omega) (by omega) (by omega) (by omega)
      · exact s1 _ (by omega) (by unfold essK; omega) (by omega) (by omega) (by omega)
  · obtain ⟨n, b1, b2, b3, b4⟩ := a8
    refine ⟨n, b1, by rw [s3]; exact b2, by rw [s6 66 (by unfold essF; omega) (by omega)]; exact b3, fun j hj => ?_⟩
    have := b4 j hj
    unfold toldAt at this ⊢
    rw [s1 192 (by omega) (by unfold essK; omega) (by omega) (by omega) (by omega), s1 193 (by omega) (by unfold essK; omega) (by omega) (by omega) (by omega), s1 194 (by omega) (by unfold essK; omega) (by omega) (by omega) (by omega), s1 195 (by omega) (by unfold essK; omega) (by omega) (by omega) (by omega), s5 43 (by unfold essA; omega) (by omega) (by omega), s5 44 (by unfold essA; omega) (by omega) (by omega), s5 45 (by unfold essA; omega) (by omega) (by omega), s5 46 (by unfold essA; omega) (by omega) (by omega)]
    exact this
  · unfold wCen cenN at a9 ⊢
    rw [s1 182 (by omega) (by unfold essK; omega) (by omega) (by omega) (by omega), s1 183 (by omega) (by unfold essK; omega) (by omega) (by omega) (by omega), s1 184 (by omega) (by unfold essK; omega) (by omega) (by omega) (by omega), s1 185 (by omega) (by unfold essK; omega) (by omega) (by omega) (by omega)]
    exact a9
  · obtain ⟨K, W, sz, b1, b2, b3⟩ := a10
    refine ⟨K, W, sz, b1.kept ?_ ?_, fun k hk => (b2 k hk).kept ?_ ?_, fun k hk => (b3 k hk).kept ?_⟩
    · exact s1 (tx + 1) (by omega) (by unfold essK; omega) (by omega) (by omega) (by omega)
    · exact s1 (tx + 2) (by omega) (by unfold essK; omega) (by omega) (by omega) (by omega)
    · exact s1 (tx + 13) (by omega) (by unfold essK; omega) (by omega) (by omega) (by omega)
    · exact fun k h1 h2 => s5 k (by unfold essA; omega) (by omega) (by omega)
    · exact fun k h1 h2 => s5 k (by unfold essA; omega) (by omega) (by omega)
theorem wUndo.kept {I J : Nat → Nat → Int32} {B rows nc : Nat} (h : wUndo I B rows nc) (h1 : ∀ k, 45 ≤ k → k ≤ 168 → k ≠ 48 → J (B + k) = I (B + k)) (h2 : J (B + 200) 52 = I (B + 200) 52) (h3 : J (B + 200 + 33) = I (B + 200 + 33)) : wUndo J B rows nc := by
  obtain ⟨u, nw, a1, a2, a3, a4, a5, a6⟩ := h
  refine ⟨u, nw, a1, a2, by rw [h1 45 (by omega) (by omega) (by omega)]; exact a3, by rw [h1 45 (by omega) (by omega) (by omega)]; exact a4, by rw [h2]; exact a5, fun p hp => ?_⟩
  obtain ⟨len, col, tm, pd, b1, b2⟩ := a6 p hp
  have hx : rgX u nw p < 40 := Nat.mod_lt _ (by omega)
  exact ⟨len, col, tm, pd, b1.kept (h1 _ (by omega) (by omega) (by omega)) (h1 _ (by omega) (by omega) (by omega)) (h1 _ (by omega) (by omega) (by omega)), by rw [h3]; exact b2⟩
theorem wUndo.keptC {I J : Nat → Nat → Int32} {B tx rows nc : Nat} (h : wUndo I B rows nc) (hs : sameC I J B tx) : wUndo J B rows nc :=
  h.kept (fun k h1 h2 _ => hs.1 k (by unfold essK; omega)) (by rw [hs.1 200 (by unfold essK; omega)]) (by rw [Nat.add_assoc]; exact hs.1 _ (by unfold essK; omega))
theorem wUndo.keptR {I J : Nat → Nat → Int32} {B rows nc : Nat} (h : wUndo I B rows nc) (hs : sameR I J B) : wUndo J B rows nc :=
  h.kept (fun k h1 h2 _ => hs.1 k (by omega)) (hs.2.2 52 (by unfold essF; omega)) (hs.2.1 33 (by unfold essA; omega))
theorem famR.of {f g : Nat → Int32} {rows : Nat} {len : Nat → Nat} {col : Nat → Nat → Nat} {tm pd : Int32} (h : famR f rows len col tm pd) (hr : rows ≤ 4) (hl : ∀ r, r < rows → len r ≤ 8) (he : ∀ k, k < 38 → g k = f k) : famR g rows len col tm pd := by
  obtain ⟨h1, h2, h3, h4, h5⟩ := h
  refine ⟨fun r hr' => by rw [he r (by omega)]; exact h1 r hr', fun r q1 q2 => by rw [he r (by omega)]; exact h2 r q1 q2, fun r hr' i hi => ?_, by rw [he 36 (by omega)]; exact h4, by rw [he 37 (by omega)]; exact h5⟩
  have := hl r hr'
  rw [he _ (by omega)]
  exact h3 r hr' i hi
theorem famC.len {I : Nat → Nat → Int32} {a la ca rows nc : Nat} {len : Nat → Nat} {col : Nat → Nat → Nat} {tm pd : Int32} (h : famC I a la ca rows nc len col tm pd) : rows ≤ 4 ∧ ∀ r, r < rows → len r ≤ 8 := ⟨h.2.2.2.1, fun r hr => (h.2.2.2.2 r hr).1.2.1⟩
/-- what was is remembered on both sides -/
theorem wUndo.push {I K : Nat → Nat → Int32} {B rows nc u nw : Nat} {len : Nat → Nat} {col : Nat → Nat → Nat} {tm pd : Int32} (hC : famC I (B + 33) (B + 34) (B + 35) rows nc len col tm pd) (hR : famR (I (B + 200 + 29)) rows len col tm pd)
    (a1 : u ≤ 40) (a2 : nw < 40) (a6 : ∀ p, p < u → ∃ len col tm pd, famC I (B + (49 + 3 * rgX u nw p)) (B + (50 + 3 * rgX u nw p)) (B + (51 + 3 * rgX u nw p)) rows nc len col tm pd ∧ famR (fun k => I (B + 200 + 33) (38 * p + k)) rows len col tm pd)
    (k1 : K (B + 45) 0 = nI (if u < 40 then u + 1 else 40)) (k2 : K (B + 45) 1 = nI (rgS nw)) (k3 : famEq I K (B + (49 + 3 * rgS nw)) (B + (50 + 3 * rgS nw)) (B + (51 + 3 * rgS nw)) (B + 33) (B + 34) (B + 35)) (k4 : ∀ k, 49 ≤ k → k ≤ 168 → k ≠ 49 + 3 * rgS nw → k ≠ 50 + 3 * rgS nw → k ≠ 51 + 3 * rgS nw → K (B + k) = I (B + k))
    (k5 : K (B + 200) 52 = nI (if u < 40 then u + 1 else 40)) (k6 : ∀ k, k < 38 → K (B + 200 + 33) (38 * (if u < 40 then u else 39) + k) = I (B + 200 + 29) k) (k7 : ∀ j, j < 38 * (if u < 40 then u else 39) → K (B + 200 + 33) j = I (B + 200 + 33) (j + 38 * (if u < 40 then 0 else 1))) : wUndo K B rows nc := by
  have hS : rgS nw < 40 := by unfold rgS; split <;> omega
  have hS2 : rgS nw = (nw + 1) % 40 := by unfold rgS; split <;> omega
  refine ⟨_, _, ?_, hS, k1, k2, k5, fun p hp => ?_⟩
  · split <;> omega
  · rcases Classical.em (p = if u < 40 then u else 39) with e | e
    · have ex : rgX (if u < 40 then u + 1 else 40) (rgS nw) p = rgS nw := by unfold rgX; rw [hS2, e]; by_cases q : u < 40 <;> simp only [q, if_true, if_false] <;> omega
      rw [ex]
      refine ⟨len, col, tm, pd, hC.copy k3, hR.of hC.len.1 hC.len.2 fun k hk => ?_⟩
      rw [e]
      exact k6 k hk
    · have hp2 : p < if u < 40 then u else 39 := by by_cases q : u < 40 <;> simp only [q, if_true, if_false] at hp e ⊢ <;> omega
      have hp3 : p + (if u < 40 then 0 else 1) < u := by split at hp2 <;> split <;> omega
      obtain ⟨len', col', tm', pd', b1, b2⟩ := a6 _ hp3
      have ex : rgX (if u < 40 then u + 1 else 40) (rgS nw) p = rgX u nw (p + (if u < 40 then 0 else 1)) := by
        unfold rgX
        rw [hS2]
        by_cases q : u < 40
        · simp only [q, if_true] at hp2 ⊢
          omega
        · simp only [q, if_false] at hp2 ⊢
          omega
      have ey : rgX u nw (p + (if u < 40 then 0 else 1)) ≠ rgS nw := by
        unfold rgX
        rw [hS2]
        by_cases q : u < 40
        · simp only [q, if_true] at hp2 ⊢
          omega
        · simp only [q, if_false] at hp2 ⊢
          omega
      rw [ex]
      have hx : rgX u nw (p + (if u < 40 then 0 else 1)) < 40 := Nat.mod_lt _ (by omega)
      generalize rgX u nw (p + (if u < 40 then 0 else 1)) = X at b1 ey hx
      refine ⟨len', col', tm', pd', b1.kept (k4 _ (by omega) (by omega) (by omega) (by omega) (by omega)) (k4 _ (by omega) (by omega) (by omega) (by omega) (by omega)) (k4 _ (by omega) (by omega) (by omega) (by omega) (by omega)), b2.of b1.len.1 b1.len.2 fun k hk => ?_⟩
      show K (B + 200 + 33) (38 * p + k) = I (B + 200 + 33) (38 * (p + (if u < 40 then 0 else 1)) + k)
      rw [k7 _ (by split at hp2 <;> split <;> omega)]
      congr 1
      rw [Nat.mul_add]
      omega
