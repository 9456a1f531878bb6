--deps: 54.lazy 54.mem 55.mem2 56.rmem 57.spec 58.inv 59.keep
/-! a call's end, when the family has changed and what was is remembered -/
def okOp (fc fr : zF) (args : List Value) (I : Nat → Nat → Int32) (L : Nat → Nat → Int64) (Z : zZ) (B tx lv nc : Nat) (ch : Nat → Nat → Nat) (rows : Nat) : Prop := ∃ (v : Int32) (I1 I2 : Nat → Nat → Int32), fc (.ref B :: args) (I, L, Z) = some (some (.int v), (I1, L, Z)) ∧ fr (.ref (B + 200) :: args) (I1, L, Z) = some (some (.int v), (I2, L, Z)) ∧ wRest I2 L Z B tx lv nc ch rows ∧ ∃ len col tm pd, wFam I2 B tx lv nc ch rows len col tm pd
theorem askOp.ok {fc fr : zF} {args : List Value} {I : Nat → Nat → Int32} {L : Nat → Nat → Int64} {Z : zZ} {B tx lv nc : Nat} {ch : Nat → Nat → Nat} {rows : Nat} {len : Nat → Nat} {col : Nat → Nat → Nat} {tm pd : Int32} (hW : wRest I L Z B tx lv nc ch rows) (hF : wFam I B tx lv nc ch rows len col tm pd) (ha : askOp fc fr args I L Z B tx) : okOp fc fr args I L Z B tx lv nc ch rows := by
  obtain ⟨v, I1, I2, a1, a2, a3, a4⟩ := ha
  have htx := hW.1.1
  exact ⟨v, I1, I2, a1, a3, (hW.kept a2.fam).kept (a4.fam htx), len, col, tm, pd, (hF.1.kept a2).keptR htx a4, (hF.2.1.keptC a2).kept a4, (hF.2.2.keptC a2).keptR a4⟩
theorem r_rec {I : Nat → Nat → Int32} {L : Nat → Nat → Int64} {Z : zZ} {M u : Nat} (h : isMod Z M) (hu : I M 52 = nI u) (hu40 : u ≤ 40) :
    ∃ I', fX12_records [.ref M] (I, L, Z) = some (none, (I', L, Z)) ∧ I' M 52 = nI (if u < 40 then u + 1 else 40) ∧ (∀ j, j < 38 → I' (M + 29) j = I (M + 30) j) ∧ (∀ k, k < 38 → I' (M + 33) (38 * (if u < 40 then u else 39) + k) = I (M + 29) k) ∧ (∀ j, j < 38 * (if u < 40 then u else 39) → I' (M + 33) j = I (M + 33) (j + 38 * (if u < 40 then 0 else 1))) ∧ (∀ q, q ≠ M → q ≠ M + 29 → q ≠ M + 33 → I' q = I q) ∧ ∀ j, j ≠ 52 → I' M j = I M j := by
  by_cases q : u < 40
  · simp only [q, if_true, Nat.mul_zero, Nat.add_zero]
    exact r_records h hu q
  · have e : u = 40 := by omega
    subst e
    simp only [q, if_false, Nat.mul_one]
    obtain ⟨I', a1, a2, a3, a4, a5, a6, a7⟩ := r_recordsF (L := L) h hu
    exact ⟨I', a1, a2, a3, fun k hk => a4 k hk, fun j hj => a5 j (by omega), a6, a7⟩
theorem finF {I J1 J2 K1 N1 N2 : Nat → Nat → Int32} {L : Nat → Nat → Int64} {Z : zZ} {B tx lv nc : Nat} {ch : Nat → Nat → Nat} {rows u nw : Nat} {len len' : Nat → Nat} {col col' : Nat → Nat → Nat} {tm pd tm' pd' : Int32}
    (hW : wRest I L Z B tx lv nc ch rows) (hV : cV I B tx nc ch rows len col tm pd) (hR : rV I (B + 200) lv nc ch rows len col tm pd)
    (a1 : u ≤ 40) (a2 : nw < 40) (a6 : ∀ p, p < u → ∃ len col tm pd, famC I (B + (49 + 3 * rgX u nw p)) (B + (50 + 3 * rgX u nw p)) (B + (51 + 3 * rgX u nw p)) rows nc len col tm pd ∧ famR (fun k => I (B + 200 + 33) (38 * p + k)) rows len col tm pd)
    (c1 : sameC I J1 B tx)
    (m1 : J2 (B + 45) 0 = nI (if u < 40 then u + 1 else 40)) (m2 : J2 (B + 45) 1 = nI (rgS nw)) (m3 : famEq J1 J2 (B + (49 + 3 * rgS nw)) (B + (50 + 3 * rgS nw)) (B + (51 + 3 * rgS nw)) (B + 33) (B + 34) (B + 35)) (m4 : ∀ q, q ≠ B + 45 → q ≠ B + (49 + 3 * rgS nw) → q ≠ B + (50 + 3 * rgS nw) → q ≠ B + (51 + 3 * rgS nw) → J2 q = J1 q)
    (f1 : ∀ k, (k < 33 ∨ 35 < k) → (essK tx k ∨ k = tx + 5 ∨ k = 191 ∨ k = 44 ∨ k = 181 ∨ k = 189 ∨ k = 198) → K1 (B + k) = J2 (B + k)) (f2 : famC K1 (B + 33) (B + 34) (B + 35) rows nc len' col' tm' pd')
    (n1 : sameR K1 N1 B) (n2 : famR (N1 (B + 200 + 30)) rows len' col' tm' pd')
    (r1 : N2 (B + 200) 52 = nI (if u < 40 then u + 1 else 40)) (r2 : ∀ j, j < 38 → N2 (B + 200 + 29) j = N1 (B + 200 + 30) j) (r3 : ∀ k, k < 38 → N2 (B + 200 + 33) (38 * (if u < 40 then u else 39) + k) = N1 (B + 200 + 29) k) (r4 : ∀ j, j < 38 * (if u < 40 then u else 39) → N2 (B + 200 + 33) j = N1 (B + 200 + 33) (j + 38 * (if u < 40 then 0 else 1))) (r5 : ∀ q, q ≠ B + 200 → q ≠ B + 200 + 29 → q ≠ B + 200 + 33 → N2 q = N1 q) (r6 : ∀ j, j ≠ 52 → N2 (B + 200) j = N1 (B + 200) j) :
    wRest N2 L Z B tx lv nc ch rows ∧ wFam N2 B tx lv nc ch rows len' col' tm' pd' := by
  have htx := hW.1.1
  have hS : rgS nw < 40 := by unfold rgS; split <;> omega
  have x1 : ∀ k, k < 200 → N2 (B + k) = K1 (B + k) := fun k hk => by rw [r5 _ (by omega) (by omega) (by omega), n1.1 k hk]
  have x2 : ∀ k, 200 ≤ k → K1 (B + k) = I (B + k) := fun k hk => by rw [f1 k (by omega) (Or.inl (by unfold essK; omega)), m4 _ (by omega) (by omega) (by omega) (by omega), c1.1 k (by unfold essK; omega)]
  have x3 : ∀ k, essA k → k ≠ 29 → k ≠ 33 → N2 (B + 200 + k) = I (B + 200 + k) := fun k hk e1 e2 => by
    have : 1 ≤ k := by unfold essA at hk; omega
    rw [r5 _ (by omega) (by omega) (by omega), n1.2.1 k hk, Nat.add_assoc, x2 _ (by omega)]
  have x4 : ∀ j, essF j → j ≠ 52 → N2 (B + 200) j = I (B + 200) j := fun j hj e1 => by rw [r6 j e1, n1.2.2 j hj, x2 200 (by omega)]
  have x5 : ∀ k, k < 200 → essK tx k → ¬ (33 ≤ k ∧ k ≤ 35) → k ≠ 45 → ¬ (49 ≤ k ∧ k ≤ 168) → N2 (B + k) = I (B + k) := fun k h1 h2 h3 h4 h5 => by
    rw [x1 k h1, f1 k (by omega) (Or.inl h2), m4 _ (by omega) (by omega) (by omega) (by omega), c1.1 k h2]
  have x6 : ∀ k, k < 200 → (k = tx + 5 ∨ k = 191 ∨ k = 44 ∨ k = 181 ∨ k = 189 ∨ k = 198) → N2 (B + k) = J1 (B + k) := fun k h1 h2 => by
    rw [x1 k h1, f1 k (by omega) (Or.inr h2), m4 _ (by omega) (by omega) (by omega) (by omega)]
  have hs : famSame I N2 B tx := by
    refine ⟨x5, by rw [x6 (tx + 5) (by omega) (Or.inl rfl)]; exact c1.2.1, by rw [x6 191 (by omega) (by omega)]; exact c1.2.2.1, fun hz => ?_, x3, x4⟩
    have hz1 := c1.2.2.2 hz
    intro x hx
    rw [x6 44 (by omega) (by omega), x6 181 (by omega) (by omega), x6 189 (by omega) (by omega), x6 198 (by omega) (by omega)]
    exact hz1 x hx
  refine ⟨hW.kept hs, ?_, ?_, ?_⟩
  · obtain ⟨h1, h2, h3, h4, h5, h6⟩ := hV
    refine ⟨by rw [hs.2.1]; exact h1, h2, h3, ?_, h5, f2.kept (x1 33 (by omega)) (x1 34 (by omega)) (x1 35 (by omega))⟩
    unfold tabI
    rw [x5 (tx + 6) (by omega) (by unfold essK; omega) (by omega) (by omega) (by omega)]
    exact h4
  · refine ⟨hR.1.kept (x4 18 (by unfold essF; omega) (by omega)) (x3 9 (by unfold essA; omega) (by omega) (by omega)) (x3 11 (by unfold essA; omega) (by omega) (by omega)), by rw [x3 13 (by unfold essA; omega) (by omega) (by omega)]; exact hR.2.1, n2.of f2.len.1 f2.len.2 r2⟩
  · have z1 : J1 (B + 33) = I (B + 33) := c1.1 33 (by unfold essK; omega)
    have z2 : J1 (B + 34) = I (B + 34) := c1.1 34 (by unfold essK; omega)
    have z3 : J1 (B + 35) = I (B + 35) := c1.1 35 (by unfold essK; omega)
    have y1 : ∀ k, 45 ≤ k → k ≤ 168 → N2 (B + k) = J2 (B + k) := fun k h1 h2 => by rw [x1 k (by omega), f1 k (by omega) (Or.inl (by unfold essK; omega))]
    refine wUndo.push hV.2.2.2.2.2 hR.2.2 a1 a2 a6 ?_ ?_ ?_ ?_ r1 ?_ ?_
    · rw [y1 45 (by omega) (by omega)]; exact m1
    · rw [y1 45 (by omega) (by omega)]; exact m2
    · unfold famEq at m3 ⊢
      rw [y1 _ (by omega) (by omega), y1 _ (by omega) (by omega), y1 _ (by omega) (by omega), ← z1, ← z2, ← z3]
      exact m3
    · intro k h1 h2 h3 h4 h5
      rw [y1 k (by omega) (by omega), m4 _ (by omega) (by omega) (by omega) (by omega), c1.1 k (by unfold essK; omega)]
    · intro k hk
      rw [r3 k hk, n1.2.1 29 (by unfold essA; omega), Nat.add_assoc, x2 _ (by omega)]
    · intro j hj
      rw [r4 j hj, n1.2.1 33 (by unfold essA; omega), Nat.add_assoc, x2 _ (by omega)]
def fUp {β : Type} (f : Nat → β) (r : Nat) (v : β) : Nat → β := fun q => if q = r then v else f q
theorem fUp_at {β : Type} {f : Nat → β} {r : Nat} {v : β} : fUp f r v r = v := if_pos rfl
theorem fUp_ne {β : Type} {f : Nat → β} {r q : Nat} {v : β} (h : q ≠ r) : fUp f r v q = f q := if_neg h
