/-! the law's entry, once more: the two String constants are not one -/
def z_Pure2 : Prop := ∀ (B b L : Nat) (xs : Nat → Int32) (sA : Nat → Nat), L ≤ 3072 → b < B → (sA 0 ≠ sA 1 ∧ sA 2 ≠ sA 3) → ∃ (σ2 σ4 σ5 : zS),
  fX11_init [.ref B] (z_new (z_s0 B sA) (.inr 11)) = some (none, σ2) ∧ z_sz σ2 = B + 1 + 199 ∧
  fX12_init [.ref (z_sz σ2)] (z_new σ2 (.inr 12)) = some (none, σ4) ∧ z_sz σ4 = z_sz σ2 + 1 + 49 ∧
  kL_law_16 b L xs [some (.ref b), some (.ref B), some (.ref (z_sz σ2)), none] [] σ4 = some (some (.int 1), σ5)
theorem z_pure2 : z_Pure2 := by
  intro B b N xs sA hN hb hS
  have e0 : z_s0 B sA = (fun _ _ => 0, fun _ _ => 0, zz B 0 (fun _ => none) (fun _ _ => none) sA) := by
    have e1 : (fun _ _ => none : Nat → Nat → Option Nat) = (zz B 0 (fun _ => none) (fun _ _ => none) sA).1 := funext fun a => funext fun k => by
      show none = if a < B then none else (none : Option Nat).map (B + ·)
      split <;> rfl
    have e2 : (fun _ => none : Nat → Option zT) = (zz B 0 (fun _ => none) (fun _ _ => none) sA).2.1 := funext fun a => by
      show none = if a < B then none else none
      split <;> rfl
    have key : ∀ (r1 r2 : Nat → Nat → Option Nat) (l1 l2 : Nat → Option zT), r1 = r2 → l1 = l2 → ((fun _ _ => 0, fun _ _ => 0, r1, l1, B, sA) : zS) = (fun _ _ => 0, fun _ _ => 0, r2, l2, B, sA) := fun r1 r2 l1 l2 p q => by rw [p, q]
    exact key _ _ _ _ e1 e2
  have e3 : z_new (z_s0 B sA) (.inr 11) = (fun _ _ => 0, fun _ _ => 0, zz B 1 oL0 oR0 sA) := by
    rw [e0]
    exact z_new_zz (s := 0) (fun _ _ _ => rfl) (fun _ _ _ => rfl) (Nat.zero_le _)
  obtain ⟨I, a1, a2⟩ := p_init11 (I := fun _ _ => 0) (L := fun _ _ => 0) (B := B) (sA := sA) (fun _ _ => rfl) (fun _ _ _ => rfl)
  have e4 : z_new (I, (fun _ _ => 0), zz B 200 oLF oRF sA) (.inr 12) = (I, (fun _ _ => 0), zz B 201 nL0 nR0 sA) := z_new_zz (s := B + 200) (fun a k ha => a2.2.2.2.2.2 a k (by omega)) (fun _ _ _ => rfl) (Nat.le_refl _)
  obtain ⟨J, b1, b2⟩ := p_init12 (L := fun _ _ => 0) (sA := sA) a2 (fun _ _ => rfl)
  obtain ⟨σ', c1⟩ := law_all (b := b) (xs := xs) hN (law_first (L := fun _ _ => 0) hS a2 b2)
  exact ⟨_, _, σ', (congrArg (fX11_init [.ref B]) e3).trans a1, rfl, (congrArg (fX12_init [.ref (B + 200)]) e4).trans b1, rfl, c1⟩
theorem z_two {sA : Nat → Nat} {B : Nat} {s : State} (h : z_E sA B s) : sA 0 ≠ sA 1 ∧ sA 2 ≠ sA 3 := by
  obtain ⟨h1, h2⟩ := h.1
  refine ⟨fun e => absurd (h2 0 1 (by decide) (by decide) e) (by decide), fun e => ?_⟩
  obtain ⟨c1, p1, -, -, -, q1, -⟩ := (h1 0 (by decide)).2.2.2
  obtain ⟨c2, p2, -, -, -, q2, -⟩ := (h1 1 (by decide)).2.2.2
  have p1 : s.heap[sA 2]? = some c1 := p1
  have p2 : s.heap[sA 3]? = some c2 := p2
  rw [e, p2] at p1
  cases p1
  rw [q1] at q2
  exact absurd q2 (by decide)
set_option maxHeartbeats 4000000 in
theorem z_start2 (hPure : z_Pure2) {p : Program} {e : Env} {s : State} {m : MethodId} {below : List Frame} {meth : Method} {c : Code} (l : Launch) {b L : Nat} {xs : Nat → Int32} (hL : L ≤ 3072) (C0 : lw_At p s m meth c b L xs) : W p l e room_1 s m #[Value.ref b] below meth c s.heap [] 0 0 (lw_Z below #[Value.ref b] s) (entryFrame m ([Value.ref b] : List Value).toArray 4) := by
  obtain ⟨hx, hb, hr, hml, hown, hts0, hX, hbl, hlocks, hgv⟩ := C0
  obtain ⟨D, hD, hK⟩ := z_world hts0 hX hbl hgv
  have hts : ∀ w ∈ z_tb, w.before #[Value.ref b] s = true := fun w hw => hts0 w (List.mem_filter.mp hw).1
  obtain ⟨σ2, σ4, σ5, e1, e2, e3, e4, e5⟩ := hPure s.heap.size b L xs D.2.2.2.1 hL hbl (z_two hK.2.2.2.1)
  have hW0 : z_Wd D s.heap.size (z_s0 s.heap.size D.2.2.2.1) s.heap := ⟨rfl, Nat.le_refl _, fun i => rfl, fun a k h => by cases h⟩
  rw [lg_entry_eq]
  have hl := z_entry ([.ref b]) (n := 4) (Nat.le_of_ble_eq_true rfl)
  generalize (lg_sl ([.ref b]) ++ List.replicate (4 - (lg_sl ([.ref b])).length) Slot.unset).toArray = lsA at hl ⊢
  have hl : z_lv lsA 4 [some (.ref b), none, none, none] := hl
  have hKn := hK.1.1 11 _ rfl
  refine W.newcK (C := RX11) (n := 13) hx hb hown (hts _ (z_in (in_t1 (List.mem_of_getElem? (i := 22) rfl)) rfl)) (hts _ (z_in (in_t1 (List.mem_of_getElem? (i := 23) rfl)) rfl)) (hts _ (z_in (in_t1 (List.mem_of_getElem? (i := 1) rfl)) rfl)) rfl dL_law_0 (Nat.le_of_ble_eq_true rfl) (Nat.le_of_ble_eq_true rfl) hKn.2.1 rfl fun H1 kC hkC c1 z1 o1 => ?_
  have hW1 : z_Wd D s.heap.size (z_new (z_s0 s.heap.size D.2.2.2.1) (.inr 11)) H1 := z_mk _ hW0 z1 o1 ⟨_, clX11.1, (u_born tyX11 hts clX11.2.1 hKn hkC c1 clX11.2.2.1).to (fun j hj => by rw [dfX11 j hj]; simp [z_fv, z_new, z_row0, va_rf])⟩
  have ho1 : ∀ q : Nat, q < s.heap.size → H1[q]? = s.heap[q]? := o1
  refine lv_dup hx hb dL_law_3 rfl ?_
  refine z_after (D := D) (B := s.heap.size) (r := (none, σ2)) (va_runI (cc := code) (nL := 4) (As := []) (b := s.heap.size) (rest := [.ref s.heap.size]) ⟨hx, hb, hml, hown, hts⟩ (mX11_init (l := l) (D := D) (B := s.heap.size) _ _ _ e1) ⟨z_callB (X := xL_law) meX11_init reX11_init (by unfold z_Fit; simp only [xX11_init, xL_law, room_1]; exact ⟨by decide, by decide⟩) hts (z_in (in_t1 (List.mem_of_getElem? (i := 24) rfl)) rfl), rfl, hts _ (z_in (in_t1 (List.mem_of_getElem? (i := 25) rfl)) rfl)⟩ (z_pre hW1 hK ho1) rfl rfl hl.1 rfl (lv_room (Nat.le_of_ble_eq_true rfl)) dL_law_4 ⟨Nat.le_of_ble_eq_true rfl, Nat.le_of_ble_eq_true rfl⟩) ho1 (fun _ h => absurd h List.not_mem_nil) fun H2 locs2 hW2 ho2 hL2 => ?_
  refine lv_astore_n hx hb dL_law_7 rfl hl.has (by decide) rfl (fun lsB hlB => ?_)
  have hlB := hl.store (i := 1) (v := .ref s.heap.size) rfl hlB
  have hlB : z_lv lsB 4 [some (.ref b), some (.ref s.heap.size), none, none] := hlB
  have hKn2 := hK.1.1 12 _ rfl
  have hB2 : s.heap.size ≤ z_sz σ2 := by omega
  refine W.newcK (C := RX12) (n := 74) hx hb hown (hts _ (z_in (in_t6 (List.mem_of_getElem? (i := 38) rfl)) rfl)) (hts _ (z_in (in_t6 (List.mem_of_getElem? (i := 39) rfl)) rfl)) (hts _ (z_in (in_t1 (List.mem_of_getElem? (i := 13) rfl)) rfl)) rfl dL_law_8 (Nat.le_of_ble_eq_true rfl) (Nat.le_of_ble_eq_true rfl) hKn2.2.1 hW2.1 fun H3 kC3 hkC3 c3 z3 o3 => ?_
  have hW3 : z_Wd D s.heap.size (z_new σ2 (.inr 12)) H3 := z_mk _ hW2 (by rw [z3, hW2.1]) (fun q hq => o3 q (by rw [← hW2.1]; exact hq)) ⟨_, clX12.1, (u_born tyX12 hts clX12.2.1 hKn2 hkC3 c3 clX12.2.2.1).to (fun j hj => by rw [dfX12 j hj]; simp [z_fv, z_new, z_row0, va_rf])⟩
  have ho3 : ∀ q : Nat, q < s.heap.size → H3[q]? = s.heap[q]? := fun q hq => (o3 q (Nat.lt_of_lt_of_le hq hB2)).trans (ho2 q hq)
  refine lv_dup hx hb dL_law_11 rfl ?_
  refine z_after (D := D) (B := s.heap.size) (r := (none, σ4)) (va_runI (cc := code) (nL := 4) (As := []) (b := z_sz σ2) (rest := [.ref (z_sz σ2)]) ⟨hx, hb, hml, hown, hts⟩ (mX12_init (l := l) (D := D) (B := s.heap.size) _ _ _ e3) ⟨z_callB (X := xL_law) meX12_init reX12_init (by unfold z_Fit; simp only [xX12_init, xL_law, room_1]; exact ⟨by decide, by decide⟩) hts (z_in (in_t6 (List.mem_of_getElem? (i := 40) rfl)) rfl), rfl, hts _ (z_in (in_t6 (List.mem_of_getElem? (i := 41) rfl)) rfl)⟩ (z_pre hW3 hK ho3) rfl rfl hlB.1 rfl (lv_room (Nat.le_of_ble_eq_true rfl)) dL_law_12 ⟨Nat.le_of_ble_eq_true rfl, Nat.le_of_ble_eq_true rfl⟩) ho3 hL2 fun H4 locs4 hW4 ho4 hL4 => ?_
  refine lv_astore_n hx hb dL_law_15 rfl hlB.has (by decide) rfl (fun lsC hlC => ?_)
  have hlC := hlB.store (i := 2) (v := .ref (z_sz σ2)) rfl hlC
  have hlC : z_lv lsC 4 [some (.ref b), some (.ref s.heap.size), some (.ref (z_sz σ2)), none] := hlC
  have hfin := tL_law_16 (l := l) (D := D) (B := s.heap.size) (sz0 := z_sz σ4) (post := fun v _ => v = some (.int 1)) [some (.ref b), some (.ref s.heap.size), some (.ref (z_sz σ2)), none] [] σ4 (some (.int 1), σ5) (by rw [hD]; exact e5) rfl (Nat.le_add_right _ _) (Nat.le_refl _) p e s m #[Value.ref b] below meth c H4 locs4 lsC ⟨hx, hb, hml, hown, hts, hlocks, hr, (fun h => by cases h), hK⟩ ⟨hW4, ho4, hL4, hlC⟩
  rw [Nat.sub_self] at hfin
  refine W.widen (k := 600000) (n := 7302250) (Nat.le_of_ble_eq_true rfl) (Nat.le_of_ble_eq_true rfl) ?_
  refine z_mono ?_ hfin
  intro t ht
  obtain ⟨o, q1, q2, ⟨v, σ, rfl, rfl, -, -⟩, Lx, hF, hLx⟩ := ht
  refine ⟨_, q1, q2, rfl, ⟨_, rfl⟩, hF.2.1, ?_⟩
  exact State.sameButNew.drop_fresh (L := []) (J := Lx) hF.2.2 hLx
