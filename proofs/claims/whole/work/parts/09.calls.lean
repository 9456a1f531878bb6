/-! calls -/
def z_pop : Nat → List Value → List Value → Option (List Value × List Value)
  | 0, acc, st => some (acc, st)
  | n + 1, acc, v :: st => z_pop n (v :: acc) st
  | _ + 1, _, [] => none
theorem z_pop_spec : ∀ (n : Nat) (acc st as r : List Value), z_pop n acc st = some (as, r) → ∃ p : List Value, as = p ++ acc ∧ p.length = n ∧ st = p.reverse ++ r := by
  intro n
  induction n with
  | zero =>
    intro acc st as r h
    cases h
    exact ⟨[], rfl, rfl, rfl⟩
  | succ n ih =>
    intro acc st as r h
    cases st with
    | nil => cases h
    | cons v st =>
      obtain ⟨p, h1, h2, h3⟩ := ih _ _ _ _ h
      exact ⟨p ++ [v], by rw [h1]; simp, by simp [h2], by simp [h3]⟩
/-- what the tables say of a method -/
def z_Me (y : MethodName) (X : zX) (n : Nat) : Prop := Cond.code y X.2.1 X.2.2.1 X.2.2.2.1 ∈ z_tb ∧ Cond.initialized y.cls ∈ z_tb ∧ y.cls ≠ "java/lang/invoke/MethodHandle" ∧ y.cls ≠ "java/lang/invoke/VarHandle" ∧ (parseMethodDescriptor y.desc).map (fun d => d.parameters.length) = some n
theorem z_good2 {y' : MethodName} {b' : ByteArray} {n' : Nat} {r' : Option FieldType} (h : Cond.code y' b' n' r' ∈ z_tb) : GoodIn z_tb (Cond.code y' b' n' r' :: z_tb) := by
  intro w hw
  have hg : ∀ w ∈ z_tb, (w.onTables && w.keeps) = true ∨ ∃ ty, w = .arrayClass ty := fun w h => good_of_word (List.mem_filter.mp h).2
  rcases List.mem_cons.mp hw with rfl | hw
  · exact ⟨h, hg _ h⟩
  · exact ⟨hw, hg _ hw⟩
/-- where the callee's room fits -/
def z_Fit (X' X : zX) : Prop := X'.2.2.2.2.2.1.frames + 1 ≤ X.2.2.2.2.2.1.frames ∧ 8 + (X'.2.2.1 + 11) + X'.2.2.2.2.2.1.locals ≤ X.2.2.2.2.2.1.locals
theorem z_callB {X X' : zX} {y : MethodName} {n i : Nat} {args : Array Value} {s : State} (hM : z_Me y X' n) (hX' : z_Re X') (hf : z_Fit X' X) (hts : ∀ w ∈ z_tb, w.before args s = true) (hl : Cond.methodLink X.1 i y ∈ z_tb) :
    CallB X.2.2.2.2.2.1 s args X.1 i y X'.2.1 X'.2.2.1 X'.2.2.2.1 (.code y X'.2.1 X'.2.2.1 X'.2.2.2.1 :: z_tb) X'.2.2.2.2.2.1 X'.2.2.2.2.2.2.1 (X'.2.2.2.2.2.2.1 * X'.2.2.2.2.2.2.2.1) n :=
  callB_of n hts (z_good2 hM.1) rfl hX'.1 hX'.2 (hts _ hM.2.1) (hts _ hl) hM.2.2 hf
theorem z_callN {X X' : zX} {y : MethodName} {n i : Nat} {host : String} {args : Array Value} {s : State} (hM : z_Me y X' n) (hX' : z_Re X') (hf : z_Fit X' X) (hts : ∀ w ∈ z_tb, w.before args s = true) (hl : va_Nw (.methodLinkNest X.1 i y host) s) :
    va_CN X.2.2.2.2.2.1 s args X.1 i y host X'.2.1 X'.2.2.1 X'.2.2.2.1 (.code y X'.2.1 X'.2.2.1 X'.2.2.2.1 :: z_tb) X'.2.2.2.2.2.1 X'.2.2.2.2.2.2.1 (X'.2.2.2.2.2.2.1 * X'.2.2.2.2.2.2.2.1) n :=
  va_cnB n hts (z_good2 hM.1) rfl hX'.1 hX'.2 hl (hts _ hM.2.1) hM.2.2 hf
theorem z_blind {D : zD} {B : Nat} {as : List Value} {σ : zS} : FrameBlind (fun v U => v = as.toArray ∧ z_Wd D B σ U.heap ∧ z_Kw D B U) := by
  intro a U g mk h
  obtain ⟨h1, h2, h3, h4, h5⟩ := h.2.2.2.2.2.1
  exact ⟨h.1, h.2.1, h.2.2.1.moved (u := U) (U := U.calling g mk a) (Vm.Alike.refl _), fun q hq => va_Nw.same rfl rfl (h.2.2.2.1 q hq), h.2.2.2.2.1.moved (Vm.Alike.refl _), ⟨h1.moved (Vm.Alike.refl _), h2.same rfl, h3.same rfl, h4.moved (Vm.Alike.refl _), h5.moved (Vm.Alike.refl _)⟩, h.2.2.2.2.2.2.1.moved (Vm.Alike.refl _), h.2.2.2.2.2.2.2⟩
theorem z_pre {D : zD} {B : Nat} {as : List Value} {σ : zS} {s : State} {H : Heap} (hW : z_Wd D B σ H) (hK : z_Kw D B s) (ho : ∀ q : Nat, q < B → H[q]? = s.heap[q]?) : PreS s H (fun v U => v = as.toArray ∧ z_Wd D B σ U.heap ∧ z_Kw D B U) as :=
  ⟨z_blind, fun U hU hw => ⟨rfl, by rw [hU]; exact hW, hK.moved hw (fun q hq => by rw [hU]; exact ho q hq)⟩⟩
theorem z_recv {D : zD} {B : Nat} {σ : zS} {s : State} {H : Heap} {b ci : Nat} {r : vw_C} (hW : z_Wd D B σ H) (hK : z_Kw D B s) (hr : vwCl[ci]? = some r) (hl : z_lay σ b = some (.inr ci)) : ∃ cellB : Cell, H[b]? = some cellB ∧ cellB.vm.isStatics = false ∧ s.vm.findClass r.1 = some cellB.cls := by
  obtain ⟨-, r', h1, cell, q1, q2, q3, -⟩ := z_at hW hl
  have e : r' = r := Option.some.inj (h1.symm.trans hr)
  subst e
  exact ⟨cell, q1, by rw [q3]; rfl, by rw [q2]; exact (hK.1.1 ci _ hr).2.1⟩
/-- behind a call -/
theorem z_after {p : Program} {l : Launch} {e : Env} {R : Room} {s : State} {m : MethodId} {args : Array Value} {below : List Frame} {meth : Method} {c : Code} {H : Heap} {locs : List Loc} {cells slots mc ms : Nat} {Q : State → Prop} {pc : Nat} {lsA : Array Slot} {st0 rest : List Value} {D : zD} {B : Nat} {r : zR} {a : Array Value}
    (hr : va_Run p l e R s m args below meth c H locs cells slots mc ms (F0 m pc lsA st0) rest (z_Q D B (fun v σ' => v = r.1 ∧ σ' = r.2) a) (fun q => B ≤ q)) (ho : ∀ q : Nat, q < B → H[q]? = s.heap[q]?) (hL : ∀ q ∈ locs, B ≤ q.base)
    (kk : ∀ (H1 : Heap) (locs1 : List Loc), z_Wd D B r.2 H1 → (∀ q : Nat, q < B → H1[q]? = s.heap[q]?) → (∀ q ∈ locs1, B ≤ q.base) → W p l e R s m args below meth c H1 locs1 (cells + mc) (slots + ms) Q (F0 m (pc + 3) lsA (r.1.toList ++ rest))) : W p l e R s m args below meth c H locs cells slots Q (F0 m pc lsA st0) := by
  intro T hT X
  obtain ⟨v, st₀, t, T', L, h0, X', hL', e1, e2, ⟨v', σ', hv, ⟨hv1, hv2⟩, hW, hold⟩, st⟩ := hr T hT X
  cases hv
  subst hv1
  subst hv2
  obtain ⟨t2, a1, b1⟩ := kk T'.heap (locs ++ L) (by rw [e1]; exact hW) (fun q hq => by rw [e1, hold q hq, h0]; exact ho q hq) (fun q hq => by
    rcases List.mem_append.mp hq with h | h
    · exact hL q h
    · exact hL' q h) T' rfl X'
  exact ⟨t2, st t2 a1, b1⟩
section ROWS
variable {l : Launch} {D : zD} {B : Nat} {X : zX} {sz0 : Nat} {post : Option Value → zS → Prop} {α : Type} {J : α → Prop} {pc : Nat} {k : zK α}
def q_callV (ci : Nat) (G : zF) (n : Nat) (k : zK α) : zK α := fun ls st σ => match z_pop n [] st with
  | some (as, .ref b :: r) => if z_lay σ b = some (.inr ci) ∧ r.length ≤ 4 then match G (.ref b :: as) σ with
      | some q => if z_sz q.2 = z_sz σ then k ls (q.1.toList ++ r) q.2 else none
      | none => none
    else none
  | _ => none
def q_callS (G : zF) (n : Nat) (k : zK α) : zK α := fun ls st σ => match z_pop n [] st with
  | some (as, r) => if r.length ≤ 4 then match G as σ with
      | some q => if z_sz q.2 = z_sz σ then k ls (q.1.toList ++ r) q.2 else none
      | none => none
    else none
  | none => none
def q_ctor (G : zF) (n mc lim : Nat) (k : zK α) : zK α := fun ls st σ => match z_pop n [] st with
  | some (as, .ref b :: r) => if z_sz σ + mc ≤ lim ∧ r.length ≤ 4 then match G (.ref b :: as) σ with
      | some q => if z_sz q.2 = z_sz σ + mc then k ls (q.1.toList ++ r) q.2 else none
      | none => none
    else none
  | _ => none
theorem z_rm0 {X X' : zX} (h0 : X'.2.2.2.2.2.2.1 = 0) (hX : z_Rm X) {sz sz0 : Nat} (ha : sz ≤ sz0 + X.2.2.2.2.2.2.1) : X.2.2.2.2.2.2.2.2.1 + (sz - sz0) + X'.2.2.2.2.2.2.1 ≤ X.2.2.2.2.2.1.cells ∧ X.2.2.2.2.2.2.2.2.2 + (sz - sz0) * X.2.2.2.2.2.2.2.1 + X'.2.2.2.2.2.2.1 * X'.2.2.2.2.2.2.2.1 ≤ X.2.2.2.2.2.1.slots := by
  rw [h0, Nat.zero_mul, Nat.add_zero, Nat.add_zero]
  exact ⟨z_rmc hX ha, z_rms hX ha⟩
theorem s_callV {i ci n : Nat} {y : MethodName} {X' : zX} {G : zF} {r : vw_C} (d : decode X.2.1 pc = .ok (.invokevirtual i, 3)) (hG : z_MF l D B y X' G) (hM : z_Me y X' n) (hin : Cond.instanceMethod y ∈ z_tb) (hse : Cond.selects r.1 y y ∈ z_tb) (hr : vwCl[ci]? = some r) (h0 : X'.2.2.2.2.2.2.1 = 0) (hX' : z_Re X') (hX : z_Rm X) (hf : z_Fit X' X) (hl : Cond.methodLink X.1 i y ∈ z_tb) (h : zSnd l D B X sz0 post (pc + 3) k J) : zSnd l D B X sz0 post pc (q_callV ci G n k) J := by
  intro ls st σ a ha hJ
  unfold q_callV at ha
  split at ha
  case h_2 => cases ha
  rename_i as b rest hp
  split at ha
  case isFalse => cases ha
  rename_i hc
  split at ha
  case h_2 => cases ha
  rename_i q hq
  split at ha
  case isFalse => cases ha
  rename_i hz
  intro hA hB p e s m args below meth c H locs lsA F w
  obtain ⟨pp, e1, e2, e3⟩ := z_pop_spec n [] st as _ hp
  rw [List.append_nil] at e1
  subst e1
  have hts := F.2.2.2.2.1
  have hroom := z_rm0 (X' := X') h0 hX hA
  refine z_after (r := q) (va_runV (As := as) (b := b) (rest := rest) (C := r.1) ⟨F.1, F.2.1, F.2.2.1, F.2.2.2.1, hts⟩ (hG _ _ _ hq) ⟨z_callB hM hX' hf hts hl, hts _ hin, hts _ hse⟩ ⟨z_blind, z_recv w.1 F.2.2.2.2.2.2.2.2 hr hc.1, (z_pre w.1 F.2.2.2.2.2.2.2.2 w.2.1).2⟩ rfl e2 w.2.2.2.1 e3 (lv_room (Nat.le_trans (z_wsum _ 4 hc.2) (by decide))) d hroom) w.2.1 w.2.2.1 fun H1 locs1 hW1 ho1 hL1 => ?_
  have h9 := h _ _ _ a ha hJ (by rw [hz]; exact hA) (by rw [hz]; exact hB) p e s m args below meth c H1 locs1 lsA F ⟨hW1, ho1, hL1, w.2.2.2⟩
  rw [hz] at h9
  rw [h0, Nat.zero_mul]
  exact h9
theorem s_callS {i n : Nat} {y : MethodName} {X' : zX} {G : zF} (d : decode X.2.1 pc = .ok (.invokestatic i, 3)) (hG : z_MF l D B y X' G) (hM : z_Me y X' n) (hst : Cond.static y ∈ z_tb) (h0 : X'.2.2.2.2.2.2.1 = 0) (hX' : z_Re X') (hX : z_Rm X) (hf : z_Fit X' X) (hl : Cond.methodLink X.1 i y ∈ z_tb) (h : zSnd l D B X sz0 post (pc + 3) k J) : zSnd l D B X sz0 post pc (q_callS G n k) J := by
  intro ls st σ a ha hJ
  unfold q_callS at ha
  split at ha
  case h_2 => cases ha
  rename_i as rest hp
  split at ha
  case isFalse => cases ha
  rename_i hc
  split at ha
  case h_2 => cases ha
  rename_i q hq
  split at ha
  case isFalse => cases ha
  rename_i hz
  intro hA hB p e s m args below meth c H locs lsA F w
  obtain ⟨pp, e1, e2, e3⟩ := z_pop_spec n [] st as _ hp
  rw [List.append_nil] at e1
  subst e1
  have hts := F.2.2.2.2.1
  have hroom := z_rm0 (X' := X') h0 hX hA
  refine z_after (r := q) (va_runS (As := as) (rest := rest) ⟨F.1, F.2.1, F.2.2.1, F.2.2.2.1, hts⟩ (hG _ _ _ hq) ⟨z_callB hM hX' hf hts hl, hts _ hst⟩ (z_pre w.1 F.2.2.2.2.2.2.2.2 w.2.1) rfl e2 w.2.2.2.1 e3 (lv_room (Nat.le_trans (z_wsum _ 4 hc) (by decide))) d hroom) w.2.1 w.2.2.1 fun H1 locs1 hW1 ho1 hL1 => ?_
  have h9 := h _ _ _ a ha hJ (by rw [hz]; exact hA) (by rw [hz]; exact hB) p e s m args below meth c H1 locs1 lsA F ⟨hW1, ho1, hL1, w.2.2.2⟩
  rw [hz] at h9
  rw [h0, Nat.zero_mul]
  exact h9
theorem s_callSN {i n : Nat} {y : MethodName} {X' : zX} {G : zF} {host : String} (d : decode X.2.1 pc = .ok (.invokestatic i, 3)) (hG : z_MF l D B y X' G) (hM : z_Me y X' n) (hst : Cond.static y ∈ z_tb) (h0 : X'.2.2.2.2.2.2.1 = 0) (hX' : z_Re X') (hX : z_Rm X) (hf : z_Fit X' X) (hl : (X.1, i, y, host) ∈ z_nest) (h : zSnd l D B X sz0 post (pc + 3) k J) : zSnd l D B X sz0 post pc (q_callS G n k) J := by
  intro ls st σ a ha hJ
  unfold q_callS at ha
  split at ha
  case h_2 => cases ha
  rename_i as rest hp
  split at ha
  case isFalse => cases ha
  rename_i hc
  split at ha
  case h_2 => cases ha
  rename_i q hq
  split at ha
  case isFalse => cases ha
  rename_i hz
  intro hA hB p e s m args below meth c H locs lsA F w
  obtain ⟨pp, e1, e2, e3⟩ := z_pop_spec n [] st as _ hp
  rw [List.append_nil] at e1
  subst e1
  have hts := F.2.2.2.2.1
  have hroom := z_rm0 (X' := X') h0 hX hA
  refine z_after (r := q) (va_runSN (As := as) (rest := rest) ⟨F.1, F.2.1, F.2.2.1, F.2.2.2.1, hts⟩ (hG _ _ _ hq) ⟨z_callN hM hX' hf hts (F.2.2.2.2.2.2.2.2.2.1 _ hl), hts _ hst, trivial⟩ (z_pre w.1 F.2.2.2.2.2.2.2.2 w.2.1) rfl e2 w.2.2.2.1 e3 (lv_room (Nat.le_trans (z_wsum _ 4 hc) (by decide))) d hroom) w.2.1 w.2.2.1 fun H1 locs1 hW1 ho1 hL1 => ?_
  have h9 := h _ _ _ a ha hJ (by rw [hz]; exact hA) (by rw [hz]; exact hB) p e s m args below meth c H1 locs1 lsA F ⟨hW1, ho1, hL1, w.2.2.2⟩
  rw [hz] at h9
  rw [h0, Nat.zero_mul]
  exact h9
theorem z_rm1 {X : zX} {sz sz0 mc M' : Nat} (hX : z_Rm X) (h0 : sz0 ≤ sz) (ha : sz + mc ≤ sz0 + X.2.2.2.2.2.2.1) (hM : M' ≤ X.2.2.2.2.2.2.2.1) : (X.2.2.2.2.2.2.2.2.1 + (sz - sz0) + mc ≤ X.2.2.2.2.2.1.cells ∧ X.2.2.2.2.2.2.2.2.2 + (sz - sz0) * X.2.2.2.2.2.2.2.1 + mc * M' ≤ X.2.2.2.2.2.1.slots) ∧ X.2.2.2.2.2.2.2.2.2 + (sz - sz0) * X.2.2.2.2.2.2.2.1 + mc * M' ≤ X.2.2.2.2.2.2.2.2.2 + (sz - sz0 + mc) * X.2.2.2.2.2.2.2.1 := by
  have h1 : (sz - sz0) * X.2.2.2.2.2.2.2.1 + mc * M' ≤ (sz - sz0 + mc) * X.2.2.2.2.2.2.2.1 := by
    rw [Nat.add_mul]
    exact Nat.add_le_add_left (Nat.mul_le_mul_left _ hM) _
  have h3 := z_rmc hX ha
  have h4 := z_rms hX ha
  rw [show sz + mc - sz0 = sz - sz0 + mc by omega] at h3 h4
  omega
theorem s_ctor {i n lim mc : Nat} {y : MethodName} {X' : zX} {G : zF} (d : decode X.2.1 pc = .ok (.invokespecial i, 3)) (hG : z_MF l D B y X' G) (hM : z_Me y X' n) (hin : Cond.instanceMethod y ∈ z_tb) (hy : y.name = "<init>") (hret : X'.2.2.2.1 = none) (hX' : z_Re X') (hX : z_Rm X) (hf : z_Fit X' X) (hmc : mc = X'.2.2.2.2.2.2.1) (hMx : X'.2.2.2.2.2.2.2.1 ≤ X.2.2.2.2.2.2.2.1) (hlim : lim = sz0 + X.2.2.2.2.2.2.1) (hl : Cond.methodLink X.1 i y ∈ z_tb) (h : zSnd l D B X sz0 post (pc + 3) k J) : zSnd l D B X sz0 post pc (q_ctor G n mc lim k) J := by
  intro ls st σ a ha hJ
  subst hmc
  subst hlim
  unfold q_ctor at ha
  split at ha
  case h_2 => cases ha
  rename_i as b rest hp
  split at ha
  case isFalse => cases ha
  rename_i hc
  split at ha
  case h_2 => cases ha
  rename_i q hq
  split at ha
  case isFalse => cases ha
  rename_i hz
  intro hA hB p e s m args below meth c H locs lsA F w
  obtain ⟨pp, e1, e2, e3⟩ := z_pop_spec n [] st as _ hp
  rw [List.append_nil] at e1
  subst e1
  have hts := F.2.2.2.2.1
  have hroom := z_rm1 (sz := z_sz σ) (sz0 := sz0) (mc := X'.2.2.2.2.2.2.1) hX hB hc.1 hMx
  have cb := z_callB hM hX' hf hts hl
  have hG' := hG _ _ _ hq
  rw [hret] at cb hG'
  refine z_after (r := q) (va_runI (As := as) (b := b) (rest := rest) ⟨F.1, F.2.1, F.2.2.1, F.2.2.2.1, hts⟩ hG' ⟨cb, hy, hts _ hin⟩ (z_pre w.1 F.2.2.2.2.2.2.2.2 w.2.1) rfl e2 w.2.2.2.1 e3 (lv_room (Nat.le_trans (z_wsum _ 4 hc.2) (by decide))) d hroom.1) w.2.1 w.2.2.1 fun H1 locs1 hW1 ho1 hL1 => ?_
  have e9 : z_sz q.2 - sz0 = z_sz σ - sz0 + X'.2.2.2.2.2.2.1 := by rw [hz]; omega
  have h9 := h _ _ _ a ha hJ (by rw [hz]; omega) (by rw [hz]; omega) p e s m args below meth c H1 locs1 lsA F ⟨hW1, ho1, hL1, w.2.2.2⟩
  rw [e9] at h9
  exact W.widen (by omega) hroom.2 h9
theorem s_ctorN {i n lim mc : Nat} {y : MethodName} {X' : zX} {G : zF} {host : String} (d : decode X.2.1 pc = .ok (.invokespecial i, 3)) (hG : z_MF l D B y X' G) (hM : z_Me y X' n) (hin : Cond.instanceMethod y ∈ z_tb) (hy : y.name = "<init>") (hret : X'.2.2.2.1 = none) (hX' : z_Re X') (hX : z_Rm X) (hf : z_Fit X' X) (hmc : mc = X'.2.2.2.2.2.2.1) (hMx : X'.2.2.2.2.2.2.2.1 ≤ X.2.2.2.2.2.2.2.1) (hlim : lim = sz0 + X.2.2.2.2.2.2.1) (hl : (X.1, i, y, host) ∈ z_nest) (h : zSnd l D B X sz0 post (pc + 3) k J) : zSnd l D B X sz0 post pc (q_ctor G n mc lim k) J := by
  intro ls st σ a ha hJ
  subst hmc
  subst hlim
  unfold q_ctor at ha
  split at ha
  case h_2 => cases ha
  rename_i as b rest hp
  split at ha
  case isFalse => cases ha
  rename_i hc
  split at ha
  case h_2 => cases ha
  rename_i q hq
  split at ha
  case isFalse => cases ha
  rename_i hz
  intro hA hB p e s m args below meth c H locs lsA F w
  obtain ⟨pp, e1, e2, e3⟩ := z_pop_spec n [] st as _ hp
  rw [List.append_nil] at e1
  subst e1
  have hts := F.2.2.2.2.1
  have hroom := z_rm1 (sz := z_sz σ) (sz0 := sz0) (mc := X'.2.2.2.2.2.2.1) hX hB hc.1 hMx
  have cb := z_callN hM hX' hf hts (F.2.2.2.2.2.2.2.2.2.1 _ hl)
  have hG' := hG _ _ _ hq
  dsimp only at cb
  rw [hret] at cb hG'
  refine z_after (r := q) (va_runIN (As := as) (b := b) (rest := rest) ⟨F.1, F.2.1, F.2.2.1, F.2.2.2.1, hts⟩ hG' ⟨cb, hy, hts _ hin⟩ (z_pre w.1 F.2.2.2.2.2.2.2.2 w.2.1) rfl e2 w.2.2.2.1 e3 (lv_room (Nat.le_trans (z_wsum _ 4 hc.2) (by decide))) d hroom.1) w.2.1 w.2.2.1 fun H1 locs1 hW1 ho1 hL1 => ?_
  have e9 : z_sz q.2 - sz0 = z_sz σ - sz0 + X'.2.2.2.2.2.2.1 := by rw [hz]; omega
  have h9 := h _ _ _ a ha hJ (by rw [hz]; omega) (by rw [hz]; omega) p e s m args below meth c H1 locs1 lsA F ⟨hW1, ho1, hL1, w.2.2.2⟩
  rw [e9] at h9
  exact W.widen (by omega) hroom.2 h9
end ROWS
