/-! fields, arrays, new cells, returns -/
/-- a class of the picture: its words stand in the tables, its fields' types -/
def z_Cl (ci : Nat) (r : vw_C) (ty : Nat → FieldType) : Prop := vwCl[ci]? = some r ∧ (∀ w ∈ u_ws r.1 r.2.1 r.2.2, w ∈ z_tb) ∧ (∀ k, k < r.2.2 → parseFieldDescriptor (r.2.1 k).2.2.1 = some (ty k)) ∧ ∀ a, a < r.2.2 → ∀ b, b < r.2.2 → a ≠ b → (r.2.1 a).2.1 ≠ (r.2.1 b).2.1
theorem z_at {D : zD} {B : Nat} {σ : zS} {H : Heap} {a : Nat} {k : zT} (h : z_Wd D B σ H) (ha : z_lay σ a = some k) : B ≤ a ∧ z_ok D σ a H k := h.2.2.2 a k ha
theorem z_getf {D : zD} {B : Nat} {σ : zS} {H : Heap} {s : State} {a ci k : Nat} {r : vw_C} {ty : Nat → FieldType} {args : Array Value} (hK : z_Kw D B s) (hts : ∀ w ∈ z_tb, w.before args s = true) (hc : z_Cl ci r ty) (hk : k < r.2.2) (hW : z_Wd D B σ H) (ha : z_lay σ a = some (.inr ci)) :
    ∃ (cf : ClassId) (kf : Class) (fi : Nat) (f : Field) (cell : Cell), s.fieldFound? (r.2.1 k).1 (r.2.1 k).2.1 (r.2.1 k).2.2.1 = some (cf, kf, fi, f) ∧ f.isStatic = false ∧ H[a]? = some cell ∧ cell.vm = .none ∧ cell.cls = D.1 ci ∧ cell.slots[f.slot]? = some (z_fv σ ci a k) ∧ f.slot = D.2.1 ci k ∧ ∀ j, j < r.2.2 → cell.slots[D.2.1 ci j]? = some (z_fv σ ci a j) := by
  obtain ⟨-, r', h1, cell, q1, q2, q3, q4⟩ := z_at hW ha
  have hr : r' = r := Option.some.inj (h1.symm.trans hc.1)
  subst hr
  obtain ⟨hS, hfc, kC, hkC, hkind⟩ := hK.1.1 ci _ hc.1
  obtain ⟨cf, kf, fi, f, hi, hsl⟩ := hS k hk
  exact ⟨cf, kf, fi, f, cell, hi, (u_facts hfc hkC (u_lays hts hc.2.1 hk) hi).1, q1, q3, q2, by rw [hsl]; exact q4 k hk, hsl, q4⟩
theorem z_apart {D : zD} {B : Nat} {s : State} {ci : Nat} {r : vw_C} {ty : Nat → FieldType} {args : Array Value} (hK : z_Kw D B s) (hts : ∀ w ∈ z_tb, w.before args s = true) (hc : z_Cl ci r ty) : ∀ x y, x < r.2.2 → y < r.2.2 → x ≠ y → (D.2.1 ci) x ≠ (D.2.1 ci) y :=
  va_apart (own := "") hts hc.2.1 ty hc.2.2.1 hc.2.2.2 hK.1 hc.1
section ROWS
variable {l : Launch} {D : zD} {B : Nat} {X : zX} {sz0 : Nat} {post : Option Value → zS → Prop} {α : Type} {J : α → Prop} {pc : Nat} {k : zK α}
def q_getI (ci f : Nat) (k : zK α) : zK α := fun ls st σ => match st with
  | .ref a :: r => if z_lay σ a = some (.inr ci) then k ls (.int (σ.1 a f) :: r) σ else none
  | _ => none
def q_getR (ci f : Nat) (k : zK α) : zK α := fun ls st σ => match st with
  | .ref a :: r => if z_lay σ a = some (.inr ci) then match σ.2.2.1 a f with
    | some b => k ls (.ref b :: r) σ
    | none => none else none
  | _ => none
theorem s_getI {i ci f : Nat} {r : vw_C} {ty : Nat → FieldType} (d : decode X.2.1 pc = .ok (.getfield i, 3)) (hc : z_Cl ci r ty) (hf : f < r.2.2) (hr : z_isR ci f = false) (hw : Cond.fieldLink X.1 i (r.2.1 f).1 (r.2.1 f).2.1 (r.2.1 f).2.2.1 ∈ z_tb) (h : zSnd l D B X sz0 post (pc + 3) k J) : zSnd l D B X sz0 post pc (q_getI ci f k) J := by
  intro ls st σ a ha hJ
  unfold q_getI at ha
  split at ha
  · split at ha
    · rename_i hl
      intro hA hB p e s m args below meth c H locs lsA F w
      obtain ⟨cf, kf, fi, fd, cell, hi, hst, q1, q3, -, q4, -, -⟩ := z_getf F.2.2.2.2.2.2.2.2 F.2.2.2.2.1 hc hf w.1 hl
      refine W.getf F.1 F.2.1 F.2.2.2.1 (F.2.2.2.2.1 _ hw) hi hst q1 (by rw [q3]; exact fun z => by cases z) q4 rfl rfl d ?_
      unfold z_fv
      rw [if_neg (by rw [hr]; decide)]
      exact h _ _ σ a ha hJ hA hB p e s m args below meth c H locs lsA F w
    · cases ha
  · cases ha
theorem s_getR {i ci f : Nat} {r : vw_C} {ty : Nat → FieldType} (d : decode X.2.1 pc = .ok (.getfield i, 3)) (hc : z_Cl ci r ty) (hf : f < r.2.2) (hr : z_isR ci f = true) (hw : Cond.fieldLink X.1 i (r.2.1 f).1 (r.2.1 f).2.1 (r.2.1 f).2.2.1 ∈ z_tb) (h : zSnd l D B X sz0 post (pc + 3) k J) : zSnd l D B X sz0 post pc (q_getR ci f k) J := by
  intro ls st σ a ha hJ
  unfold q_getR at ha
  split at ha
  · split at ha
    · rename_i hl
      split at ha
      · rename_i b hb
        intro hA hB p e s m args below meth c H locs lsA F w
        obtain ⟨cf, kf, fi, fd, cell, hi, hst, q1, q3, -, q4, -, -⟩ := z_getf F.2.2.2.2.2.2.2.2 F.2.2.2.2.1 hc hf w.1 hl
        refine W.getf F.1 F.2.1 F.2.2.2.1 (F.2.2.2.2.1 _ hw) hi hst q1 (by rw [q3]; exact fun z => by cases z) q4 rfl rfl d ?_
        unfold z_fv
        rw [if_pos hr, hb]
        exact h _ _ σ a ha hJ hA hB p e s m args below meth c H locs lsA F w
      · cases ha
    · cases ha
  · cases ha
/-- the world behind a store into a field -/
theorem z_put {σ σ' : zS} {H H1 : Heap} {s : State} {a ci f slot : Nat} {r : vw_C} {ty : Nat → FieldType} {args : Array Value} {cell : Cell} {v : Value} (hK : z_Kw D B s) (hts : ∀ w ∈ z_tb, w.before args s = true) (hc : z_Cl ci r ty) (hf : f < r.2.2) (hW : z_Wd D B σ H) (hl : z_lay σ a = some (.inr ci)) (ho : z_off a σ σ') (hcl : cell.cls = D.1 ci) (hvm : cell.vm = .none) (hsl : slot = D.2.1 ci f) (q4 : ∀ j, j < r.2.2 → cell.slots[D.2.1 ci j]? = some (z_fv σ ci a j))
    (e1 : H1[a]? = some (cell.setSlot slot v)) (e2 : H1.size = H.size) (e3 : ∀ q : Nat, q ≠ a → H1[q]? = H[q]?) (hv : z_fv σ' ci a f = v) (hv' : ∀ j, j ≠ f → z_fv σ' ci a j = z_fv σ ci a j) : z_Wd D B σ' H1 := by
  refine z_wr hW ho e2 e3 (fun kk hkk => ?_)
  rw [hl] at hkk
  cases hkk
  subst hsl
  refine ⟨r, hc.1, t_OB.to (V := updV (z_fv σ ci a) f v) ⟨_, e1, hcl, hvm, t_set q4 (z_apart hK hts hc) hf v⟩ (fun j _ => ?_)⟩
  by_cases hj : j = f
  · subst hj
    simp [updV, hv]
  · simp [updV, hj, hv' j hj]
def q_putI (ci f : Nat) (k : zK α) : zK α := fun ls st σ => match st with
  | .int v :: .ref a :: r => if z_lay σ a = some (.inr ci) then k ls r (z_stI σ a f v) else none
  | _ => none
def q_putZ (ci f : Nat) (k : zK α) : zK α := fun ls st σ => match st with
  | .int v :: .ref a :: r => if z_lay σ a = some (.inr ci) ∧ (v = 0 ∨ v = 1) then k ls r (z_stI σ a f v) else none
  | _ => none
def q_putR (ci f : Nat) (k : zK α) : zK α := fun ls st σ => match st with
  | .ref v :: .ref a :: r => if z_lay σ a = some (.inr ci) then k ls r (z_stR σ a f (some v)) else none
  | _ => none
theorem z_fvI {ci a f : Nat} {σ : zS} {v : Int32} (hr : z_isR ci f = false) : z_fv (z_stI σ a f v) ci a f = .int v := by simp [z_fv, hr, z_stI, z_up]
theorem z_fvI' {ci a f j : Nat} {σ : zS} {v : Int32} (hj : j ≠ f) : z_fv (z_stI σ a f v) ci a j = z_fv σ ci a j := by simp [z_fv, z_stI, z_up, hj]
theorem z_fvR {ci a f v : Nat} {σ : zS} (hr : z_isR ci f = true) : z_fv (z_stR σ a f (some v)) ci a f = .ref v := by simp [z_fv, hr, z_stR, z_up, va_rf]
theorem z_fvR' {ci a f j : Nat} {σ : zS} {v : Option Nat} (hj : j ≠ f) : z_fv (z_stR σ a f v) ci a j = z_fv σ ci a j := by simp [z_fv, z_stR, z_up, hj]
theorem s_putI {i ci f : Nat} {r : vw_C} {ty : Nat → FieldType} (d : decode X.2.1 pc = .ok (.putfield i, 3)) (hc : z_Cl ci r ty) (hf : f < r.2.2) (hr : z_isR ci f = false) (hfin : (r.2.1 f).2.2.2 = false) (hty : ty f = .int) (hw : Cond.fieldLink X.1 i (r.2.1 f).1 (r.2.1 f).2.1 (r.2.1 f).2.2.1 ∈ z_tb) (h : zSnd l D B X sz0 post (pc + 3) k J) : zSnd l D B X sz0 post pc (q_putI ci f k) J := by
  intro ls st σ a ha hJ
  unfold q_putI at ha
  split at ha
  · split at ha
    · rename_i v a0 rest hl
      intro hA hB p e s m args below meth c H locs lsA F w
      obtain ⟨cf, kf, fi, fd, cell, hi, hst, q1, q3, q2, q4, q5, q6⟩ := z_getf F.2.2.2.2.2.2.2.2 F.2.2.2.2.1 hc hf w.1 hl
      obtain ⟨hS, hfc, kC, hkC, hkind⟩ := F.2.2.2.2.2.2.2.2.1.1 ci _ hc.1
      have hlay := F.2.2.2.2.1 _ (hc.2.1 _ (u_in_lay hf))
      unfold u_lay at hlay
      rw [if_neg (by rw [hfin]; decide)] at hlay
      have h6 := u_store (v := .int v) hfc hkC hkind hlay hi (hc.2.2.1 f hf) (by rw [hty]; rfl) (by rw [hty]; rfl)
      refine W.putK F.1 F.2.1 (f := fd) ⟨F.2.2.2.1, F.2.2.2.2.1 _ hw, ⟨_, _, _, hi⟩, hst⟩ (by rw [q2]; exact h6) q1 q3 (k2_hasslot q4) rfl rfl d fun H' e1 e2 e3 => ?_
      refine h _ _ _ a ha hJ hA hB p e s m args below meth c H' _ lsA F ⟨z_put (σ' := z_stI σ a0 f v) F.2.2.2.2.2.2.2.2 F.2.2.2.2.1 hc hf w.1 hl (z_offI _ _ _ _) q2 q3 q5 q6 e1 e2 e3 (z_fvI hr) (fun j hj => z_fvI' hj), fun q hq => ?_, fun q hq => ?_, w.2.2.2⟩
      · rw [e3 q (Nat.ne_of_lt (Nat.lt_of_lt_of_le hq (z_at w.1 hl).1))]
        exact w.2.1 q hq
      · rcases List.mem_append.mp hq with hq | hq
        · exact w.2.2.1 q hq
        · rw [List.mem_singleton.mp hq]
          exact (z_at w.1 hl).1
    · cases ha
  · cases ha
theorem s_putZ {i ci f : Nat} {r : vw_C} {ty : Nat → FieldType} (d : decode X.2.1 pc = .ok (.putfield i, 3)) (hc : z_Cl ci r ty) (hf : f < r.2.2) (hr : z_isR ci f = false) (hfin : (r.2.1 f).2.2.2 = false) (hty : ty f = .boolean) (hw : Cond.fieldLink X.1 i (r.2.1 f).1 (r.2.1 f).2.1 (r.2.1 f).2.2.1 ∈ z_tb) (h : zSnd l D B X sz0 post (pc + 3) k J) : zSnd l D B X sz0 post pc (q_putZ ci f k) J := by
  intro ls st σ a ha hJ
  unfold q_putZ at ha
  split at ha
  · split at ha
    · rename_i v a0 rest hl
      intro hA hB p e s m args below meth c H locs lsA F w
      obtain ⟨cf, kf, fi, fd, cell, hi, hst, q1, q3, q2, q4, q5, q6⟩ := z_getf F.2.2.2.2.2.2.2.2 F.2.2.2.2.1 hc hf w.1 hl.1
      obtain ⟨hS, hfc, kC, hkC, hkind⟩ := F.2.2.2.2.2.2.2.2.1.1 ci _ hc.1
      have hlay := F.2.2.2.2.1 _ (hc.2.1 _ (u_in_lay hf))
      unfold u_lay at hlay
      rw [if_neg (by rw [hfin]; decide)] at hlay
      have h6 := u_store (v := .int v) hfc hkC hkind hlay hi (hc.2.2.1 f hf) (by rw [hty]; rcases hl.2 with rfl | rfl <;> rfl) (by rw [hty]; rcases hl.2 with rfl | rfl <;> rfl)
      refine W.putK F.1 F.2.1 (f := fd) ⟨F.2.2.2.1, F.2.2.2.2.1 _ hw, ⟨_, _, _, hi⟩, hst⟩ (by rw [q2]; exact h6) q1 q3 (k2_hasslot q4) rfl rfl d fun H' e1 e2 e3 => ?_
      refine h _ _ _ a ha hJ hA hB p e s m args below meth c H' _ lsA F ⟨z_put (σ' := z_stI σ a0 f v) F.2.2.2.2.2.2.2.2 F.2.2.2.2.1 hc hf w.1 hl.1 (z_offI _ _ _ _) q2 q3 q5 q6 e1 e2 e3 (z_fvI hr) (fun j hj => z_fvI' hj), fun q hq => ?_, fun q hq => ?_, w.2.2.2⟩
      · rw [e3 q (Nat.ne_of_lt (Nat.lt_of_lt_of_le hq (z_at w.1 hl.1).1))]
        exact w.2.1 q hq
      · rcases List.mem_append.mp hq with hq | hq
        · exact w.2.2.1 q hq
        · rw [List.mem_singleton.mp hq]
          exact (z_at w.1 hl.1).1
    · cases ha
  · cases ha
theorem s_putR {i ci f : Nat} {r : vw_C} {ty : Nat → FieldType} (d : decode X.2.1 pc = .ok (.putfield i, 3)) (hc : z_Cl ci r ty) (hf : f < r.2.2) (hr : z_isR ci f = true) (hfin : (r.2.1 f).2.2.2 = false) (hty : (∃ n, ty f = .object n) ∨ ∃ t, ty f = .array t) (hw : Cond.fieldLink X.1 i (r.2.1 f).1 (r.2.1 f).2.1 (r.2.1 f).2.2.1 ∈ z_tb) (h : zSnd l D B X sz0 post (pc + 3) k J) : zSnd l D B X sz0 post pc (q_putR ci f k) J := by
  intro ls st σ a ha hJ
  unfold q_putR at ha
  split at ha
  · split at ha
    · rename_i v a0 rest hl
      intro hA hB p e s m args below meth c H locs lsA F w
      obtain ⟨cf, kf, fi, fd, cell, hi, hst, q1, q3, q2, q4, q5, q6⟩ := z_getf F.2.2.2.2.2.2.2.2 F.2.2.2.2.1 hc hf w.1 hl
      obtain ⟨hS, hfc, kC, hkC, hkind⟩ := F.2.2.2.2.2.2.2.2.1.1 ci _ hc.1
      have hlay := F.2.2.2.2.1 _ (hc.2.1 _ (u_in_lay hf))
      unfold u_lay at hlay
      rw [if_neg (by rw [hfin]; decide)] at hlay
      have h6 := u_store (v := .ref v) hfc hkC hkind hlay hi (hc.2.2.1 f hf) (by rcases hty with ⟨n, e⟩ | ⟨n, e⟩ <;> rw [e] <;> rfl) (by rcases hty with ⟨n, e⟩ | ⟨n, e⟩ <;> rw [e] <;> rfl)
      refine W.putK F.1 F.2.1 (f := fd) ⟨F.2.2.2.1, F.2.2.2.2.1 _ hw, ⟨_, _, _, hi⟩, hst⟩ (by rw [q2]; exact h6) q1 q3 (k2_hasslot q4) rfl rfl d fun H' e1 e2 e3 => ?_
      refine h _ _ _ a ha hJ hA hB p e s m args below meth c H' _ lsA F ⟨z_put (σ' := z_stR σ a0 f (some v)) F.2.2.2.2.2.2.2.2 F.2.2.2.2.1 hc hf w.1 hl (z_offR _ _ _ _) q2 q3 q5 q6 e1 e2 e3 (z_fvR hr) (fun j hj => z_fvR' hj), fun q hq => ?_, fun q hq => ?_, w.2.2.2⟩
      · rw [e3 q (Nat.ne_of_lt (Nat.lt_of_lt_of_le hq (z_at w.1 hl).1))]
        exact w.2.1 q hq
      · rcases List.mem_append.mp hq with hq | hq
        · exact w.2.2.1 q hq
        · rw [List.mem_singleton.mp hq]
          exact (z_at w.1 hl).1
    · cases ha
  · cases ha
theorem s_putRF {i ci f : Nat} {r : vw_C} {ty : Nat → FieldType} (d : decode X.2.1 pc = .ok (.putfield i, 3)) (hc : z_Cl ci r ty) (hf : f < r.2.2) (hr : z_isR ci f = true) (hfin : (r.2.1 f).2.2.2 = true) (hdecl : (r.2.1 f).1 = X.1) (hini : X.2.2.2.2.1 = true) (hty : (∃ n, ty f = .object n) ∨ ∃ t, ty f = .array t) (hw : Cond.fieldLink X.1 i (r.2.1 f).1 (r.2.1 f).2.1 (r.2.1 f).2.2.1 ∈ z_tb) (h : zSnd l D B X sz0 post (pc + 3) k J) : zSnd l D B X sz0 post pc (q_putR ci f k) J := by
  intro ls st σ a ha hJ
  unfold q_putR at ha
  split at ha
  · split at ha
    · rename_i v a0 rest hl
      intro hA hB p e s m args below meth c H locs lsA F w
      obtain ⟨cf, kf, fi, fd, cell, hi, hst, q1, q3, q2, q4, q5, q6⟩ := z_getf F.2.2.2.2.2.2.2.2 F.2.2.2.2.1 hc hf w.1 hl
      obtain ⟨hS, hfc, kC, hkC, hkind⟩ := F.2.2.2.2.2.2.2.2.1.1 ci _ hc.1
      have hlay := F.2.2.2.2.1 _ (hc.2.1 _ (u_in_lay hf))
      unfold u_lay at hlay
      rw [if_pos hfin] at hlay
      have hcf : m.cls = cf := by
        obtain ⟨_, _, c', _, _, _, -, -, hf', -, -, -, hown2, -⟩ := Cond.laysFinal_spec hlay
        have e1 : c' = cf := by have := hi.symm.trans hf'; simp at this; exact this.1.symm
        rw [hdecl] at hown2
        rw [← e1]; exact Option.some.inj (F.2.2.2.1.symm.trans hown2)
      have h6 := u_fits (v := .ref v) hfc hkC hkind (Or.inr hlay) hi (hc.2.2.1 f hf) (by rcases hty with ⟨n, e⟩ | ⟨n, e⟩ <;> rw [e] <;> rfl) (by rcases hty with ⟨n, e⟩ | ⟨n, e⟩ <;> rw [e] <;> rfl)
      refine W.putFinK F.1 F.2.1 F.2.2.2.1 (F.2.2.2.2.1 _ hw) hi hst hcf (F.2.2.2.2.2.2.2.1 hini) (by rw [q2]; exact h6) q1 q3 (k2_hasslot q4) rfl rfl d fun H' e1 e2 e3 => ?_
      refine h _ _ _ a ha hJ hA hB p e s m args below meth c H' _ lsA F ⟨z_put (σ' := z_stR σ a0 f (some v)) F.2.2.2.2.2.2.2.2 F.2.2.2.2.1 hc hf w.1 hl (z_offR _ _ _ _) q2 q3 q5 q6 e1 e2 e3 (z_fvR hr) (fun j hj => z_fvR' hj), fun q hq => ?_, fun q hq => ?_, w.2.2.2⟩
      · rw [e3 q (Nat.ne_of_lt (Nat.lt_of_lt_of_le hq (z_at w.1 hl).1))]
        exact w.2.1 q hq
      · rcases List.mem_append.mp hq with hq | hq
        · exact w.2.2.1 q hq
        · rw [List.mem_singleton.mp hq]
          exact (z_at w.1 hl).1
    · cases ha
  · cases ha
end ROWS
