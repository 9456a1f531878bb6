--deps: 54.lazy 54.mem 55.mem2 56.rmem 57.spec 58.inv 59.keep 60.fin 61.ops2 62.ops3 63.tape 64.told
/-! what a law's code is worth; none: a division by 0 -/
def opv (k : Nat) (a b : Int32) : Int32 := if k = 2 then a + b else if k = 3 then a - b else if k = 4 then a * b else a / b
def ev (vs : Nat → Int32) : List (Nat × Nat) → List Int32 → Option (List Int32)
  | [], st => some st
  | q :: c, st => if q.1 = 0 then ev vs c (nI q.2 :: st) else if q.1 = 1 then ev vs c (vs q.2 :: st) else match st with
    | b :: a :: r => if q.1 = 5 ∧ b = nI 0 then none else ev vs c (opv q.1 a b :: r)
    | _ => none
theorem ev_cons (vs : Nat → Int32) (q : Nat × Nat) (c : List (Nat × Nat)) (st : List Int32) : ev vs (q :: c) st = if q.1 = 0 then ev vs c (nI q.2 :: st) else if q.1 = 1 then ev vs c (vs q.2 :: st) else match st with
    | b :: a :: r => if q.1 = 5 ∧ b = nI 0 then none else ev vs c (opv q.1 a b :: r)
    | _ => none := by
  cases st with
  | nil => rfl
  | cons b st => cases st <;> rfl
theorem ev_app (vs : Nat → Int32) (d : List (Nat × Nat)) : ∀ (c : List (Nat × Nat)) (st : List Int32), ev vs (c ++ d) st = (ev vs c st).bind (ev vs d)
  | [], st => by simp [ev]
  | q :: c, st => by
    rw [List.cons_append, ev_cons, ev_cons]
    split
    · exact ev_app vs d c _
    · split
      · exact ev_app vs d c _
      · cases st with
        | nil => rfl
        | cons b st =>
          cases st with
          | nil => rfl
          | cons a st =>
            show (if q.1 = 5 ∧ b = nI 0 then none else ev vs (c ++ d) (opv q.1 a b :: st)) = Option.bind (if q.1 = 5 ∧ b = nI 0 then none else ev vs c (opv q.1 a b :: st)) (ev vs d)
            split
            · rfl
            · exact ev_app vs d c _
/-- code that lays one value down -/
def valE (vs : Nat → Int32) (c : List (Nat × Nat)) (o : Option Int32) : Prop := ∀ st, ev vs c st = o.map (· :: st)
def opO (k : Nat) (o p : Option Int32) : Option Int32 := o.bind fun a => p.bind fun b => if k = 5 ∧ b = nI 0 then none else some (opv k a b)
theorem valE_lit (vs : Nat → Int32) (n : Nat) : valE vs [(0, n)] (some (nI n)) := fun st => by simp [ev]
theorem valE_var (vs : Nat → Int32) (n : Nat) : valE vs [(1, n)] (some (vs n)) := fun st => by simp [ev]
theorem valE_op {vs : Nat → Int32} {c d : List (Nat × Nat)} {o p : Option Int32} {k : Nat} (hk : 2 ≤ k) (hc : valE vs c o) (hd : valE vs d p) : valE vs (c ++ d ++ [(k, 0)]) (opO k o p) := by
  intro st
  rw [ev_app, ev_app, hc]
  cases o with
  | none => rfl
  | some a =>
    show ((ev vs d (a :: st)).bind (ev vs [(k, 0)])) = _
    rw [hd]
    cases p with
    | none => rfl
    | some b =>
      show ev vs [(k, 0)] (b :: a :: st) = _
      have h0 : k ≠ 0 := by omega
      have h1 : k ≠ 1 := by omega
      simp only [ev, h0, h1, if_false, opO, Option.bind_some]
      split <;> rfl
/-- a branch that is taken: none, the next one; some w, w is answered -/
def evT (a b o : Option Int32) : Option (Option Int32) := match a, b with
  | some u, some v => if u < v then some o else none
  | _, _ => some none
def evB (vs : Nat → Int32) (q : sB) : Option (Option Int32) := match q.1 with
  | none => some ((ev vs q.2 []).bind List.head?)
  | some t => evT ((ev vs t.1 []).bind List.head?) ((ev vs t.2 []).bind List.head?) ((ev vs q.2 []).bind List.head?)
def evL (vs : Nat → Int32) : List sB → Int32
  | [] => nI 0
  | q :: bs => match evB vs q with
    | some o => o.getD (nI 0)
    | none => evL vs bs
theorem evL_cons (vs : Nat → Int32) (q : sB) (bs : List sB) : evL vs (q :: bs) = match evB vs q with
    | some o => o.getD (nI 0)
    | none => evL vs bs := rfl
theorem valE.get {vs : Nat → Int32} {c : List (Nat × Nat)} {o : Option Int32} (h : valE vs c o) : (ev vs c []).bind List.head? = o := by
  rw [h]
  cases o <;> rfl
/-! the places of what is read -/
theorem sAdv_ok {α : Type} {i j : Nat} {d c e : α} (h : sAdv i d c = (0, j, e)) : i < 400 ∧ j = i + 1 ∧ e = c := by
  unfold sAdv at h
  split at h
  · cases h
  · cases h
    exact ⟨by omega, rfl, rfl⟩
theorem sMust_ok {K : Nat → Nat} {k i j : Nat} {e : Unit} (h : sMust K k i = (0, j, e)) : K i = k ∧ i < 400 ∧ j = i + 1 := by
  unfold sMust at h
  split at h
  · rename_i g
    obtain ⟨h1, h2, -⟩ := sAdv_ok h
    exact ⟨g, h1, h2⟩
  · cases h
theorem pr3 {α : Type} {q : Nat × Nat × α} (h : q.1 = 0) : q = (0, q.2.1, q.2.2) := by
  rw [← h]
/-- no ELSE between -/
def noEl (K : Nat → Nat) (i j : Nat) : Prop := i < j ∧ j ≤ 400 ∧ ∀ t, i ≤ t → t < j → K t ≠ 10
theorem noEl.cat {K : Nat → Nat} {i j k : Nat} (h1 : noEl K i j) (h2 : noEl K j k) : noEl K i k :=
  ⟨Nat.lt_trans h1.1 h2.1, h2.2.1, fun t a b => by
    rcases Nat.lt_or_ge t j with q | q
    · exact h1.2.2 t a q
    · exact h2.2.2 t q b⟩
theorem noEl.one {K : Nat → Nat} {i : Nat} (h : i < 400) (hk : K i ≠ 10) : noEl K i (i + 1) := ⟨by omega, by omega, fun t a b => by
  have e : t = i := by omega
  subst e
  exact hk⟩
theorem sTl_noEl {U : Nat → sR} {K : Nat → Nat} (hU : ∀ i j c, U i = (0, j, c) → noEl K i j) : ∀ n j S P j' c, sTl U K n j S P = (0, j', c) → j' = j ∨ noEl K j j' := by
  intro n
  induction n with
  | zero =>
    intro j S P j' c h
    cases h
    exact Or.inl rfl
  | succ n ih =>
    intro j S P j' c h
    rw [sTl] at h
    split at h
    · cases h
      exact Or.inl rfl
    · rename_i g
      obtain ⟨h1, h2⟩ := sBind_ok h
      obtain ⟨a1, a2, -⟩ := sAdv_ok (pr3 h1)
      obtain ⟨h3, h4⟩ := sBind_ok h2
      have b1 := hU _ _ _ (pr3 h3)
      rw [a2] at b1
      have g1 : K j ≠ 10 := fun z => by rw [z] at g; exact g (by decide)
      have b2 := (noEl.one a1 g1).cat b1
      right
      rw [a2] at h4
      split at h4
      · rcases ih _ _ _ _ _ h4 with e | e
        · rw [e]; exact b2
        · exact b2.cat e
      · rcases ih _ _ _ _ _ h4 with e | e
        · rw [e]; exact b2
        · exact b2.cat e
theorem sEx_noEl {U : Nat → sR} {K : Nat → Nat} (hU : ∀ i j c, U i = (0, j, c) → noEl K i j) {i j : Nat} {c : List (Nat × Nat)} (h : sEx U K i = (0, j, c)) : noEl K i j := by
  obtain ⟨h1, h2⟩ := sBind_ok h
  have b1 := hU _ _ _ (pr3 h1)
  rcases sTl_noEl hU _ _ _ _ _ _ h2 with e | e
  · rw [e]; exact b1
  · exact b1.cat e
theorem sLeaf_noEl {K W : Nat → Nat} {i j : Nat} {c : List (Nat × Nat)} (h : sLeaf K W i = (0, j, c)) : noEl K i j := by
  unfold sLeaf at h
  split at h
  · obtain ⟨a1, a2, -⟩ := sAdv_ok h
    rw [a2]
    exact noEl.one a1 (by omega)
  · split at h
    · obtain ⟨a1, a2, -⟩ := sAdv_ok h
      rw [a2]
      exact noEl.one a1 (by omega)
    · cases h
theorem sUn_noEl {K W : Nat → Nat} : ∀ m i j c, sUn K W m i = (0, j, c) → noEl K i j := by
  intro m
  induction m with
  | zero =>
    intro i j c h
    rw [sUn] at h
    split at h
    · cases h
    · exact sLeaf_noEl h
  | succ m ih =>
    intro i j c h
    rw [sUn] at h
    split at h
    · rename_i g
      obtain ⟨h1, h2⟩ := sBind_ok h
      obtain ⟨a1, a2, -⟩ := sAdv_ok (pr3 h1)
      obtain ⟨h3, h4⟩ := sBind_ok h2
      have b1 := sEx_noEl ih (pr3 h3)
      obtain ⟨h5, h6⟩ := sBind_ok h4
      obtain ⟨c1, c2, c3⟩ := sMust_ok (pr3 h5)
      cases h6
      rw [a2] at b1
      rw [c3]
      rw [a2] at c1 c2 ⊢
      exact ((noEl.one a1 (by omega)).cat b1).cat (noEl.one c2 (by omega))
    · exact sLeaf_noEl h
theorem sE_noEl {K W : Nat → Nat} {i j : Nat} {c : List (Nat × Nat)} (h : sE K W i = (0, j, c)) : noEl K i j := sEx_noEl (sUn_noEl 6) h
