--deps: 54.lazy 54.mem 55.mem2 56.rmem
/-! what a law's tokens spell: kinds K, numbers W; an answer is (fault, place, code) -/
abbrev sR : Type := Nat × Nat × List (Nat × Nat)
def sBind {α β : Type} (d : β) (q : Nat × Nat × α) (f : Nat → α → Nat × Nat × β) : Nat × Nat × β := if q.1 ≠ 0 then (q.1, q.2.1, d) else f q.2.1 q.2.2
theorem sBind_no {α β : Type} {d : β} {q : Nat × Nat × α} {f : Nat → α → Nat × Nat × β} (h : q.1 ≠ 0) : sBind d q f = (q.1, q.2.1, d) := if_pos h
theorem sBind_yes {α β : Type} {d : β} {q : Nat × Nat × α} {f : Nat → α → Nat × Nat × β} (h : q.1 = 0) : sBind d q f = f q.2.1 q.2.2 := if_neg (fun z => z h)
theorem sBind_ok {α β : Type} {d : β} {q : Nat × Nat × α} {f : Nat → α → Nat × Nat × β} {j : Nat} {b : β} (h : sBind d q f = (0, j, b)) : q.1 = 0 ∧ f q.2.1 q.2.2 = (0, j, b) := by
  rcases Classical.em (q.1 = 0) with g | g
  · exact ⟨g, by rw [← h, sBind_yes g]⟩
  · rw [sBind_no g] at h
    exact absurd (congrArg Prod.fst h) g
def sAdv {α : Type} (i : Nat) (d c : α) : Nat × Nat × α := if 400 ≤ i then (2, i, d) else (0, i + 1, c)
def sLeaf (K W : Nat → Nat) (i : Nat) : sR := if K i = 21 then sAdv i [] [(0, W i)] else if 11 ≤ K i ∧ K i ≤ 19 then sAdv i [] [(1, K i - 11)] else (1, i, [])
def sOp (k : Nat) : Nat := if k = 43 then 2 else if k = 45 then 3 else if k = 42 then 4 else if k = 47 then 5 else 0
def sJoin (S : Option (List (Nat × Nat) × Nat)) (P : List (Nat × Nat)) : List (Nat × Nat) := match S with
  | none => P
  | some q => q.1 ++ P ++ [(q.2, 0)]
def sTl (U : Nat → sR) (K : Nat → Nat) : Nat → Nat → Option (List (Nat × Nat) × Nat) → List (Nat × Nat) → sR
  | 0, j, S, P => (0, j, sJoin S P)
  | n + 1, j, S, P => if sOp (K j) = 0 then (0, j, sJoin S P) else sBind [] (sAdv j () ()) fun j1 _ => sBind [] (U j1) fun j2 c =>
    if 4 ≤ sOp (K j) then sTl U K n j2 S (P ++ c ++ [(sOp (K j), 0)]) else sTl U K n j2 (some (sJoin S P, sOp (K j))) c
def sEx (U : Nat → sR) (K : Nat → Nat) (i : Nat) : sR := sBind [] (U i) fun j c => sTl U K 400 j none c
def sMust (K : Nat → Nat) (k i : Nat) : Nat × Nat × Unit := if K i = k then sAdv i () () else (1, i, ())
def sUn (K W : Nat → Nat) : Nat → Nat → sR
  | 0, i => if K i = 40 then (2, i, []) else sLeaf K W i
  | m + 1, i => if K i = 40 then sBind [] (sAdv i () ()) fun j _ => sBind [] (sEx (sUn K W m) K j) fun j c => sBind [] (sMust K 41 j) fun j _ => (0, j, c) else sLeaf K W i
/-- an expression, no bracket around it -/
def sE (K W : Nat → Nat) (i : Nat) : sR := sEx (sUn K W 6) K i
abbrev sB : Type := Option (List (Nat × Nat) × List (Nat × Nat)) × List (Nat × Nat)
/-- if one < other then term else -/
def sIf (K W : Nat → Nat) (i : Nat) : Nat × Nat × sB :=
  sBind (none, []) (sAdv i () ()) fun i _ => sBind (none, []) (sE K W i) fun i c1 => sBind (none, []) (sMust K 60 i) fun i _ => sBind (none, []) (sE K W i) fun i c2 => sBind (none, []) (sMust K 9 i) fun i _ => sBind (none, []) (sE K W i) fun i c3 => sBind (none, []) (sMust K 10 i) fun i _ => (0, i, (some (c1, c2), c3))
/-- behind the sign =; so many more may be tested -/
def sLw (K W : Nat → Nat) : Nat → Nat → Nat × Nat × List sB
  | 0, i => if K i = 8 then (2, i, []) else sBind [] (sE K W i) fun j c => (0, j, [(none, c)])
  | n + 1, i => if K i = 8 then sBind [] (sIf K W i) fun j b => sBind [] (sLw K W n j) fun j bs => (0, j, b :: bs) else sBind [] (sE K W i) fun j c => (0, j, [(none, c)])
/-- the tokens of the class's text -/
def tokC (I : Nat → Nat → Int32) (L : Nat → Nat → Int64) (B tx : Nat) (K W : Nat → Nat) (sz : Nat) : Prop := I (B + (tx + 1)) 3 = nI sz ∧ sz ≤ 401 ∧ (∀ i, i < sz → I (B + (tx + 2)) i = nI (K i) ∧ K i < 64 ∧ (K i = 21 → L (B + (tx + 3)) i = Int64.ofNat (W i) ∧ W i < 10000)) ∧ ∀ i, sz ≤ i → K i = 22
/-- the reference's code from a place on -/
def segR (I : Nat → Nat → Int32) (M p : Nat) (c : List (Nat × Nat)) : Prop := p + c.length ≤ 840 ∧ ∀ k q, c[k]? = some q → I (M + 24) (p + k) = nI q.1 ∧ I (M + 25) (p + k) = nI q.2
def brR (I : Nat → Nat → Int32) (M b : Nat) (q : sB) : Prop := ∃ p, I (M + 22) b = nI p ∧ I (M + 23) b = nI (p + q.2.length) ∧ segR I M p q.2 ∧
  match q.1 with
  | none => I (M + 19) b = nI 0
  | some t => I (M + 19) b = nI 1 ∧ ∃ p1 p2, I (M + 20) b = nI p1 ∧ I (M + 21) b = nI p2 ∧ p2 = p1 + t.1.length ∧ p = p2 + t.2.length ∧ segR I M p1 t.1 ∧ segR I M p2 t.2
def lawR (I : Nat → Nat → Int32) (B tx lv k : Nat) (K W : Nat → Nat) : Prop :=
  (I (B + (tx + 13)) k = nM1 ∧ ∃ f, f ≤ 260 ∧ I (B + 200 + 17) (4 * lv + k) = nI f ∧ I (B + 200 + 18) (4 * lv + k) = nI f) ∨
  ∃ s j f bs, I (B + (tx + 13)) k = nI s ∧ s ≤ 400 ∧ sLw K W 4 s = (0, j, bs) ∧ I (B + 200 + 17) (4 * lv + k) = nI f ∧ I (B + 200 + 18) (4 * lv + k) = nI (f + bs.length) ∧ f + bs.length ≤ 260 ∧ ∀ b q, bs[b]? = some q → brR I (B + 200) (f + b) q
/-- a law's branches and code lie in the half of the text in force -/
def lawH (I : Nat → Nat → Int32) (B lv k : Nat) : Prop := ∀ f e, f ≤ 260 → e ≤ 260 → I (B + 200 + 17) (4 * lv + k) = nI f → I (B + 200 + 18) (4 * lv + k) = nI e → f < e → 130 * lv ≤ f ∧ e ≤ 130 * lv + 130 ∧ ∀ b, f ≤ b → b < e → (∀ p, p ≤ 840 → I (B + 200 + 22) b = nI p → 420 * lv ≤ p) ∧ (∀ p, p ≤ 840 → I (B + 200 + 23) b = nI p → p ≤ 420 * lv + 420) ∧ ∀ p, p ≤ 840 → I (B + 200 + 19) b = nI 1 → I (B + 200 + 20) b = nI p → 420 * lv ≤ p
def wLaw (I : Nat → Nat → Int32) (L : Nat → Nat → Int64) (B tx lv : Nat) : Prop := ∃ K W sz, tokC I L B tx K W sz ∧ (∀ k, k < 4 → lawR I B tx lv k K W) ∧ ∀ k, k < 4 → lawH I B lv k
