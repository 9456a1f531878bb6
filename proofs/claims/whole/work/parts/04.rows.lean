/-! ROWS: each instruction as a pure step, and why it is the machine's -/
def q_dn {α β : Type} (k : zK α) : zK (β ⊕ α) := fun ls st σ => (k ls st σ).map .inr
def q_ag {α : Type} : zK ((zL × zS) ⊕ α) := fun ls st σ => match st with
  | [] => some (.inl (ls, σ))
  | _ => none
def q_lpN {α : Type} (body : zK ((zL × zS) ⊕ α)) : Nat → zK α
  | 0 => fun _ _ _ => none
  | n + 1 => fun ls st σ => match body ls st σ with
    | some (.inl q) => q_lpN body n q.1 [] q.2
    | some (.inr a) => some a
    | none => none
theorem q_lpN_s {α : Type} (body : zK ((zL × zS) ⊕ α)) (n : Nat) (ls : zL) (st : List Value) (σ : zS) : q_lpN body (n + 1) ls st σ = match body ls st σ with
    | some (.inl q) => q_lpN body n q.1 [] q.2
    | some (.inr a) => some a
    | none => none := rfl
noncomputable def q_lp {α : Type} (body : zK ((zL × zS) ⊕ α)) : zK α := fun ls st σ =>
  haveI := Classical.propDecidable (∃ n, (q_lpN body n ls st σ).isSome)
  if h : ∃ n, (q_lpN body n ls st σ).isSome then q_lpN body h.choose ls st σ else none
theorem q_lpN_mono {α : Type} {body : zK ((zL × zS) ⊕ α)} : ∀ (n : Nat) (ls : zL) (st : List Value) (σ : zS) (a : α), q_lpN body n ls st σ = some a → q_lpN body (n + 1) ls st σ = some a := by
  intro n
  induction n with
  | zero => intro ls st σ a h; cases h
  | succ n ih =>
    intro ls st σ a h
    rw [q_lpN_s] at h ⊢
    cases hb : body ls st σ with
    | none => rw [hb] at h; cases h
    | some o =>
      rw [hb] at h
      cases o with
      | inl q => exact ih _ _ _ _ h
      | inr a' => exact h
theorem q_lpN_le {α : Type} {body : zK ((zL × zS) ⊕ α)} {n m : Nat} (hnm : n ≤ m) {ls : zL} {st : List Value} {σ : zS} {a : α} (h : q_lpN body n ls st σ = some a) : q_lpN body m ls st σ = some a := by
  induction hnm with
  | refl => exact h
  | step _ ih => exact q_lpN_mono _ _ _ _ _ ih
theorem q_lp_of {α : Type} {body : zK ((zL × zS) ⊕ α)} {n : Nat} {ls : zL} {st : List Value} {σ : zS} {a : α} (h : q_lpN body n ls st σ = some a) : q_lp body ls st σ = some a := by
  have hx : ∃ n, (q_lpN body n ls st σ).isSome := ⟨n, by rw [h]; rfl⟩
  unfold q_lp
  rw [dif_pos hx]
  obtain ⟨b, hb⟩ := Option.isSome_iff_exists.mp hx.choose_spec
  rw [hb]
  have h1 := q_lpN_le (Nat.le_max_left n hx.choose) h
  have h2 := q_lpN_le (Nat.le_max_right n hx.choose) hb
  rw [h1] at h2
  exact h2.symm
theorem q_lp_some {α : Type} {body : zK ((zL × zS) ⊕ α)} {ls : zL} {st : List Value} {σ : zS} {a : α} (h : q_lp body ls st σ = some a) : ∃ n, q_lpN body n ls st σ = some a := by
  unfold q_lp at h
  by_cases hx : ∃ n, (q_lpN body n ls st σ).isSome
  · rw [dif_pos hx] at h
    exact ⟨_, h⟩
  · rw [dif_neg hx] at h
    cases h
/-- a loop, once more -/
theorem q_lp_eq {α : Type} (body : zK ((zL × zS) ⊕ α)) (ls : zL) (st : List Value) (σ : zS) : q_lp body ls st σ = match body ls st σ with
    | some (.inl q) => q_lp body q.1 [] q.2
    | some (.inr a) => some a
    | none => none := by
  cases hb : body ls st σ with
  | none =>
    cases hl : q_lp body ls st σ with
    | none => rfl
    | some a =>
      obtain ⟨n, hn⟩ := q_lp_some hl
      cases n with
      | zero => cases hn
      | succ n => rw [q_lpN_s, hb] at hn; cases hn
  | some o =>
    cases o with
    | inr a => exact q_lp_of (n := 1) (by rw [q_lpN_s, hb])
    | inl q =>
      cases hl : q_lp body q.1 [] q.2 with
      | some a =>
        obtain ⟨n, hn⟩ := q_lp_some hl
        show q_lp body ls st σ = q_lp body q.1 [] q.2
        rw [hl]
        exact q_lp_of (n := n + 1) (by rw [q_lpN_s, hb]; exact hn)
      | none =>
        cases hl2 : q_lp body ls st σ with
        | none => exact hl.symm
        | some a =>
          obtain ⟨n, hn⟩ := q_lp_some hl2
          cases n with
          | zero => cases hn
          | succ n =>
            rw [q_lpN_s, hb] at hn
            rw [q_lp_of hn] at hl
            cases hl
def z_Jl (l : Launch) (D : zD) (B : Nat) (X : zX) (sz0 : Nat) (post : Option Value → zS → Prop) (h : Nat) {α : Type} (J : α → Prop) : (zL × zS) ⊕ α → Prop := fun o => match o with
  | .inl q => z_Wp l D B X sz0 post h q.1 [] q.2
  | .inr a => J a
section ROWS
variable {l : Launch} {D : zD} {B : Nat} {X : zX} {sz0 : Nat} {post : Option Value → zS → Prop} {α : Type} {J : α → Prop} {pc : Nat} {k : zK α}
theorem s_dn {h : Nat} (hk : zSnd l D B X sz0 post pc k J) : zSnd l D B X sz0 post pc (q_dn k) (z_Jl l D B X sz0 post h J) := by
  intro ls st σ a ha hJ
  unfold q_dn at ha
  cases hb : k ls st σ with
  | none => rw [hb] at ha; cases ha
  | some b =>
    rw [hb] at ha
    cases ha
    exact hk ls st σ b hb hJ
theorem s_ag : zSnd l D B X sz0 post pc q_ag (z_Jl l D B X sz0 post pc J) := by
  intro ls st σ a ha hJ
  unfold q_ag at ha
  split at ha
  · cases ha
    exact hJ
  · cases ha
theorem s_lp {body : zK ((zL × zS) ⊕ α)} (hb : zSnd l D B X sz0 post pc body (z_Jl l D B X sz0 post pc J)) : zSnd l D B X sz0 post pc (q_lp body) J := by
  intro ls st σ a ha hJ
  obtain ⟨n, hn⟩ := q_lp_some ha
  clear ha
  induction n generalizing ls st σ with
  | zero => cases hn
  | succ n ih =>
    rw [q_lpN_s] at hn
    cases ho : body ls st σ with
    | none => rw [ho] at hn; cases hn
    | some o =>
      rw [ho] at hn
      cases o with
      | inl q => exact hb ls st σ _ ho (ih q.1 [] q.2 hn)
      | inr a' =>
        cases hn
        exact hb ls st σ _ ho hJ
theorem s_goto {off : Int} {tgt : Nat} (d : decode X.2.1 pc = .ok (.goto off, 3)) (ht : (pc : Int) + off = (tgt : Int)) (h : zSnd l D B X sz0 post tgt k J) : zSnd l D B X sz0 post pc k J :=
  fun ls st σ a ha hJ hA hB p e s m args below meth c H locs lsA F w => lv_goto F.1 F.2.1 d ht (h ls st σ a ha hJ hA hB p e s m args below meth c H locs lsA F w)
def q_push (v : Int32) (k : zK α) : zK α := fun ls st σ => k ls (.int v :: st) σ
theorem s_iconst {n : Int} {v : Int32} (d : decode X.2.1 pc = .ok (.iconst n, 1)) (hv : Int32.ofInt n = v) (h : zSnd l D B X sz0 post (pc + 1) k J) : zSnd l D B X sz0 post pc (q_push v k) J :=
  fun ls st σ a ha hJ hA hB p e s m args below meth c H locs lsA F w => lv_iconst F.1 F.2.1 d hv (h ls _ σ a ha hJ hA hB p e s m args below meth c H locs lsA F w)
theorem s_bipush {n : Int} {v : Int32} (d : decode X.2.1 pc = .ok (.bipush n, 2)) (hv : (Int8.ofInt n).toInt32 = v) (h : zSnd l D B X sz0 post (pc + 2) k J) : zSnd l D B X sz0 post pc (q_push v k) J :=
  fun ls st σ a ha hJ hA hB p e s m args below meth c H locs lsA F w => lv_bipush F.1 F.2.1 d hv (h ls _ σ a ha hJ hA hB p e s m args below meth c H locs lsA F w)
theorem s_sipush {n : Int} {v : Int32} (d : decode X.2.1 pc = .ok (.sipush n, 3)) (hv : (Int16.ofInt n).toInt32 = v) (h : zSnd l D B X sz0 post (pc + 3) k J) : zSnd l D B X sz0 post pc (q_push v k) J :=
  fun ls st σ a ha hJ hA hB p e s m args below meth c H locs lsA F w => lv_sipush F.1 F.2.1 d hv (h ls _ σ a ha hJ hA hB p e s m args below meth c H locs lsA F w)
theorem s_ldc {i : Nat} {v : Int32} (d : decode X.2.1 pc = .ok (.ldc i, 2)) (hw : Cond.constant X.1 i v ∈ z_tb) (h : zSnd l D B X sz0 post (pc + 2) k J) : zSnd l D B X sz0 post pc (q_push v k) J :=
  fun ls st σ a ha hJ hA hB p e s m args below meth c H locs lsA F w => lv_ldc F.1 F.2.1 F.2.2.2.1 (F.2.2.2.2.1 _ hw) d (h ls _ σ a ha hJ hA hB p e s m args below meth c H locs lsA F w)
theorem s_ldcw {i : Nat} {v : Int32} (d : decode X.2.1 pc = .ok (.ldc_w i, 3)) (hw : Cond.constant X.1 i v ∈ z_tb) (h : zSnd l D B X sz0 post (pc + 3) k J) : zSnd l D B X sz0 post pc (q_push v k) J :=
  fun ls st σ a ha hJ hA hB p e s m args below meth c H locs lsA F w => lv_ldcw F.1 F.2.1 F.2.2.2.1 (F.2.2.2.2.1 _ hw) d (h ls _ σ a ha hJ hA hB p e s m args below meth c H locs lsA F w)
def q_pushl (v : Int64) (k : zK α) : zK α := fun ls st σ => k ls (.long v :: st) σ
theorem s_lconst {n : Fin 2} {v : Int64} (d : decode X.2.1 pc = .ok (.lconst n, 1)) (hv : Int64.ofNat (n : Nat) = v) (h : zSnd l D B X sz0 post (pc + 1) k J) : zSnd l D B X sz0 post pc (q_pushl v k) J :=
  fun ls st σ a ha hJ hA hB p e s m args below meth c H locs lsA F w => lv_lconst F.1 F.2.1 d hv (h ls _ σ a ha hJ hA hB p e s m args below meth c H locs lsA F w)
theorem s_ldc2 {i : Nat} {v : Int64} (d : decode X.2.1 pc = .ok (.ldc2_w i, 3)) (hw : Cond.constantLong X.1 i v ∈ z_tb) (h : zSnd l D B X sz0 post (pc + 3) k J) : zSnd l D B X sz0 post pc (q_pushl v k) J :=
  fun ls st σ a ha hJ hA hB p e s m args below meth c H locs lsA F w => lv_ldc2 F.1 F.2.1 F.2.2.2.1 (F.2.2.2.2.1 _ hw) d (h ls _ σ a ha hJ hA hB p e s m args below meth c H locs lsA F w)
/-! locals -/
def q_iload (i : Nat) (k : zK α) : zK α := fun ls st σ => match ls[i]? with
  | some (some (.int x)) => k ls (.int x :: st) σ
  | _ => none
def q_lload (i : Nat) (k : zK α) : zK α := fun ls st σ => match ls[i]? with
  | some (some (.long x)) => k ls (.long x :: st) σ
  | _ => none
def q_aload (i : Nat) (k : zK α) : zK α := fun ls st σ => match ls[i]? with
  | some (some (.ref x)) => k ls (.ref x :: st) σ
  | _ => none
theorem s_iload_n {n : Fin 4} {i : Nat} (d : decode X.2.1 pc = .ok (.iload_n n, 1)) (hi : (n : Nat) = i) (h : zSnd l D B X sz0 post (pc + 1) k J) : zSnd l D B X sz0 post pc (q_iload i k) J := by
  intro ls st σ a ha hJ
  unfold q_iload at ha
  split at ha
  · rename_i x hx
    exact fun hA hB p e s m args below meth c H locs lsA F w => lv_iload_n F.1 F.2.1 d hi (w.2.2.2.2.2.2 _ _ hx) (h ls _ σ a ha hJ hA hB p e s m args below meth c H locs lsA F w)
  · cases ha
theorem s_iload {i : Nat} (d : decode X.2.1 pc = .ok (.iload i, 2)) (h : zSnd l D B X sz0 post (pc + 2) k J) : zSnd l D B X sz0 post pc (q_iload i k) J := by
  intro ls st σ a ha hJ
  unfold q_iload at ha
  split at ha
  · rename_i x hx
    exact fun hA hB p e s m args below meth c H locs lsA F w => lv_iload F.1 F.2.1 d (w.2.2.2.2.2.2 _ _ hx) (h ls _ σ a ha hJ hA hB p e s m args below meth c H locs lsA F w)
  · cases ha
theorem s_lload_n {n : Fin 4} {i : Nat} (d : decode X.2.1 pc = .ok (.lload_n n, 1)) (hi : (n : Nat) = i) (h : zSnd l D B X sz0 post (pc + 1) k J) : zSnd l D B X sz0 post pc (q_lload i k) J := by
  intro ls st σ a ha hJ
  unfold q_lload at ha
  split at ha
  · rename_i x hx
    exact fun hA hB p e s m args below meth c H locs lsA F w => lv_lload_n F.1 F.2.1 d hi (w.2.2.2.2.2.2 _ _ hx) (h ls _ σ a ha hJ hA hB p e s m args below meth c H locs lsA F w)
  · cases ha
theorem s_lload {i : Nat} (d : decode X.2.1 pc = .ok (.lload i, 2)) (h : zSnd l D B X sz0 post (pc + 2) k J) : zSnd l D B X sz0 post pc (q_lload i k) J := by
  intro ls st σ a ha hJ
  unfold q_lload at ha
  split at ha
  · rename_i x hx
    exact fun hA hB p e s m args below meth c H locs lsA F w => lv_lload F.1 F.2.1 d (w.2.2.2.2.2.2 _ _ hx) (h ls _ σ a ha hJ hA hB p e s m args below meth c H locs lsA F w)
  · cases ha
theorem s_aload_n {n : Fin 4} {i : Nat} (d : decode X.2.1 pc = .ok (.aload_n n, 1)) (hi : (n : Nat) = i) (h : zSnd l D B X sz0 post (pc + 1) k J) : zSnd l D B X sz0 post pc (q_aload i k) J := by
  intro ls st σ a ha hJ
  unfold q_aload at ha
  split at ha
  · rename_i x hx
    exact fun hA hB p e s m args below meth c H locs lsA F w => lv_aload_n F.1 F.2.1 d hi (w.2.2.2.2.2.2 _ _ hx) (h ls _ σ a ha hJ hA hB p e s m args below meth c H locs lsA F w)
  · cases ha
theorem s_aload {i : Nat} (d : decode X.2.1 pc = .ok (.aload i, 2)) (h : zSnd l D B X sz0 post (pc + 2) k J) : zSnd l D B X sz0 post pc (q_aload i k) J := by
  intro ls st σ a ha hJ
  unfold q_aload at ha
  split at ha
  · rename_i x hx
    exact fun hA hB p e s m args below meth c H locs lsA F w => lv_aload F.1 F.2.1 d (w.2.2.2.2.2.2 _ _ hx) (h ls _ σ a ha hJ hA hB p e s m args below meth c H locs lsA F w)
  · cases ha
def q_istore (i : Nat) (k : zK α) : zK α := fun ls st σ => match st with
  | .int x :: r => if z_nol ls i = true ∧ i < ls.length then k (ls.set i (some (.int x))) r σ else none
  | _ => none
def q_astore (i : Nat) (k : zK α) : zK α := fun ls st σ => match st with
  | .ref x :: r => if z_nol ls i = true ∧ i < ls.length then k (ls.set i (some (.ref x))) r σ else none
  | _ => none
def q_lstore (i : Nat) (k : zK α) : zK α := fun ls st σ => match st with
  | .long x :: r => if z_nol ls i = true ∧ i + 1 < ls.length then k ((ls.set i (some (.long x))).set (i + 1) none) r σ else none
  | _ => none
def q_iinc (i : Nat) (n : Int32) (k : zK α) : zK α := fun ls st σ => match ls[i]? with
  | some (some (.int x)) => if z_nol ls i = true then k (ls.set i (some (.int (x + n)))) st σ else none
  | _ => none
theorem s_istore_n {n : Fin 4} {i : Nat} (d : decode X.2.1 pc = .ok (.istore_n n, 1)) (hi : (n : Nat) = i) (h : zSnd l D B X sz0 post (pc + 1) k J) : zSnd l D B X sz0 post pc (q_istore i k) J := by
  intro ls st σ a ha hJ
  unfold q_istore at ha
  split at ha
  · split at ha
    · rename_i hc
      exact fun hA hB p e s m args below meth c H locs lsA F w => lv_istore_n F.1 F.2.1 d hi w.2.2.2.has (by rw [← w.2.2.2.2.2.1]; exact hc.2) rfl (fun ls' hl => h _ _ σ a ha hJ hA hB p e s m args below meth c H locs ls' F ⟨w.1, w.2.1, w.2.2.1, w.2.2.2.store hc.1 hl⟩)
    · cases ha
  · cases ha
theorem s_istore {i : Nat} (d : decode X.2.1 pc = .ok (.istore i, 2)) (h : zSnd l D B X sz0 post (pc + 2) k J) : zSnd l D B X sz0 post pc (q_istore i k) J := by
  intro ls st σ a ha hJ
  unfold q_istore at ha
  split at ha
  · split at ha
    · rename_i hc
      exact fun hA hB p e s m args below meth c H locs lsA F w => lv_istore F.1 F.2.1 d w.2.2.2.has (by rw [← w.2.2.2.2.2.1]; exact hc.2) rfl (fun ls' hl => h _ _ σ a ha hJ hA hB p e s m args below meth c H locs ls' F ⟨w.1, w.2.1, w.2.2.1, w.2.2.2.store hc.1 hl⟩)
    · cases ha
  · cases ha
theorem s_astore_n {n : Fin 4} {i : Nat} (d : decode X.2.1 pc = .ok (.astore_n n, 1)) (hi : (n : Nat) = i) (h : zSnd l D B X sz0 post (pc + 1) k J) : zSnd l D B X sz0 post pc (q_astore i k) J := by
  intro ls st σ a ha hJ
  unfold q_astore at ha
  split at ha
  · split at ha
    · rename_i hc
      exact fun hA hB p e s m args below meth c H locs lsA F w => lv_astore_n F.1 F.2.1 d hi w.2.2.2.has (by rw [← w.2.2.2.2.2.1]; exact hc.2) rfl (fun ls' hl => h _ _ σ a ha hJ hA hB p e s m args below meth c H locs ls' F ⟨w.1, w.2.1, w.2.2.1, w.2.2.2.store hc.1 hl⟩)
    · cases ha
  · cases ha
theorem s_lstore_n {n : Fin 4} {i : Nat} (d : decode X.2.1 pc = .ok (.lstore_n n, 1)) (hi : (n : Nat) = i) (h : zSnd l D B X sz0 post (pc + 1) k J) : zSnd l D B X sz0 post pc (q_lstore i k) J := by
  intro ls st σ a ha hJ
  unfold q_lstore at ha
  split at ha
  · split at ha
    · rename_i hc
      exact fun hA hB p e s m args below meth c H locs lsA F w => lv_lstore_n F.1 F.2.1 d hi w.2.2.2.has (by rw [← w.2.2.2.2.2.1]; exact hc.2) rfl (fun ls' hl => h _ _ σ a ha hJ hA hB p e s m args below meth c H locs ls' F ⟨w.1, w.2.1, w.2.2.1, w.2.2.2.store2 hc.1 hl⟩)
    · cases ha
  · cases ha
theorem s_lstore {i : Nat} (d : decode X.2.1 pc = .ok (.lstore i, 2)) (h : zSnd l D B X sz0 post (pc + 2) k J) : zSnd l D B X sz0 post pc (q_lstore i k) J := by
  intro ls st σ a ha hJ
  unfold q_lstore at ha
  split at ha
  · split at ha
    · rename_i hc
      exact fun hA hB p e s m args below meth c H locs lsA F w => lv_lstore F.1 F.2.1 d w.2.2.2.has (by rw [← w.2.2.2.2.2.1]; exact hc.2) rfl (fun ls' hl => h _ _ σ a ha hJ hA hB p e s m args below meth c H locs ls' F ⟨w.1, w.2.1, w.2.2.1, w.2.2.2.store2 hc.1 hl⟩)
    · cases ha
  · cases ha
theorem s_iinc {i : Nat} {n : Int} {v : Int32} (d : decode X.2.1 pc = .ok (.iinc i n, 3)) (hv : Int32.ofInt n = v) (h : zSnd l D B X sz0 post (pc + 3) k J) : zSnd l D B X sz0 post pc (q_iinc i v k) J := by
  intro ls st σ a ha hJ
  subst hv
  unfold q_iinc at ha
  split at ha
  · rename_i x hx
    split at ha
    · rename_i hc
      obtain ⟨j, hj⟩ := List.mem_iff_getElem?.mp (z_mem_asc hx)
      exact fun hA hB p e s m args below meth c H locs lsA F w => lv_iinc F.1 F.2.1 d w.2.2.2.has hj rfl (by rw [← w.2.2.2.2.2.1]; exact (List.getElem?_eq_some_iff.mp hx).1) rfl (fun ls' hl => h _ _ σ a ha hJ hA hB p e s m args below meth c H locs ls' F ⟨w.1, w.2.1, w.2.2.1, w.2.2.2.store hc hl⟩)
    · cases ha
  · cases ha
end ROWS
