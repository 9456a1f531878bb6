/-! a method's pure function; switches by lists; calls on String constants -/
def z_fn (n : Nat) (k : zK zR) : zF := fun as σ => if (lg_sl as).length ≤ n then k (z_ent as n) [] σ else none
theorem z_fn_len {n : Nat} {k : zK zR} {as : List Value} {σ : zS} {r : zR} (h : z_fn n k as σ = some r) : (lg_sl as).length ≤ n := by
  unfold z_fn at h
  split at h
  · assumption
  · cases h
theorem z_fn_run {n : Nat} {k : zK zR} {as : List Value} {σ : zS} {r : zR} (h : z_fn n k as σ = some r) : k (z_ent as n) [] σ = some r := by
  unfold z_fn at h
  split at h
  · exact h
  · cases h
def z_all2 (l : Launch) (D : zD) (B : Nat) (X : zX) (sz0 : Nat) (post : Option Value → zS → Prop) {α : Type} (J : α → Prop) : List (zK α) → List Nat → Prop
  | [], [] => True
  | k :: ks, t :: ts => zSnd l D B X sz0 post t k J ∧ z_all2 l D B X sz0 post J ks ts
  | _, _ => False
section ROWS
variable {l : Launch} {D : zD} {B : Nat} {X : zX} {sz0 : Nat} {post : Option Value → zS → Prop} {α : Type} {J : α → Prop} {pc : Nat} {k : zK α}
theorem z_all2_len : ∀ (ks : List (zK α)) (ts : List Nat), z_all2 l D B X sz0 post J ks ts → ks.length = ts.length
  | [], [], _ => rfl
  | k :: ks, t :: ts, h => by rw [List.length_cons, List.length_cons, z_all2_len ks ts h.2]
theorem z_all2_at : ∀ (ks : List (zK α)) (ts : List Nat), z_all2 l D B X sz0 post J ks ts → ∀ (i t : Nat) (k : zK α), ks[i]? = some k → ts[i]? = some t → zSnd l D B X sz0 post t k J
  | [], [], _, i, t, k, hk, _ => by simp at hk
  | k :: ks, t :: ts, h, 0, t', k', hk, ht => by
    cases hk
    cases ht
    exact h.1
  | k :: ks, t :: ts, h, i + 1, t', k', hk, ht => z_all2_at ks ts h.2 i t' k' hk ht
theorem s_swL {lo hi dflt : Int} {offs : Array Int} {len : Nat} {ks : List (zK α)} {kd : zK α} {td : Nat} {tgts : List Nat} (d : decode X.2.1 pc = .ok (.tableswitch dflt lo hi offs, len)) (hoffs : offs.toList = tgts.map (fun t : Nat => (t : Int) - (pc : Int))) (hlen : (tgts.length : Int) = hi - lo + 1 ∧ 0 < tgts.length) (htd : (pc : Int) + dflt = (td : Int))
    (h1 : z_all2 l D B X sz0 post J ks tgts) (h2 : zSnd l D B X sz0 post td kd J) : zSnd l D B X sz0 post pc (q_sw lo ks kd) J := by
  have hl := z_all2_len ks tgts h1
  refine s_sw (tgts := tgts) d ⟨by omega, by omega⟩ (fun i hi => ?_) htd (z_all2_at ks tgts h1) h2
  have hi' : i < tgts.length := by omega
  refine ⟨(tgts[i] : Int) - (pc : Int), tgts[i], ?_, List.getElem?_eq_getElem hi', by omega⟩
  rw [← Array.getElem?_toList, hoffs, List.getElem?_map, List.getElem?_eq_getElem hi']
  rfl
def q_callT (G : zF) (n : Nat) (k : zK α) : zK α := fun ls st σ => match z_pop n [] st with
  | some (as, .ref b :: r) => if (b = z_str σ 0 ∨ b = z_str σ 1) ∧ r.length ≤ 4 then match G (.ref b :: as) σ with
      | some q => if z_sz q.2 = z_sz σ then k ls (q.1.toList ++ r) q.2 else none
      | none => none
    else none
  | _ => none
theorem z_recvT {s : State} {σ : zS} {H : Heap} {b : Nat} (hW : z_Wd D B σ H) (hK : z_Kw D B s) (ho : ∀ q : Nat, q < B → H[q]? = s.heap[q]?) (hb : b = z_str σ 0 ∨ b = z_str σ 1) : ∃ cellB : Cell, H[b]? = some cellB ∧ cellB.vm.isStatics = false ∧ s.vm.findClass "java/lang/String" = some cellB.cls := by
  obtain ⟨h1, -⟩ := hK.2.2.2.1
  have hk : ∀ a : Nat, a < s.heap.size → ¬ (B ≤ a) → H[a]? = s.heap[a]? := fun a _ hn => ho a (Nat.not_le.mp hn)
  rcases hb with rfl | rfl
  · obtain ⟨cell, g1, g2, g3, -⟩ := (h1.1 0 (by decide)).1.kept hk
    rw [hW.2.2.1] at g1
    exact ⟨cell, g1, g2, g3⟩
  · obtain ⟨cell, g1, g2, g3, -⟩ := (h1.1 1 (by decide)).1.kept hk
    rw [hW.2.2.1] at g1
    exact ⟨cell, g1, g2, g3⟩
theorem s_callT {i n : Nat} {y : MethodName} {X' : zX} {G : zF} (d : decode X.2.1 pc = .ok (.invokevirtual i, 3)) (hG : z_MF l D B y X' G) (hM : z_Me y X' n) (hin : Cond.instanceMethod y ∈ z_tb) (hse : Cond.selects "java/lang/String" y y ∈ z_tb) (h0 : X'.2.2.2.2.2.2.1 = 0) (hX' : z_Re X') (hX : z_Rm X) (hf : z_Fit X' X) (hl : Cond.methodLink X.1 i y ∈ z_tb) (h : zSnd l D B X sz0 post (pc + 3) k J) : zSnd l D B X sz0 post pc (q_callT G n k) J := by
  intro ls st σ a ha hJ
  unfold q_callT at ha
  split at ha
  case h_2 => cases ha
  rename_i as b rest hp
  split at ha
  case isFalse => cases ha
  rename_i hc
  split at ha
  case h_2 => cases ha
  rename_i q hq
  split at ha
  case isFalse => cases ha
  rename_i hz
  intro hA hB p e s m args below meth c H locs lsA F w
  obtain ⟨pp, e1, e2, e3⟩ := z_pop_spec n [] st as _ hp
  rw [List.append_nil] at e1
  subst e1
  have hts := F.2.2.2.2.1
  have hroom := z_rm0 (X' := X') h0 hX hA
  refine z_after (r := q) (va_runV (As := as) (b := b) (rest := rest) (C := "java/lang/String") ⟨F.1, F.2.1, F.2.2.1, F.2.2.2.1, hts⟩ (hG _ _ _ hq) ⟨z_callB hM hX' hf hts hl, hts _ hin, hts _ hse⟩ ⟨z_blind, z_recvT w.1 F.2.2.2.2.2.2.2.2 w.2.1 hc.1, (z_pre w.1 F.2.2.2.2.2.2.2.2 w.2.1).2⟩ rfl e2 w.2.2.2.1 e3 (lv_room (Nat.le_trans (z_wsum _ 4 hc.2) (by decide))) d hroom) w.2.1 w.2.2.1 fun H1 locs1 hW1 ho1 hL1 => ?_
  have h9 := h _ _ _ a ha hJ (by rw [hz]; exact hA) (by rw [hz]; exact hB) p e s m args below meth c H1 locs1 lsA F ⟨hW1, ho1, hL1, w.2.2.2⟩
  rw [hz] at h9
  rw [h0, Nat.zero_mul]
  exact h9
/-! rows of the JDK's String methods, over the two constants; the law's script -/
def q_no : zK α := fun _ _ _ => none
theorem s_no : zSnd l D B X sz0 post pc (q_no (α := α)) J := fun _ _ _ _ h => by cases h
def q_getTv (k : zK α) : zK α := fun ls st σ => match st with
  | .ref b :: r => if b = z_str σ 0 then k ls (.ref (z_str σ 2) :: r) σ else if b = z_str σ 1 then k ls (.ref (z_str σ 3) :: r) σ else none
  | _ => none
def q_getTc (k : zK α) : zK α := fun ls st σ => match st with
  | .ref b :: r => if b = z_str σ 0 ∨ b = z_str σ 1 then k ls (.int 0 :: r) σ else none
  | _ => none
theorem z_OF {o n d : String} {v : Value} {b : Nat} {s : State} {H : Heap} (h : va_OF o n d v b (fun q => B ≤ q) s s.heap) (ho : ∀ q : Nat, q < B → H[q]? = s.heap[q]?) : va_OF o n d v b (fun q => B ≤ q) s H := h.kept (fun a _ hn => ho a (Nat.not_le.mp hn))
theorem s_getTv {i : Nat} (d : decode X.2.1 pc = .ok (.getfield i, 3)) (hw : Cond.fieldLink X.1 i "java/lang/String" "value" "[B" ∈ z_tb) (h : zSnd l D B X sz0 post (pc + 3) k J) : zSnd l D B X sz0 post pc (q_getTv k) J := by
  intro ls st σ a ha hJ
  unfold q_getTv at ha
  split at ha
  case h_2 => cases ha
  split at ha
  · rename_i hb
    subst hb
    intro hA hB p e s m args below meth c H locs lsA F w
    obtain ⟨h1, -⟩ := F.2.2.2.2.2.2.2.2.2.2.2.1
    obtain ⟨cf, k, fi, f, cell, g1, g2, g3, g4, g5, g6⟩ := z_OF (h1.1 0 (by decide)).2.2.1 w.2.1
    rw [w.1.2.2.1] at g3
    have g5 : cell.slots[f.slot]? = some (Value.ref (z_str σ 2)) := by rw [← w.1.2.2.1]; exact g5
    exact W.getf F.1 F.2.1 F.2.2.2.1 (F.2.2.2.2.1 _ hw) g1 g2 g3 g4 g5 rfl rfl d (h _ _ σ a ha hJ hA hB p e s m args below meth c H locs lsA F w)
  · split at ha
    case isFalse => cases ha
    rename_i hb
    subst hb
    intro hA hB p e s m args below meth c H locs lsA F w
    obtain ⟨h1, -⟩ := F.2.2.2.2.2.2.2.2.2.2.2.1
    obtain ⟨cf, k, fi, f, cell, g1, g2, g3, g4, g5, g6⟩ := z_OF (h1.1 1 (by decide)).2.2.1 w.2.1
    rw [w.1.2.2.1] at g3
    have g5 : cell.slots[f.slot]? = some (Value.ref (z_str σ 3)) := by rw [← w.1.2.2.1]; exact g5
    exact W.getf F.1 F.2.1 F.2.2.2.1 (F.2.2.2.2.1 _ hw) g1 g2 g3 g4 g5 rfl rfl d (h _ _ σ a ha hJ hA hB p e s m args below meth c H locs lsA F w)
theorem s_getTc {i : Nat} (d : decode X.2.1 pc = .ok (.getfield i, 3)) (hw : Cond.fieldLink X.1 i "java/lang/String" "coder" "B" ∈ z_tb) (h : zSnd l D B X sz0 post (pc + 3) k J) : zSnd l D B X sz0 post pc (q_getTc k) J := by
  intro ls st σ a ha hJ
  unfold q_getTc at ha
  split at ha
  case h_2 => cases ha
  split at ha
  case isFalse => cases ha
  rename_i hb
  intro hA hB p e s m args below meth c H locs lsA F w
  obtain ⟨h1, -⟩ := F.2.2.2.2.2.2.2.2.2.2.2.1
  rcases hb with rfl | rfl
  · obtain ⟨cf, k, fi, f, cell, g1, g2, g3, g4, g5, g6⟩ := z_OF (h1.1 0 (by decide)).2.1 w.2.1
    rw [w.1.2.2.1] at g3
    exact W.getf F.1 F.2.1 F.2.2.2.1 (F.2.2.2.2.1 _ hw) g1 g2 g3 g4 g5 rfl rfl d (h _ _ σ a ha hJ hA hB p e s m args below meth c H locs lsA F w)
  · obtain ⟨cf, k, fi, f, cell, g1, g2, g3, g4, g5, g6⟩ := z_OF (h1.1 1 (by decide)).2.1 w.2.1
    rw [w.1.2.2.1] at g3
    exact W.getf F.1 F.2.1 F.2.2.2.1 (F.2.2.2.2.1 _ hw) g1 g2 g3 g4 g5 rfl rfl d (h _ _ σ a ha hJ hA hB p e s m args below meth c H locs lsA F w)
/-- which of the two byte arrays -/
def z_wh (σ : zS) (b : Nat) : Option Nat := if b = z_str σ 2 then some 0 else if b = z_str σ 3 then some 1 else none
theorem z_arrT {s : State} {σ : zS} {H : Heap} {b i : Nat} (hW : z_Wd D B σ H) (hK : z_Kw D B s) (ho : ∀ q : Nat, q < B → H[q]? = s.heap[q]?) (hb : z_wh σ b = some i) : va_T .byte b (z_lens.getD i 0) (fun j => .int ((z_byt.getD i []).getD j 0)) (fun q => B ≤ q) s H := by
  obtain ⟨h1, -⟩ := hK.2.2.2.1
  have hk : ∀ a : Nat, a < s.heap.size → ¬ (B ≤ a) → H[a]? = s.heap[a]? := fun a _ hn => ho a (Nat.not_le.mp hn)
  unfold z_wh at hb
  split at hb
  · cases hb
    rename_i e
    subst e
    have h2 := (h1.1 0 (by decide)).2.2.2.kept hk
    rw [← hW.2.2.1]
    exact h2
  · split at hb
    case isFalse => cases hb
    cases hb
    rename_i e
    subst e
    have h2 := (h1.1 1 (by decide)).2.2.2.kept hk
    rw [← hW.2.2.1]
    exact h2
def q_alenT (k : zK α) : zK α := fun ls st σ => match st with
  | .ref b :: r => match z_wh σ b with
    | some i => k ls (.int (Int32.ofNat (z_lens.getD i 0)) :: r) σ
    | none => none
  | _ => none
theorem s_alenT (d : decode X.2.1 pc = .ok (.arraylength, 1)) (h : zSnd l D B X sz0 post (pc + 1) k J) : zSnd l D B X sz0 post pc (q_alenT k) J := by
  intro ls st σ a ha hJ
  unfold q_alenT at ha
  split at ha
  case h_2 => cases ha
  split at ha
  case h_2 => cases ha
  rename_i i hi
  intro hA hB p e s m args below meth c H locs lsA F w
  obtain ⟨cell, g1, g2, g3, g4, g5, g6, g7⟩ := z_arrT w.1 F.2.2.2.2.2.2.2.2 w.2.1 hi
  exact W.alen F.1 F.2.1 g1 g2 g5 rfl rfl d (h _ _ σ a ha hJ hA hB p e s m args below meth c H locs lsA F w)
def q_baldT (k : zK α) : zK α := fun ls st σ => match st with
  | .int j :: .ref b :: r => match z_wh σ b with
    | some i => if j < 0 ∨ z_lens.getD i 0 ≤ j.toNatClampNeg then none else k ls (.int ((z_byt.getD i []).getD j.toNatClampNeg 0) :: r) σ
    | none => none
  | _ => none
theorem s_baldT (d : decode X.2.1 pc = .ok (.baload, 1)) (h : zSnd l D B X sz0 post (pc + 1) k J) : zSnd l D B X sz0 post pc (q_baldT k) J := by
  intro ls st σ a ha hJ
  unfold q_baldT at ha
  split at ha
  case h_2 => cases ha
  split at ha
  case h_2 => cases ha
  rename_i i hi
  split at ha
  · cases ha
  rename_i hin
  intro hA hB p e s m args below meth c H locs lsA F w
  obtain ⟨cell, g1, g2, g3, g4, g5, g6, g7⟩ := z_arrT w.1 F.2.2.2.2.2.2.2.2 w.2.1 hi
  have hlt := Nat.not_le.mp fun q => hin (Or.inr q)
  exact W.bald F.1 F.2.1 g1 g2 g3 (fun q => hin (q.imp id (fun q => Nat.le_trans g4 q))) (g6 _ hlt) rfl rfl d (h _ _ σ a ha hJ hA hB p e s m args below meth c H locs lsA F w)
def q_getsC (k : zK α) : zK α := fun ls st σ => k ls (.int 1 :: st) σ
def q_getsF (k : zK α) : zK α := fun ls st σ => k ls ((if z_str σ 5 = 0 then .null else .ref (z_str σ 4)) :: st) σ
theorem s_getsC {i : Nat} (d : decode X.2.1 pc = .ok (.getstatic i, 3)) (hw : Cond.fieldLink X.1 i "java/lang/String" "COMPACT_STRINGS" "Z" ∈ z_tb) (h : zSnd l D B X sz0 post (pc + 3) k J) : zSnd l D B X sz0 post pc (q_getsC k) J := by
  intro ls st σ a ha hJ hA hB p e s m args below meth c H locs lsA F w
  obtain ⟨-, -, -, h4, -⟩ := F.2.2.2.2.2.2.2.2.2.2.2.1
  obtain ⟨cf, kf, fi, f, q, cell, g1, g2, g3, g4, g5, g6, g7, g8⟩ := h4
  exact W.gets F.1 F.2.1 F.2.2.2.1 (F.2.2.2.2.1 _ hw) g1 g2 g3 g4 (by rw [w.2.1 q (Nat.not_le.mp g8)]; exact g5) (fun e => by rw [e] at g6; cases g6) g7 rfl d (h ls _ σ a ha hJ hA hB p e s m args below meth c H locs lsA F w)
theorem s_getsF {i : Nat} (d : decode X.2.1 pc = .ok (.getstatic i, 3)) (hw : Cond.fieldLink X.1 i "jdk/internal/util/Preconditions" "SIOOBE_FORMATTER" "Ljava/util/function/BiFunction;" ∈ z_tb) (h : zSnd l D B X sz0 post (pc + 3) k J) : zSnd l D B X sz0 post pc (q_getsF k) J := by
  intro ls st σ a ha hJ hA hB p e s m args below meth c H locs lsA F w
  obtain ⟨-, -, -, -, h5⟩ := F.2.2.2.2.2.2.2.2.2.2.2.1
  rw [w.1.2.2.1, w.1.2.2.1] at h5
  obtain ⟨cf, kf, fi, f, q, cell, g1, g2, g3, g4, g5, g6, g7, g8⟩ := h5
  exact W.gets F.1 F.2.1 F.2.2.2.1 (F.2.2.2.2.1 _ hw) g1 g2 g3 g4 (by rw [w.2.1 q (Nat.not_le.mp g8)]; exact g5) (fun e => by rw [e] at g6; cases g6) g7 rfl d (h ls _ σ a ha hJ hA hB p e s m args below meth c H locs lsA F w)
def q_cret (ty : FieldType) : zK zR := fun _ st σ => match st with
  | [.int v] => if vp_nar ty v = v then some (some (.int v), σ) else none
  | _ => none
theorem s_cret {ty : FieldType} (d : decode X.2.1 pc = .ok (.ireturn, 1)) (hr : X.2.2.2.1 = some ty) (hty : ∀ v, narrow ty (.int v) = .int (vp_nar ty v)) : zSnd l D B X sz0 post pc (q_cret ty) (z_Jr post) := by
  intro ls st σ a ha hJ
  unfold q_cret at ha
  split at ha
  case h_2 => cases ha
  split at ha
  case isFalse => cases ha
  rename_i hv
  cases ha
  intro hA hB p e s m args below meth c H locs lsA F w
  refine W.widen (k := X.2.2.2.2.2.2.2.2.1 + X.2.2.2.2.2.2.1) (n := X.2.2.2.2.2.2.2.2.2 + X.2.2.2.2.2.2.1 * X.2.2.2.2.2.2.2.1) (Nat.add_le_add_left (by omega) _) (Nat.add_le_add_left (Nat.mul_le_mul_right _ (by omega)) _) ?_
  exact W.zret (ty := ty) F.1 F.2.1 (F.2.2.2.2.2.2.1.trans hr) (by rw [hty, hv]) (fun t ht _ => ⟨_, _, rfl, hJ, by rw [ht]; exact w.1, fun q hq => by rw [ht]; exact w.2.1 q hq⟩) w.2.2.1 d F.2.2.2.2.2.1
/-- the law's script -/
def q_sld (b L : Nat) (xs : Nat → Int32) (k : zK α) : zK α := fun ls st σ => match st with
  | .int i :: .ref a :: r => if a = b ∧ ¬ (i < 0 ∨ L ≤ i.toNatClampNeg) then k ls (.int (xs i.toNatClampNeg) :: r) σ else none
  | _ => none
def q_sln (b L : Nat) (k : zK α) : zK α := fun ls st σ => match st with
  | .ref a :: r => if a = b then k ls (.int (Int32.ofNat L) :: r) σ else none
  | _ => none
theorem z_scr {s : State} {H : Heap} (hK : z_Kw D B s) (ho : ∀ q : Nat, q < B → H[q]? = s.heap[q]?) : va_X D.2.2.2.2.1 D.2.2.2.2.2.1 D.2.2.2.2.2.2 s H := hK.2.2.2.2.1.kept (ho _ hK.2.2.2.2.2)
theorem s_sld (d : decode X.2.1 pc = .ok (.iaload, 1)) (h : zSnd l D B X sz0 post (pc + 1) k J) : zSnd l D B X sz0 post pc (q_sld D.2.2.2.2.1 D.2.2.2.2.2.1 D.2.2.2.2.2.2 k) J := by
  intro ls st σ a ha hJ
  unfold q_sld at ha
  split at ha
  case h_2 => cases ha
  split at ha
  case isFalse => cases ha
  rename_i hb
  obtain ⟨rfl, hin⟩ := hb
  intro hA hB p e s m args below meth c H locs lsA F w
  obtain ⟨scr, g1, g2, g3, g4, g5⟩ := z_scr F.2.2.2.2.2.2.2.2 w.2.1
  have hlt := Nat.not_le.mp fun q => hin (Or.inr q)
  exact W.iald F.1 F.2.1 g1 g2 g3 (by rw [g4]; exact hin) (g5 _ hlt) rfl rfl d (h _ _ σ a ha hJ hA hB p e s m args below meth c H locs lsA F w)
theorem s_sln (d : decode X.2.1 pc = .ok (.arraylength, 1)) (h : zSnd l D B X sz0 post (pc + 1) k J) : zSnd l D B X sz0 post pc (q_sln D.2.2.2.2.1 D.2.2.2.2.2.1 k) J := by
  intro ls st σ a ha hJ
  unfold q_sln at ha
  split at ha
  case h_2 => cases ha
  split at ha
  case isFalse => cases ha
  rename_i hb
  subst hb
  intro hA hB p e s m args below meth c H locs lsA F w
  obtain ⟨scr, g1, g2, g3, g4, g5⟩ := z_scr F.2.2.2.2.2.2.2.2 w.2.1
  exact W.alen F.1 F.2.1 g1 g2 (by rw [g4]) rfl rfl d (h _ _ σ a ha hJ hA hB p e s m args below meth c H locs lsA F w)
end ROWS
