/-! a method's pure function; switches by lists; calls on String constants -/
def z_fn (n : Nat) (k : zK zR) : zF := fun as σ => if (lg_sl as).length ≤ n then k (z_ent as n) [] σ else none
theorem z_fn_len {n : Nat} {k : zK zR} {as : List Value} {σ : zS} {r : zR} (h : z_fn n k as σ = some r) : (lg_sl as).length ≤ n := by
  unfold z_fn at h
  split at h
  · assumption
  · cases h
theorem z_fn_run {n : Nat} {k : zK zR} {as : List Value} {σ : zS} {r : zR} (h : z_fn n k as σ = some r) : k (z_ent as n) [] σ = some r := by
  unfold z_fn at h
  split at h
  · exact h
  · cases h
def z_all2 (l : Launch) (D : zD) (B : Nat) (X : zX) (sz0 : Nat) (post : Option Value → zS → Prop) {α : Type} (J : α → Prop) : List (zK α) → List Nat → Prop
  | [], [] => True
  | k :: ks, t :: ts => zSnd l D B X sz0 post t k J ∧ z_all2 l D B X sz0 post J ks ts
  | _, _ => False
section ROWS
variable {l : Launch} {D : zD} {B : Nat} {X : zX} {sz0 : Nat} {post : Option Value → zS → Prop} {α : Type} {J : α → Prop} {pc : Nat} {k : zK α}
theorem z_all2_len : ∀ (ks : List (zK α)) (ts : List Nat), z_all2 l D B X sz0 post J ks ts → ks.length = ts.length
  | [], [], _ => rfl
  | k :: ks, t :: ts, h => by rw [List.length_cons, List.length_cons, z_all2_len ks ts h.2]
theorem z_all2_at : ∀ (ks : List (zK α)) (ts : List Nat), z_all2 l D B X sz0 post J ks ts → ∀ (i t : Nat) (k : zK α), ks[i]? = some k → ts[i]? = some t → zSnd l D B X sz0 post t k J
  | [], [], _, i, t, k, hk, _ => by simp at hk
  | k :: ks, t :: ts, h, 0, t', k', hk, ht => by
    cases hk
    cases ht
    exact h.1
  | k :: ks, t :: ts, h, i + 1, t', k', hk, ht => z_all2_at ks ts h.2 i t' k' hk ht
theorem s_swL {lo hi dflt : Int} {offs : Array Int} {len : Nat} {ks : List (zK α)} {kd : zK α} {td : Nat} {tgts : List Nat} (d : decode X.2.1 pc = .ok (.tableswitch dflt lo hi offs, len)) (hoffs : offs.toList = tgts.map (fun t : Nat => (t : Int) - (pc : Int))) (hlen : (tgts.length : Int) = hi - lo + 1 ∧ 0 < tgts.length) (htd : (pc : Int) + dflt = (td : Int))
    (h1 : z_all2 l D B X sz0 post J ks tgts) (h2 : zSnd l D B X sz0 post td kd J) : zSnd l D B X sz0 post pc (q_sw lo ks kd) J := by
  have hl := z_all2_len ks tgts h1
  refine s_sw (tgts := tgts) d ⟨by omega, by omega⟩ (fun i hi => ?_) htd (z_all2_at ks tgts h1) h2
  have hi' : i < tgts.length := by omega
  refine ⟨(tgts[i] : Int) - (pc : Int), tgts[i], ?_, List.getElem?_eq_getElem hi', by omega⟩
  rw [← Array.getElem?_toList, hoffs, List.getElem?_map, List.getElem?_eq_getElem hi']
  rfl
def q_callT (G : zF) (n : Nat) (k : zK α) : zK α := fun ls st σ => match z_pop n [] st with
  | some (as, .ref b :: r) => if (b = z_str σ 0 ∨ b = z_str σ 1) ∧ r.length ≤ 4 then match G (.ref b :: as) σ with
      | some q => if z_sz q.2 = z_sz σ then k ls (q.1.toList ++ r) q.2 else none
      | none => none
    else none
  | _ => none
theorem z_recvT {s : State} {σ : zS} {H : Heap} {b : Nat} (hW : z_Wd D B σ H) (hK : z_Kw D B s) (ho : ∀ q : Nat, q < B → H[q]? = s.heap[q]?) (hb : b = z_str σ 0 ∨ b = z_str σ 1) : ∃ cellB : Cell, H[b]? = some cellB ∧ cellB.vm.isStatics = false ∧ s.vm.findClass "java/lang/String" = some cellB.cls := by
  obtain ⟨adV, h1, -⟩ := hK.2.2.2
  have hk : ∀ a : Nat, a < s.heap.size → ¬ (B ≤ a) → H[a]? = s.heap[a]? := fun a _ hn => ho a (Nat.not_le.mp hn)
  rcases hb with rfl | rfl
  · obtain ⟨cell, g1, g2, g3, -⟩ := (h1.1 0 (by decide)).1.kept hk
    rw [hW.2.2.1] at g1
    exact ⟨cell, g1, g2, g3⟩
  · obtain ⟨cell, g1, g2, g3, -⟩ := (h1.1 1 (by decide)).1.kept hk
    rw [hW.2.2.1] at g1
    exact ⟨cell, g1, g2, g3⟩
theorem s_callT {i n : Nat} {y : MethodName} {X' : zX} {G : zF} (d : decode X.2.1 pc = .ok (.invokevirtual i, 3)) (hG : z_MF l D B y X' G) (hM : z_Me y X' n) (hin : Cond.instanceMethod y ∈ z_tb) (hse : Cond.selects "java/lang/String" y y ∈ z_tb) (h0 : X'.2.2.2.2.2.2.1 = 0) (hX' : z_Re X') (hX : z_Rm X) (hf : z_Fit X' X) (hl : Cond.methodLink X.1 i y ∈ z_tb) (h : zSnd l D B X sz0 post (pc + 3) k J) : zSnd l D B X sz0 post pc (q_callT G n k) J := by
  intro ls st σ a ha hJ
  unfold q_callT at ha
  split at ha
  case h_2 => cases ha
  rename_i as b rest hp
  split at ha
  case isFalse => cases ha
  rename_i hc
  split at ha
  case h_2 => cases ha
  rename_i q hq
  split at ha
  case isFalse => cases ha
  rename_i hz
  intro hA hB p e s m args below meth c H locs lsA F w
  obtain ⟨pp, e1, e2, e3⟩ := z_pop_spec n [] st as _ hp
  rw [List.append_nil] at e1
  subst e1
  have hts := F.2.2.2.2.1
  have hroom := z_rm0 (X' := X') h0 hX hA
  refine z_after (r := q) (va_runV (As := as) (b := b) (rest := rest) (C := "java/lang/String") ⟨F.1, F.2.1, F.2.2.1, F.2.2.2.1, hts⟩ (hG _ _ _ hq) ⟨z_callB hM hX' hf hts hl, hts _ hin, hts _ hse⟩ ⟨z_blind, z_recvT w.1 F.2.2.2.2.2.2.2.2 w.2.1 hc.1, (z_pre w.1 F.2.2.2.2.2.2.2.2 w.2.1).2⟩ rfl e2 w.2.2.2.1 e3 (lv_room (Nat.le_trans (z_wsum _ 4 hc.2) (by decide))) d hroom) w.2.1 w.2.2.1 fun H1 locs1 hW1 ho1 hL1 => ?_
  have h9 := h _ _ _ a ha hJ (by rw [hz]; exact hA) (by rw [hz]; exact hB) p e s m args below meth c H1 locs1 lsA F ⟨hW1, ho1, hL1, w.2.2.2⟩
  rw [hz] at h9
  rw [h0, Nat.zero_mul]
  exact h9
end ROWS
