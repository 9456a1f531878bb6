/-! returns, new cells, calls -/
theorem z_arrN {D : zD} {B : Nat} {s : State} (hK : z_Kw D B s) {t : Nat} (ht : t < 4) {cA : ClassId} (h : s.vm.findClass ("[" ++ (z_ty t).toString) = some cA) : cA = D.2.2.1 t := by
  have h0 : s.vm.findClass ("[" ++ FieldType.int.toString) = some (D.2.2.1 0) := (hK.1.2 0 (D.2.2.1 0, .int) rfl).2
  have h1 : s.vm.findClass ("[" ++ FieldType.byte.toString) = some (D.2.2.1 1) := (hK.1.2 1 (D.2.2.1 1, .byte) rfl).2
  have h2 : s.vm.findClass ("[" ++ FieldType.boolean.toString) = some (D.2.2.1 2) := (hK.1.2 2 (D.2.2.1 2, .boolean) rfl).2
  have h3 : s.vm.findClass ("[" ++ FieldType.long.toString) = some (D.2.2.1 3) := (hK.1.2 3 (D.2.2.1 3, .long) rfl).2
  rcases (show t = 0 ∨ t = 1 ∨ t = 2 ∨ t = 3 by omega) with rfl | rfl | rfl | rfl
  · rw [show z_ty 0 = FieldType.int from rfl] at h
    exact Option.some.inj (h.symm.trans h0)
  · rw [show z_ty 1 = FieldType.byte from rfl] at h
    exact Option.some.inj (h.symm.trans h1)
  · rw [show z_ty 2 = FieldType.boolean from rfl] at h
    exact Option.some.inj (h.symm.trans h2)
  · rw [show z_ty 3 = FieldType.long from rfl] at h
    exact Option.some.inj (h.symm.trans h3)
theorem z_dfl {σ : zS} {k : zT} {t : Nat} (ht : t < 4) (j : Nat) : defaultValue (z_ty t) = z_el (z_new σ k) t (z_sz σ) j := by
  rcases (show t = 0 ∨ t = 1 ∨ t = 2 ∨ t = 3 by omega) with rfl | rfl | rfl | rfl <;> simp [z_el, z_new, z_row0, z_ty, defaultValue]
section ROWS
variable {l : Launch} {D : zD} {B : Nat} {X : zX} {sz0 : Nat} {post : Option Value → zS → Prop} {α : Type} {J : α → Prop} {pc : Nat} {k : zK α}
def q_iret : zK zR := fun _ st σ => match st with
  | [.int v] => some (some (.int v), σ)
  | _ => none
theorem s_iret (d : decode X.2.1 pc = .ok (.ireturn, 1)) (hr : X.2.2.2.1 = some .int) : zSnd l D B X sz0 post pc q_iret (z_Jr post) := by
  intro ls st σ a ha hJ
  unfold q_iret at ha
  split at ha
  · cases ha
    intro hA hB p e s m args below meth c H locs lsA F w
    refine W.widen (k := X.2.2.2.2.2.2.2.2.1 + X.2.2.2.2.2.2.1) (n := X.2.2.2.2.2.2.2.2.2 + X.2.2.2.2.2.2.1 * X.2.2.2.2.2.2.2.1) (Nat.add_le_add_left (by omega) _) (Nat.add_le_add_left (Nat.mul_le_mul_right _ (by omega)) _) ?_
    exact W.iret F.1 F.2.1 (F.2.2.2.2.2.2.1.trans hr) (fun t ht _ => ⟨_, _, rfl, hJ, by rw [ht]; exact w.1, fun q hq => by rw [ht]; exact w.2.1 q hq⟩) w.2.2.1 d F.2.2.2.2.2.1
  · cases ha
def q_zret : zK zR := fun _ st σ => match st with
  | [.int v] => if v = 0 ∨ v = 1 then some (some (.int v), σ) else none
  | _ => none
theorem s_zret (d : decode X.2.1 pc = .ok (.ireturn, 1)) (hr : X.2.2.2.1 = some .boolean) : zSnd l D B X sz0 post pc q_zret (z_Jr post) := by
  intro ls st σ a ha hJ
  unfold q_zret at ha
  split at ha
  · split at ha
    case isFalse => cases ha
    rename_i hv
    cases ha
    intro hA hB p e s m args below meth c H locs lsA F w
    refine W.widen (k := X.2.2.2.2.2.2.2.2.1 + X.2.2.2.2.2.2.1) (n := X.2.2.2.2.2.2.2.2.2 + X.2.2.2.2.2.2.1 * X.2.2.2.2.2.2.2.1) (Nat.add_le_add_left (by omega) _) (Nat.add_le_add_left (Nat.mul_le_mul_right _ (by omega)) _) ?_
    exact W.zret (ty := .boolean) F.1 F.2.1 (F.2.2.2.2.2.2.1.trans hr) (by rcases hv with rfl | rfl <;> rfl) (fun t ht _ => ⟨_, _, rfl, hJ, by rw [ht]; exact w.1, fun q hq => by rw [ht]; exact w.2.1 q hq⟩) w.2.2.1 d F.2.2.2.2.2.1
  · cases ha
def q_lret : zK zR := fun _ st σ => match st with
  | [.long v] => some (some (.long v), σ)
  | _ => none
theorem s_lret (d : decode X.2.1 pc = .ok (.lreturn, 1)) (hr : X.2.2.2.1 = some .long) : zSnd l D B X sz0 post pc q_lret (z_Jr post) := by
  intro ls st σ a ha hJ
  unfold q_lret at ha
  split at ha
  · cases ha
    intro hA hB p e s m args below meth c H locs lsA F w
    refine W.widen (k := X.2.2.2.2.2.2.2.2.1 + X.2.2.2.2.2.2.1) (n := X.2.2.2.2.2.2.2.2.2 + X.2.2.2.2.2.2.1 * X.2.2.2.2.2.2.2.1) (Nat.add_le_add_left (by omega) _) (Nat.add_le_add_left (Nat.mul_le_mul_right _ (by omega)) _) ?_
    exact W.lret F.1 F.2.1 (F.2.2.2.2.2.2.1.trans hr) (fun t ht _ => ⟨_, _, rfl, hJ, by rw [ht]; exact w.1, fun q hq => by rw [ht]; exact w.2.1 q hq⟩) w.2.2.1 d F.2.2.2.2.2.1
  · cases ha
def q_vret : zK zR := fun _ st σ => match st with
  | [] => some (none, σ)
  | _ => none
theorem s_vret (d : decode X.2.1 pc = .ok (.return_, 1)) (hr : X.2.2.2.1 = none) : zSnd l D B X sz0 post pc q_vret (z_Jr post) := by
  intro ls st σ a ha hJ
  unfold q_vret at ha
  split at ha
  · cases ha
    intro hA hB p e s m args below meth c H locs lsA F w
    refine W.widen (k := X.2.2.2.2.2.2.2.2.1 + X.2.2.2.2.2.2.1) (n := X.2.2.2.2.2.2.2.2.2 + X.2.2.2.2.2.2.1 * X.2.2.2.2.2.2.2.1) (Nat.add_le_add_left (by omega) _) (Nat.add_le_add_left (Nat.mul_le_mul_right _ (by omega)) _) ?_
    exact W.vret F.1 F.2.1 (F.2.2.2.2.2.2.1.trans hr) (fun t ht _ => ⟨_, _, rfl, hJ, by rw [ht]; exact w.1, fun q hq => by rw [ht]; exact w.2.1 q hq⟩) w.2.2.1 d F.2.2.2.2.2.1
  · cases ha
/-- Object's own constructor -/
def q_obj (k : zK α) : zK α := fun ls st σ => match st with
  | .ref _ :: r => if r.length ≤ 4 then k ls r σ else none
  | _ => none
theorem s_obj {i : Nat} (d : decode X.2.1 pc = .ok (.invokespecial i, 3)) (hw : Cond.methodLink X.1 i Lib.objectInit ∈ z_tb) (hin : Cond.instanceMethod Lib.objectInit ∈ z_tb) (hco : Cond.code Lib.objectInit ⟨#[0xb1]⟩ 1 none ∈ z_tb) (hR : 1 ≤ X.2.2.2.2.2.1.frames ∧ 20 ≤ X.2.2.2.2.2.1.locals) (h : zSnd l D B X sz0 post (pc + 3) k J) : zSnd l D B X sz0 post pc (q_obj k) J := by
  intro ls st σ a ha hJ
  unfold q_obj at ha
  split at ha
  · split at ha
    · rename_i hr
      intro hA hB p e s m args below meth c H locs lsA F w
      have h1 := z_wsum _ 4 hr
      exact W.objInit F.1 F.2.1 F.2.2.2.1 (F.2.2.2.2.1 _ hw) (F.2.2.2.2.1 _ hin) (F.2.2.2.2.1 _ hco) rfl (by rw [F.2.2.1]; exact w.2.2.2.1) rfl d hR.1 (by show 2 * 0 + _ + 12 ≤ _; omega) (h _ _ σ a ha hJ hA hB p e s m args below meth c H locs lsA F w)
    · cases ha
  · cases ha
theorem z_room {X : zX} {sz sz0 n : Nat} (hR : z_Rm X) (h1 : sz + 1 ≤ sz0 + X.2.2.2.2.2.2.1) (h0 : sz0 ≤ sz) (hn : n ≤ X.2.2.2.2.2.2.2.1) : X.2.2.2.2.2.2.2.2.1 + (sz - sz0) + 1 ≤ X.2.2.2.2.2.1.cells ∧ X.2.2.2.2.2.2.2.2.2 + (sz - sz0) * X.2.2.2.2.2.2.2.1 + n ≤ X.2.2.2.2.2.1.slots ∧ X.2.2.2.2.2.2.2.2.1 + (sz - sz0) + 1 ≤ X.2.2.2.2.2.2.2.2.1 + (sz + 1 - sz0) ∧ X.2.2.2.2.2.2.2.2.2 + (sz - sz0) * X.2.2.2.2.2.2.2.1 + n ≤ X.2.2.2.2.2.2.2.2.2 + (sz + 1 - sz0) * X.2.2.2.2.2.2.2.1 := by
  have e : sz + 1 - sz0 = sz - sz0 + 1 := by omega
  have h2 : (sz - sz0) * X.2.2.2.2.2.2.2.1 + n ≤ (sz - sz0 + 1) * X.2.2.2.2.2.2.2.1 := by rw [Nat.succ_mul]; omega
  have h3 := z_rmc hR h1
  have h4 := z_rms hR h1
  rw [e] at h3 h4 ⊢
  omega
def q_new (ci lim : Nat) (k : zK α) : zK α := fun ls st σ => if z_sz σ + 1 ≤ lim then k ls (.ref (z_sz σ) :: st) (z_new σ (.inr ci)) else none
theorem s_new {i ci lim : Nat} {r : vw_C} {ty : Nat → FieldType} (d : decode X.2.1 pc = .ok (.new i, 3)) (hc : z_Cl ci r ty) (hd : ∀ j, j < r.2.2 → defaultValue (ty j) = if z_isR ci j = true then .null else .int 0) (hw : Cond.classLink X.1 i r.1 ∈ z_tb) (hins : Cond.instantiable r.1 r.2.2 ∈ z_tb) (hini : Cond.initialized r.1 ∈ z_tb) (hR : z_Rm X) (hn : r.2.2 ≤ X.2.2.2.2.2.2.2.1) (hlim : lim = sz0 + X.2.2.2.2.2.2.1) (h : zSnd l D B X sz0 post (pc + 3) k J) : zSnd l D B X sz0 post pc (q_new ci lim k) J := by
  intro ls st σ a ha hJ
  unfold q_new at ha
  split at ha
  case isFalse => cases ha
  rename_i hl
  subst hlim
  intro hA hB p e s m args below meth c H locs lsA F w
  obtain ⟨r1, r2, r3, r4⟩ := z_room hR hl hB hn
  have hKn := F.2.2.2.2.2.2.2.2.1.1 ci _ hc.1
  refine W.newcK F.1 F.2.1 F.2.2.2.1 (F.2.2.2.2.1 _ hw) (F.2.2.2.2.1 _ hins) (F.2.2.2.2.1 _ hini) rfl d r1 r2 hKn.2.1 w.1.1 fun H1 kC hkC e1 z1 o1 => ?_
  refine W.widen r3 r4 ?_
  have hW1 : z_Wd D B (z_new σ (.inr ci)) H1 := z_mk _ w.1 (by rw [z1, w.1.1]) (fun q hq => o1 q (by rw [← w.1.1]; exact hq)) ⟨r, hc.1, (u_born ty F.2.2.2.2.1 hc.2.1 hKn hkC e1 hc.2.2.1).to (fun j hj => by rw [hd j hj]; simp [z_fv, z_new, z_row0, va_rf])⟩
  exact h _ _ _ a ha hJ hl (by show sz0 ≤ z_sz σ + 1; omega) p e s m args below meth c H1 locs lsA F ⟨hW1, fun q hq => by rw [o1 q (by rw [← w.1.1]; exact Nat.lt_of_lt_of_le hq w.1.2.1)]; exact w.2.1 q hq, w.2.2.1, w.2.2.2⟩
def q_newa (t mx lim : Nat) (k : zK α) : zK α := fun ls st σ => match st with
  | .int n :: r => if n < 0 then none else if z_sz σ + 1 ≤ lim ∧ n.toNatClampNeg ≤ mx then k ls (.ref (z_sz σ) :: r) (z_new σ (.inl (t, n.toNatClampNeg))) else none
  | _ => none
theorem s_newa {t mx lim : Nat} {at_ : ArrayType} (d : decode X.2.1 pc = .ok (.newarray at_, 2)) (ht : t < 4) (hty : newarray.typeOf at_ = z_ty t) (hw : Cond.arrayClass (newarray.typeOf at_) ∈ z_tb) (hR : z_Rm X) (hmx : mx = X.2.2.2.2.2.2.2.1) (hb : mx * 8 ≤ 536870912) (hlim : lim = sz0 + X.2.2.2.2.2.2.1) (h : zSnd l D B X sz0 post (pc + 2) k J) : zSnd l D B X sz0 post pc (q_newa t mx lim k) J := by
  intro ls st σ a ha hJ
  unfold q_newa at ha
  split at ha
  case h_2 => cases ha
  rename_i n r
  split at ha
  · cases ha
  · rename_i hn
    split at ha
    case isFalse => cases ha
    rename_i hl
    subst hlim
    subst hmx
    intro hA hB p e s m args below meth c H locs lsA F w
    obtain ⟨r1, r2, r3, r4⟩ := z_room hR hl.1 hB hl.2
    have hcb : componentBytes (newarray.typeOf at_) ≤ 8 := by cases at_ <;> decide
    refine va_newaK F.1 F.2.1 (F.2.2.2.2.1 _ hw) rfl d rfl hn rfl (Nat.le_trans (Nat.mul_le_mul hl.2 hcb) hb) r1 r2 w.1.1 fun H1 cA e1 z1 o1 _ hNm => ?_
    refine W.widen r3 r4 ?_
    rw [hty] at hNm e1
    have hcA : cA = D.2.2.1 t := z_arrN F.2.2.2.2.2.2.2.2 ht hNm
    have hel : (fun _ : Nat => defaultValue (z_ty t)) = z_el (z_new σ (.inl (t, n.toNatClampNeg))) t (z_sz σ) := funext fun j => z_dfl ht j
    have e1' : H1[z_sz σ]? = some (arrV (D.2.2.1 t) n.toNatClampNeg (z_el (z_new σ (.inl (t, n.toNatClampNeg))) t (z_sz σ))) := by rw [e1, hel, hcA]
    have ht5 : t < 5 := by omega
    have hW1 : z_Wd D B (z_new σ (.inl (t, n.toNatClampNeg))) H1 := z_mk _ w.1 (by rw [z1, w.1.1]) (fun q hq => o1 q (by rw [← w.1.1]; exact hq)) ⟨e1', ht5⟩
    exact h _ _ _ a ha hJ hl.1 (by show sz0 ≤ z_sz σ + 1; omega) p e s m args below meth c H1 locs lsA F ⟨hW1, fun q hq => by rw [o1 q (by rw [← w.1.1]; exact Nat.lt_of_lt_of_le hq w.1.2.1)]; exact w.2.1 q hq, w.2.2.1, w.2.2.2⟩
def q_newq (mx lim : Nat) (k : zK α) : zK α := fun ls st σ => match st with
  | .int n :: r => if n < 0 then none else if z_sz σ + 1 ≤ lim ∧ n.toNatClampNeg ≤ mx then k ls (.ref (z_sz σ) :: r) (z_new σ (.inl (4, n.toNatClampNeg))) else none
  | _ => none
theorem s_newq {i mx lim : Nat} (d : decode X.2.1 pc = .ok (.anewarray i, 3)) (hw : Cond.classLink X.1 i "RowChildren$Family" ∈ z_tb) (hR : z_Rm X) (hmx : mx = X.2.2.2.2.2.2.2.1) (hb : mx * 4 ≤ 536870912) (hlim : lim = sz0 + X.2.2.2.2.2.2.1) (h : zSnd l D B X sz0 post (pc + 3) k J) : zSnd l D B X sz0 post pc (q_newq mx lim k) J := by
  intro ls st σ a ha hJ
  unfold q_newq at ha
  split at ha
  case h_2 => cases ha
  rename_i n r
  split at ha
  · cases ha
  · rename_i hn
    split at ha
    case isFalse => cases ha
    rename_i hl
    subst hlim
    subst hmx
    intro hA hB p e s m args below meth c H locs lsA F w
    obtain ⟨r1, r2, r3, r4⟩ := z_room hR hl.1 hB hl.2
    refine W.anew F.1 F.2.1 F.2.2.2.1 (F.2.2.2.2.1 _ hw) (va_AO.use F.2.2.2.2.2.2.2.2.2.2.1) rfl d rfl hn (Nat.le_trans (Nat.mul_le_mul_right _ hl.2) hb) r1 r2 fun cA kA comp f1 f2 f3 f4 => ?_
    refine W.widen r3 r4 ?_
    have hcA : cA = D.2.2.1 4 := by
      obtain ⟨_, _, -, -, -, h1⟩ := (z_arr F.2.2.2.2.2.2.2.2 4 (by decide)).2
      exact Option.some.inj (f1.symm.trans h1)
    have o1 : ∀ q : Nat, q < H.size → (H.push ({ cls := cA, slots := Array.replicate n.toNatClampNeg .null, vm := .none } : Cell))[q]? = H[q]? := fun q hq => by rw [Array.getElem?_push, if_neg (Nat.ne_of_lt hq)]
    have hel : (fun _ : Nat => Value.null) = z_el (z_new σ (.inl (4, n.toNatClampNeg))) 4 (z_sz σ) := by
      funext j
      simp [z_el, z_new, z_row0, va_rf]
    have hW1 : z_Wd D B (z_new σ (.inl (4, n.toNatClampNeg))) (H.push ({ cls := cA, slots := Array.replicate n.toNatClampNeg .null, vm := .none } : Cell)) := z_mk _ w.1 (by rw [Array.size_push]) o1 ⟨by rw [← w.1.1, Array.getElem?_push_size, arrV_new, hcA]; congr 2; rw [w.1.1]; exact hel, (show (4 : Nat) < 5 by decide)⟩
    have h9 := h _ _ _ a ha hJ hl.1 (by show sz0 ≤ z_sz σ + 1; omega) p e s m args below meth c _ locs lsA F ⟨hW1, fun q hq => by rw [o1 q (Nat.lt_of_lt_of_le hq w.1.2.1)]; exact w.2.1 q hq, w.2.2.1, w.2.2.2⟩
    rw [w.1.1]
    exact h9
end ROWS
