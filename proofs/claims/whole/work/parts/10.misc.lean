/-! System.arraycopy of ints; a String constant -/
section ROWS
variable {l : Launch} {D : zD} {B : Nat} {X : zX} {sz0 : Nat} {post : Option Value → zS → Prop} {α : Type} {J : α → Prop} {pc : Nat} {k : zK α}
def z_cpyS (σ : zS) (a0 a sp dp n : Nat) : zS := ((fun b j => if b = a then va_cpy (σ.1 a0) (σ.1 a) sp dp n j else σ.1 b j), σ.2)
def q_acpy (k : zK α) : zK α := fun ls st σ => match st with
  | .int n :: .int dp :: .ref a :: .int sp :: .ref a0 :: r => match z_lay σ a0, z_lay σ a with
    | some (.inl (0, n0)), some (.inl (0, n1)) => if ¬ sp < 0 ∧ ¬ dp < 0 ∧ ¬ n < 0 ∧ sp.toNatClampNeg + n.toNatClampNeg ≤ n0 ∧ dp.toNatClampNeg + n.toNatClampNeg ≤ n1 ∧ r.length ≤ 4 then k ls r (z_cpyS σ a0 a sp.toNatClampNeg dp.toNatClampNeg n.toNatClampNeg) else none
    | _, _ => none
  | _ => none
theorem z_pos {z : Int32} (hz : ¬ z < 0) : z.toInt = (z.toNatClampNeg : Int) := by
  have h0 : (0 : Int) ≤ z.toInt := by
    have h1 := Int32.le_iff_toInt_le.mp (Int32.not_lt.mp hz)
    simpa using h1
  show z.toInt = ((z.toInt.toNat : Nat) : Int)
  omega
theorem s_acpy {i : Nat} (d : decode X.2.1 pc = .ok (.invokestatic i, 3)) (hw : Cond.methodLink X.1 i arraycopyName ∈ z_tb) (hnat : Cond.native arraycopyName ∈ z_tb) (hst : Cond.static arraycopyName ∈ z_tb) (hin : Cond.initialized "java/lang/System" ∈ z_tb) (hR : 1 ≤ X.2.2.2.2.2.1.frames ∧ 8 + (nativeFrameWords "java/lang/System" "arraycopy" 5 + 11) ≤ X.2.2.2.2.2.1.locals)
    (h : zSnd l D B X sz0 post (pc + 3) k J) : zSnd l D B X sz0 post pc (q_acpy k) J := by
  intro ls st σ r0 ha hJ
  unfold q_acpy at ha
  split at ha
  case h_2 => cases ha
  rename_i n dp a sp a0 rest
  split at ha
  case h_2 => cases ha
  rename_i n0 n1 hl0 hl1
  split at ha
  case isFalse => cases ha
  rename_i hc
  obtain ⟨h1, h2, h3, h4, h5, h6⟩ := hc
  intro hA hB p e s m args below meth c H locs lsA F w
  have hts := F.2.2.2.2.1
  have hws := z_wsum _ 4 h6
  have hf0 : z_el σ 0 a0 = fun j => .int (σ.1 a0 j) := funext fun j => z_elI (by decide) j
  have hf1 : z_el σ 0 a = fun j => .int (σ.1 a j) := funext fun j => z_elI (by decide) j
  have hc0 : H[a0]? = some (arrV (D.2.2.1 0) n0 (fun j => .int (σ.1 a0 j))) := by rw [← hf0]; exact (z_at w.1 hl0).2.1
  have hc1 : H[a]? = some (arrV (D.2.2.1 0) n1 (fun j => .int (σ.1 a j))) := by rw [← hf1]; exact (z_at w.1 hl1).2.1
  have hBa := (z_at w.1 hl1).1
  intro T hT Y
  obtain ⟨-, k0, hk0, cm0, hkk0⟩ := (z_arr F.2.2.2.2.2.2.2.2 0 (by decide)).1 n0 (fun j => .int (σ.1 a0 j))
  obtain ⟨-, k1, hk1, cm1, hkk1⟩ := (z_arr F.2.2.2.2.2.2.2.2 0 (by decide)).1 n1 (fun j => .int (σ.1 a j))
  obtain ⟨vm', Y', step⟩ := Y.arraycopy F.1 F.2.2.2.1 (hts _ hw) (hts _ hnat) (hts _ hst) (hts _ hin) (src := a0) (dst := a) (srcPos := sp) (destPos := dp) (n := n) (by rw [hT]; exact hc0) (by rw [hT]; exact hc1)
    (fun _ q => by cases q) (fun _ q => by cases q) (fun q => by cases q) (fun q => by cases q) hk0 hk1 hkk0 hkk1 (by rfl) h1 h2 h3 (by rw [z_pos h1, z_pos h3, arrV_size]; omega) (by rw [z_pos h2, z_pos h3, arrV_size]; omega)
    (fun vm₁ _ i hi => by
      have e9 : (arrV (D.2.2.1 0) n0 (fun j => Value.int (σ.1 a0 j))).slots.getD (sp.toNatClampNeg + i) .null = .int (σ.1 a0 (sp.toNatClampNeg + i)) := by
        rw [Array.getD_eq_getD_getElem?, arrV_read _ _ (by omega)]
        rfl
      rw [e9]
      exact ⟨rfl, trivial⟩)
    (g := F0 m pc lsA (.int n :: .int dp :: .ref a :: .int sp :: .ref a0 :: rest)) rfl (by rw [F.2.2.1]; exact w.2.2.2.1) (rest := rest) rfl (by rw [F.2.1]; exact d) hR.1 (by show 2 * 0 + _ + _ ≤ _; omega)
  have e1 : copied (arrV (D.2.2.1 0) n0 (fun j => Value.int (σ.1 a0 j))) (arrV (D.2.2.1 0) n1 (fun j => Value.int (σ.1 a j))) sp dp n = arrV (D.2.2.1 0) n1 (fun j => .int (va_cpy (σ.1 a0) (σ.1 a) sp.toNatClampNeg dp.toNatClampNeg n.toNatClampNeg j)) := va_copied (fun z => .int z) _ _ _ _ h4
  rw [e1] at Y' step
  have hl : a < H.size := (Array.getElem?_eq_some_iff.mp hc1).1
  have oq : ∀ q : Nat, q ≠ a → (H.setIfInBounds a (arrV (D.2.2.1 0) n1 (fun j => Value.int (va_cpy (σ.1 a0) (σ.1 a) sp.toNatClampNeg dp.toNatClampNeg n.toNatClampNeg j))))[q]? = H[q]? := fun q hq => by simp [Array.getElem?_setIfInBounds, Ne.symm hq]
  have hW1 : z_Wd D B (z_cpyS σ a0 a sp.toNatClampNeg dp.toNatClampNeg n.toNatClampNeg) (H.setIfInBounds a (arrV (D.2.2.1 0) n1 (fun j => Value.int (va_cpy (σ.1 a0) (σ.1 a) sp.toNatClampNeg dp.toNatClampNeg n.toNatClampNeg j)))) := by
    refine z_wr (a := a) w.1 ⟨fun b j hb => ⟨by simp [z_cpyS, hb], rfl, rfl⟩, rfl⟩ (by simp) oq (fun kk hkk => ?_)
    rw [hl1] at hkk
    cases hkk
    refine ⟨?_, by show (0 : Nat) < 5; decide⟩
    have e2 : z_el (z_cpyS σ a0 a sp.toNatClampNeg dp.toNatClampNeg n.toNatClampNeg) 0 a = fun j => .int (va_cpy (σ.1 a0) (σ.1 a) sp.toNatClampNeg dp.toNatClampNeg n.toNatClampNeg j) := funext fun j => by rw [z_elI (by decide)]; simp [z_cpyS]
    show (H.setIfInBounds a _)[a]? = some (arrV (D.2.2.1 0) n1 (z_el _ 0 a))
    rw [e2]
    simp [Array.getElem?_setIfInBounds, hl]
  have h9 := fun (L : List Loc) (hL : ∀ q ∈ L, B ≤ q.base) => h _ _ _ r0 ha hJ hA hB p e s m args below meth c _ L lsA F ⟨hW1, fun q hq => by rw [oq q (Nat.ne_of_lt (Nat.lt_of_lt_of_le hq hBa))]; exact w.2.1 q hq, hL, w.2.2.2⟩
  obtain ⟨t, a1, b1⟩ := h9 _ (by
    intro q hq
    rcases List.mem_append.mp hq with hq | hq
    · exact w.2.2.1 q hq
    · obtain ⟨z, -, hz⟩ := List.mem_map.mp hq
      rw [← hz]
      exact hBa) _ (by rw [← hT]; rfl) Y'
  exact ⟨t, step t a1, b1⟩
def q_ldcS (i : Nat) (k : zK α) : zK α := fun ls st σ => k ls (.ref (z_str σ i) :: st) σ
theorem s_ldcS0 (d : decode X.2.1 pc = .ok (.ldc 74, 2)) (ho : X.1 = "RowChildren$Tokens") (h : zSnd l D B X sz0 post (pc + 2) k J) : zSnd l D B X sz0 post pc (q_ldcS 0 k) J := by
  intro ls st σ a ha hJ hA hB p e s m args below meth c H locs lsA F w
  obtain ⟨-, h2, -⟩ := F.2.2.2.2.2.2.2.2.2.2.2.1
  rw [w.1.2.2.1] at h2
  exact va_ldcS F.1 F.2.1 (by rw [← ho]; exact F.2.2.2.1) h2 d (h ls _ σ a ha hJ hA hB p e s m args below meth c H locs lsA F w)
theorem s_ldcS1 (d : decode X.2.1 pc = .ok (.ldc 63, 2)) (ho : X.1 = "RowChildren$Tokens") (h : zSnd l D B X sz0 post (pc + 2) k J) : zSnd l D B X sz0 post pc (q_ldcS 1 k) J := by
  intro ls st σ a ha hJ hA hB p e s m args below meth c H locs lsA F w
  obtain ⟨-, -, h2, -⟩ := F.2.2.2.2.2.2.2.2.2.2.2.1
  rw [w.1.2.2.1] at h2
  exact va_ldcS F.1 F.2.1 (by rw [← ho]; exact F.2.2.2.1) h2 d (h ls _ σ a ha hJ hA hB p e s m args below meth c H locs lsA F w)
end ROWS
