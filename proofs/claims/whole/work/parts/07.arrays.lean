/-! arrays -/
section ROWS
variable {l : Launch} {D : zD} {B : Nat} {X : zX} {sz0 : Nat} {post : Option Value → zS → Prop} {α : Type} {J : α → Prop} {pc : Nat} {k : zK α}
def z_out (i : Int32) (n : Nat) : Prop := i < 0 ∨ n ≤ i.toNatClampNeg
theorem z_arr {D : zD} {B : Nat} {s : State} (hK : z_Kw D B s) (t : Nat) (ht : t < 5) : ArrOfT s (D.2.2.1 t) (z_ty t) ∧ va_RA s (D.2.2.1 t) (z_ty t) := by
  match t, ht with
  | 0, _ => exact hK.1.2 0 _ rfl
  | 1, _ => exact hK.1.2 1 _ rfl
  | 2, _ => exact hK.1.2 2 _ rfl
  | 3, _ => exact hK.1.2 3 _ rfl
  | 4, _ => exact hK.1.2 4 _ rfl
theorem z_elI {σ : zS} {t a : Nat} (ht : t < 3) (j : Nat) : z_el σ t a j = .int (σ.1 a j) := by
  unfold z_el
  rw [if_neg (by omega), if_neg (by omega)]
def q_iald (k : zK α) : zK α := fun ls st σ => match st with
  | .int i :: .ref a :: r => match z_lay σ a with
    | some (.inl (0, n)) => if i < 0 ∨ n ≤ i.toNatClampNeg then none else k ls (.int (σ.1 a i.toNatClampNeg) :: r) σ
    | _ => none
  | _ => none
theorem s_iald (d : decode X.2.1 pc = .ok (.iaload, 1)) (h : zSnd l D B X sz0 post (pc + 1) k J) : zSnd l D B X sz0 post pc (q_iald k) J := by
  intro ls st σ a ha hJ
  unfold q_iald at ha
  split at ha
  · split at ha
    · rename_i hl
      split at ha
      · cases ha
      · rename_i hin
        intro hA hB p e s m args below meth c H locs lsA F w
        have hlt := Nat.not_le.mp fun q => hin (Or.inr q)
        have hc : H[_]? = some (arrV (D.2.2.1 0) _ (z_el σ 0 _)) := (z_at w.1 hl).2.1
        exact W.iald (v := .int (σ.1 _ _)) F.1 F.2.1 hc ((z_arr F.2.2.2.2.2.2.2.2 0 (by decide)).1 _ _) (fun q => by cases q) (by rw [arrV_size]; exact hin) (by rw [arrV_read _ _ hlt]; rw [z_elI (by decide)]) rfl rfl d (h _ _ σ a ha hJ hA hB p e s m args below meth c H locs lsA F w)
    · cases ha
  · cases ha
def q_bald (k : zK α) : zK α := fun ls st σ => match st with
  | .int i :: .ref a :: r => match z_lay σ a with
    | some (.inl (1, n)) => if i < 0 ∨ n ≤ i.toNatClampNeg then none else k ls (.int (σ.1 a i.toNatClampNeg) :: r) σ
    | _ => none
  | _ => none
theorem s_bald (d : decode X.2.1 pc = .ok (.baload, 1)) (h : zSnd l D B X sz0 post (pc + 1) k J) : zSnd l D B X sz0 post pc (q_bald k) J := by
  intro ls st σ a ha hJ
  unfold q_bald at ha
  split at ha
  · split at ha
    · rename_i hl
      split at ha
      · cases ha
      · rename_i hin
        intro hA hB p e s m args below meth c H locs lsA F w
        have hlt := Nat.not_le.mp fun q => hin (Or.inr q)
        have hc : H[_]? = some (arrV (D.2.2.1 1) _ (z_el σ 1 _)) := (z_at w.1 hl).2.1
        exact W.bald (v := .int (σ.1 _ _)) F.1 F.2.1 hc ((z_arr F.2.2.2.2.2.2.2.2 1 (by decide)).1 _ _) (fun q => by cases q) (by rw [arrV_size]; exact hin) (by rw [arrV_read _ _ hlt]; rw [z_elI (by decide)]) rfl rfl d (h _ _ σ a ha hJ hA hB p e s m args below meth c H locs lsA F w)
    · cases ha
  · cases ha
def q_zald (k : zK α) : zK α := fun ls st σ => match st with
  | .int i :: .ref a :: r => match z_lay σ a with
    | some (.inl (2, n)) => if i < 0 ∨ n ≤ i.toNatClampNeg then none else k ls (.int (σ.1 a i.toNatClampNeg) :: r) σ
    | _ => none
  | _ => none
theorem s_zald (d : decode X.2.1 pc = .ok (.baload, 1)) (h : zSnd l D B X sz0 post (pc + 1) k J) : zSnd l D B X sz0 post pc (q_zald k) J := by
  intro ls st σ a ha hJ
  unfold q_zald at ha
  split at ha
  · split at ha
    · rename_i hl
      split at ha
      · cases ha
      · rename_i hin
        intro hA hB p e s m args below meth c H locs lsA F w
        have hlt := Nat.not_le.mp fun q => hin (Or.inr q)
        have hc : H[_]? = some (arrV (D.2.2.1 2) _ (z_el σ 2 _)) := (z_at w.1 hl).2.1
        exact W.zald (v := .int (σ.1 _ _)) F.1 F.2.1 hc ((z_arr F.2.2.2.2.2.2.2.2 2 (by decide)).1 _ _) (fun q => by cases q) (by rw [arrV_size]; exact hin) (by rw [arrV_read _ _ hlt]; rw [z_elI (by decide)]) rfl rfl d (h _ _ σ a ha hJ hA hB p e s m args below meth c H locs lsA F w)
    · cases ha
  · cases ha
def q_lald (k : zK α) : zK α := fun ls st σ => match st with
  | .int i :: .ref a :: r => match z_lay σ a with
    | some (.inl (3, n)) => if i < 0 ∨ n ≤ i.toNatClampNeg then none else k ls (.long (σ.2.1 a i.toNatClampNeg) :: r) σ
    | _ => none
  | _ => none
theorem s_lald (d : decode X.2.1 pc = .ok (.laload, 1)) (h : zSnd l D B X sz0 post (pc + 1) k J) : zSnd l D B X sz0 post pc (q_lald k) J := by
  intro ls st σ a ha hJ
  unfold q_lald at ha
  split at ha
  · split at ha
    · rename_i hl
      split at ha
      · cases ha
      · rename_i hin
        intro hA hB p e s m args below meth c H locs lsA F w
        have hlt := Nat.not_le.mp fun q => hin (Or.inr q)
        have hc := (z_at w.1 hl).2.1
        exact W.lald (v := .long (σ.2.1 _ _)) F.1 F.2.1 hc ((z_arr F.2.2.2.2.2.2.2.2 3 (by decide)).1 _ _) (fun q => by cases q) (by rw [arrV_size]; exact hin) (by rw [arrV_read _ _ hlt]; rfl) rfl rfl d (h _ _ σ a ha hJ hA hB p e s m args below meth c H locs lsA F w)
    · cases ha
  · cases ha
def q_aald (k : zK α) : zK α := fun ls st σ => match st with
  | .int i :: .ref a :: r => match z_lay σ a with
    | some (.inl (4, n)) => if i < 0 ∨ n ≤ i.toNatClampNeg then none else match σ.2.2.1 a i.toNatClampNeg with
      | some b => k ls (.ref b :: r) σ
      | none => none
    | _ => none
  | _ => none
theorem s_aald (d : decode X.2.1 pc = .ok (.aaload, 1)) (h : zSnd l D B X sz0 post (pc + 1) k J) : zSnd l D B X sz0 post pc (q_aald k) J := by
  intro ls st σ a ha hJ
  unfold q_aald at ha
  split at ha
  · split at ha
    · rename_i hl
      split at ha
      · cases ha
      · rename_i hin
        split at ha
        · rename_i b hb
          intro hA hB p e s m args below meth c H locs lsA F w
          have hlt := Nat.not_le.mp fun q => hin (Or.inr q)
          have hc := (z_at w.1 hl).2.1
          exact W.aald (v := .ref b) (ty := z_ty 4) F.1 F.2.1 hc ((z_arr F.2.2.2.2.2.2.2.2 4 (by decide)).1 _ _) rfl (fun q => by cases q) (by rw [arrV_size]; exact hin) (by rw [arrV_read _ _ hlt]; show some (va_rf (σ.2.2.1 _ _)) = _; rw [hb]; rfl) rfl rfl d (h _ _ σ a ha hJ hA hB p e s m args below meth c H locs lsA F w)
        · cases ha
    · cases ha
  · cases ha
def q_alen (k : zK α) : zK α := fun ls st σ => match st with
  | .ref a :: r => match z_lay σ a with
    | some (.inl (_, n)) => k ls (.int (Int32.ofNat n) :: r) σ
    | _ => none
  | _ => none
theorem s_alen (d : decode X.2.1 pc = .ok (.arraylength, 1)) (h : zSnd l D B X sz0 post (pc + 1) k J) : zSnd l D B X sz0 post pc (q_alen k) J := by
  intro ls st σ a ha hJ
  unfold q_alen at ha
  split at ha
  · split at ha
    · rename_i hl
      intro hA hB p e s m args below meth c H locs lsA F w
      have hc := (z_at w.1 hl).2
      exact W.alen F.1 F.2.1 hc.1 ((z_arr F.2.2.2.2.2.2.2.2 _ hc.2).1 _ _) (by rw [arrV_size]) rfl rfl d (h _ _ σ a ha hJ hA hB p e s m args below meth c H locs lsA F w)
    · cases ha
  · cases ha
/-- the world behind a store into an array -/
theorem z_put2 {σ σ' : zS} {H H1 : Heap} {a t n j : Nat} {v : Value} (hW : z_Wd D B σ H) (hl : z_lay σ a = some (.inl (t, n))) (ho : z_off a σ σ') (e1 : H1[a]? = some ((arrV (D.2.2.1 t) n (z_el σ t a)).setSlot j v)) (e2 : H1.size = H.size) (e3 : ∀ q : Nat, q ≠ a → H1[q]? = H[q]?) (hv : z_el σ' t a j = v) (hv' : ∀ i, i ≠ j → z_el σ' t a i = z_el σ t a i) : z_Wd D B σ' H1 := by
  refine z_wr hW ho e2 e3 (fun kk hkk => ?_)
  have ht := (z_at hW hl).2.2
  rw [hl] at hkk
  cases hkk
  refine ⟨?_, ht⟩
  rw [e1, arrV_store]
  congr 2
  funext i
  by_cases hi : i = j
  · subst hi
    simp [updV, hv]
  · simp [updV, hi, hv' i hi]
def q_iast (k : zK α) : zK α := fun ls st σ => match st with
  | .int x :: .int i :: .ref a :: r => match z_lay σ a with
    | some (.inl (0, n)) => if i < 0 ∨ n ≤ i.toNatClampNeg then none else k ls r (z_stI σ a i.toNatClampNeg x)
    | _ => none
  | _ => none
theorem s_iast (d : decode X.2.1 pc = .ok (.iastore, 1)) (h : zSnd l D B X sz0 post (pc + 1) k J) : zSnd l D B X sz0 post pc (q_iast k) J := by
  intro ls st σ a ha hJ
  unfold q_iast at ha
  split at ha
  · split at ha
    · rename_i x i a0 r o n hl
      split at ha
      · cases ha
      · rename_i hin
        intro hA hB p e s m args below meth c H locs lsA F w
        have hc := (z_at w.1 hl).2.1
        refine W.iast F.1 F.2.1 hc ((z_arr F.2.2.2.2.2.2.2.2 0 (by decide)).1 _ _) (fun q => by cases q) (by rw [arrV_size]; exact hin) rfl rfl d fun H' e1 e2 e3 => ?_
        refine h _ _ _ a ha hJ hA hB p e s m args below meth c H' _ lsA F ⟨z_put2 (σ' := z_stI σ a0 i.toNatClampNeg x) w.1 hl (z_offI _ _ _ _) e1 e2 e3 (by rw [z_elI (by decide)]; simp [z_stI, z_up]) (fun j hj => by rw [z_elI (by decide), z_elI (by decide)]; simp [z_stI, z_up, hj]), fun q hq => ?_, fun q hq => ?_, w.2.2.2⟩
        · rw [e3 q (Nat.ne_of_lt (Nat.lt_of_lt_of_le hq (z_at w.1 hl).1))]
          exact w.2.1 q hq
        · rcases List.mem_append.mp hq with hq | hq
          · exact w.2.2.1 q hq
          · rw [List.mem_singleton.mp hq]
            exact (z_at w.1 hl).1
    · cases ha
  · cases ha
def q_bast (k : zK α) : zK α := fun ls st σ => match st with
  | .int x :: .int i :: .ref a :: r => match z_lay σ a with
    | some (.inl (1, n)) => if i < 0 ∨ n ≤ i.toNatClampNeg then none else k ls r (z_stI σ a i.toNatClampNeg (vp_nar .byte x))
    | _ => none
  | _ => none
theorem s_bast (d : decode X.2.1 pc = .ok (.bastore, 1)) (h : zSnd l D B X sz0 post (pc + 1) k J) : zSnd l D B X sz0 post pc (q_bast k) J := by
  intro ls st σ a ha hJ
  unfold q_bast at ha
  split at ha
  · split at ha
    · rename_i x i a0 r o n hl
      split at ha
      · cases ha
      · rename_i hin
        intro hA hB p e s m args below meth c H locs lsA F w
        have hc := (z_at w.1 hl).2.1
        refine W.bast F.1 F.2.1 hc ((z_arr F.2.2.2.2.2.2.2.2 1 (by decide)).1 _ _) (fun q => by cases q) (by rw [arrV_size]; exact hin) rfl rfl d fun H' e1 e2 e3 => ?_
        refine h _ _ _ a ha hJ hA hB p e s m args below meth c H' _ lsA F ⟨z_put2 (σ' := z_stI σ a0 i.toNatClampNeg (vp_nar .byte x)) w.1 hl (z_offI _ _ _ _) e1 e2 e3 (by rw [z_elI (by decide)]; simp [z_stI, z_up, vp_nar]; try rfl) (fun j hj => by rw [z_elI (by decide), z_elI (by decide)]; simp [z_stI, z_up, hj]), fun q hq => ?_, fun q hq => ?_, w.2.2.2⟩
        · rw [e3 q (Nat.ne_of_lt (Nat.lt_of_lt_of_le hq (z_at w.1 hl).1))]
          exact w.2.1 q hq
        · rcases List.mem_append.mp hq with hq | hq
          · exact w.2.2.1 q hq
          · rw [List.mem_singleton.mp hq]
            exact (z_at w.1 hl).1
    · cases ha
  · cases ha
def q_zast (k : zK α) : zK α := fun ls st σ => match st with
  | .int x :: .int i :: .ref a :: r => match z_lay σ a with
    | some (.inl (2, n)) => if i < 0 ∨ n ≤ i.toNatClampNeg then none else if x = 0 ∨ x = 1 then k ls r (z_stI σ a i.toNatClampNeg x) else none
    | _ => none
  | _ => none
theorem s_zast (d : decode X.2.1 pc = .ok (.bastore, 1)) (h : zSnd l D B X sz0 post (pc + 1) k J) : zSnd l D B X sz0 post pc (q_zast k) J := by
  intro ls st σ a ha hJ
  unfold q_zast at ha
  split at ha
  · split at ha
    · rename_i x i a0 r o n hl
      split at ha
      · cases ha
      · rename_i hin
        split at ha
        case isFalse => cases ha
        rename_i hx
        intro hA hB p e s m args below meth c H locs lsA F w
        have hc := (z_at w.1 hl).2.1
        refine W.zast F.1 F.2.1 hc ((z_arr F.2.2.2.2.2.2.2.2 2 (by decide)).1 _ _) (fun q => by cases q) (by rw [arrV_size]; exact hin) rfl rfl d fun H' e1 e2 e3 => ?_
        refine h _ _ _ a ha hJ hA hB p e s m args below meth c H' _ lsA F ⟨z_put2 (σ' := z_stI σ a0 i.toNatClampNeg x) w.1 hl (z_offI _ _ _ _) e1 e2 e3 (by rw [z_elI (by decide)]; rcases hx with rfl | rfl <;> (simp [z_stI, z_up]; try rfl)) (fun j hj => by rw [z_elI (by decide), z_elI (by decide)]; simp [z_stI, z_up, hj]), fun q hq => ?_, fun q hq => ?_, w.2.2.2⟩
        · rw [e3 q (Nat.ne_of_lt (Nat.lt_of_lt_of_le hq (z_at w.1 hl).1))]
          exact w.2.1 q hq
        · rcases List.mem_append.mp hq with hq | hq
          · exact w.2.2.1 q hq
          · rw [List.mem_singleton.mp hq]
            exact (z_at w.1 hl).1
    · cases ha
  · cases ha
def q_last (k : zK α) : zK α := fun ls st σ => match st with
  | .long x :: .int i :: .ref a :: r => match z_lay σ a with
    | some (.inl (3, n)) => if i < 0 ∨ n ≤ i.toNatClampNeg then none else k ls r (z_stL σ a i.toNatClampNeg x)
    | _ => none
  | _ => none
theorem s_last (d : decode X.2.1 pc = .ok (.lastore, 1)) (h : zSnd l D B X sz0 post (pc + 1) k J) : zSnd l D B X sz0 post pc (q_last k) J := by
  intro ls st σ a ha hJ
  unfold q_last at ha
  split at ha
  · split at ha
    · rename_i x i a0 r o n hl
      split at ha
      · cases ha
      · rename_i hin
        intro hA hB p e s m args below meth c H locs lsA F w
        have hc := (z_at w.1 hl).2.1
        refine W.last F.1 F.2.1 hc ((z_arr F.2.2.2.2.2.2.2.2 3 (by decide)).1 _ _) (fun q => by cases q) (by rw [arrV_size]; exact hin) rfl rfl d fun H' e1 e2 e3 => ?_
        refine h _ _ _ a ha hJ hA hB p e s m args below meth c H' _ lsA F ⟨z_put2 (σ' := z_stL σ a0 i.toNatClampNeg x) w.1 hl (z_offL _ _ _ _) e1 e2 e3 (by simp [z_el, z_stL, z_up]) (fun j hj => by simp [z_el, z_stL, z_up, hj]), fun q hq => ?_, fun q hq => ?_, w.2.2.2⟩
        · rw [e3 q (Nat.ne_of_lt (Nat.lt_of_lt_of_le hq (z_at w.1 hl).1))]
          exact w.2.1 q hq
        · rcases List.mem_append.mp hq with hq | hq
          · exact w.2.2.1 q hq
          · rw [List.mem_singleton.mp hq]
            exact (z_at w.1 hl).1
    · cases ha
  · cases ha
def q_aast (k : zK α) : zK α := fun ls st σ => match st with
  | .ref x :: .int i :: .ref a :: r => match z_lay σ a with
    | some (.inl (4, n)) => if i < 0 ∨ n ≤ i.toNatClampNeg then none else if z_lay σ x = some (.inr 1) then k ls r (z_stR σ a i.toNatClampNeg (some x)) else none
    | _ => none
  | _ => none
theorem s_aast (d : decode X.2.1 pc = .ok (.aastore, 1)) (h : zSnd l D B X sz0 post (pc + 1) k J) : zSnd l D B X sz0 post pc (q_aast k) J := by
  intro ls st σ a ha hJ
  unfold q_aast at ha
  split at ha
  · split at ha
    · rename_i x i a0 r o n hl
      split at ha
      · cases ha
      · rename_i hin
        split at ha
        case isFalse => cases ha
        rename_i hx
        intro hA hB p e s m args below meth c H locs lsA F w
        have hc := (z_at w.1 hl).2.1
        have hlt := Nat.not_le.mp fun q => hin (Or.inr q)
        obtain ⟨r', hr', cellV, g1, g2, g3, -⟩ := (z_at w.1 hx).2
        have hcls := (F.2.2.2.2.2.2.2.2.1.1 1 _ rfl).2
        obtain ⟨kA, comp, k1, k2, k3, -⟩ := (z_arr F.2.2.2.2.2.2.2.2 4 (by decide)).2
        have hcomp : comp = D.1 1 := Option.some.inj (k3.symm.trans hcls.1)
        subst hcomp
        obtain ⟨kC, hkC, -⟩ := id hcls.2
        refine W.aast F.1 F.2.1 hc (fun q h => by cases h) (fun h => by cases h) k1 k2 rfl hkC ⟨fun q => hin (Or.inl q), by rw [arrV_size]; exact hlt⟩ g1 (fun q h => by rw [g3] at h; cases h) (by rw [g2]; exact hkC) (by rw [g2]; exact va_assign hcls) rfl rfl d fun H' e1 e2 e3 => ?_
        refine h _ _ _ a ha hJ hA hB p e s m args below meth c H' _ lsA F ⟨z_put2 (σ' := z_stR σ a0 i.toNatClampNeg (some x)) w.1 hl (z_offR _ _ _ _) e1 e2 e3 (by simp [z_el, z_stR, z_up, va_rf]) (fun j hj => by simp [z_el, z_stR, z_up, hj]), fun q hq => ?_, fun q hq => ?_, w.2.2.2⟩
        · rw [e3 q (Nat.ne_of_lt (Nat.lt_of_lt_of_le hq (z_at w.1 hl).1))]
          exact w.2.1 q hq
        · rcases List.mem_append.mp hq with hq | hq
          · exact w.2.2.1 q hq
          · rw [List.mem_singleton.mp hq]
            exact (z_at w.1 hl).1
    · cases ha
  · cases ha
end ROWS
