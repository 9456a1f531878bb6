/-! read: the reference's expressions spell what the form says -/
def uC (L : Nat → Nat → Int64) (Z : zZ) (M : Nat) (K W S : Nat → Nat) (sz lim u m : Nat) : Prop := ∀ (I : Nat → Nat → Int32) (i o t c : Nat), tokR I M K W S sz → okQ I M i → i < sz → I M 12 = nI o → o + m = 6 → I M 42 = nI t → t ≤ 3 * o + 2 → vS I M t → I M 38 = nI c → c + t ≤ lim + i → ((sUn K W m i).1 = 0 → ∃ J, fA M (I, L, Z) = fC M (J, L, Z) ∧ okQ J M (sUn K W m i).2.1 ∧ J M 12 = nI o ∧ J M 42 = nI t ∧ J M 38 = nI (c + (sUn K W m i).2.2.length) ∧ segR J M c (sUn K W m i).2.2 ∧ frm (pX M u c t) I J) ∧ ((sUn K W m i).1 ≠ 0 → ∃ J, fA M (I, L, Z) = some (none, (J, L, Z)) ∧ flQ J M S (sUn K W m i).1 (sUn K W m i).2.1 ∧ frm (pX M u c t) I J)
theorem un_sp {K W S : Nat → Nat} {sz m i : Nat} (hS : tkS K W S sz) (hi : i < sz) : (sUn K W m i).1 < 3 ∧ i ≤ (sUn K W m i).2.1 ∧ (sUn K W m i).2.1 ≤ 400 ∧ (sUn K W m i).2.1 < sz := by
  have sz4 := hS.2.1
  have s := spn_un (K := K) m i (by omega)
  rw [← pr_un (W := W)] at s
  exact ⟨s.1, s.2.1, s.2.2.1, (s.weak (fun k hk => ⟨hk.1, hk.2.1⟩)).lt hS.2.2.2.1 hi⟩
theorem un_gt {K W : Nat → Nat} {m i : Nat} (h : (sUn K W m i).1 = 0) : i < (sUn K W m i).2.1 := by
  cases m with
  | zero =>
    rw [sUn] at h ⊢
    by_cases g : K i = 40
    · rw [if_pos g] at h
      cases h
    · rw [if_neg g] at h ⊢
      unfold sLeaf at h ⊢
      by_cases g1 : K i = 21
      · rw [if_pos g1] at h ⊢
        rw [(adv_0 h).1]
        exact Nat.lt_succ_self i
      · rw [if_neg g1] at h ⊢
        by_cases g2 : 11 ≤ K i ∧ K i ≤ 19
        · rw [if_pos g2] at h ⊢
          rw [(adv_0 h).1]
          exact Nat.lt_succ_self i
        · rw [if_neg g2] at h
          cases h
  | succ m =>
    rw [sUn] at h ⊢
    by_cases g : K i = 40
    · rw [if_pos g] at h ⊢
      obtain ⟨a1, a2⟩ := sBind_ok (j := (sBind [] (sAdv i () ()) fun j _ => sBind [] (sEx (sUn K W m) K j) fun j c => sBind [] (sMust K 41 j) fun j _ => (0, j, c)).2.1) (b := (sBind [] (sAdv i () ()) fun j _ => sBind [] (sEx (sUn K W m) K j) fun j c => sBind [] (sMust K 41 j) fun j _ => (0, j, c)).2.2) (Prod.ext h rfl)
      have a3 := adv_0 a1
      rw [sBind_yes a1, a3.1]
      show i < (sBind [] (sEx (sUn K W m) K (i + 1)) fun j c => sBind [] (sMust K 41 j) fun j _ => (0, j, c)).2.1
      have s := spn_thn (spn_ex (K := K) (spn_un m) (i + 1) (by omega)) (spn_must (p := inn) (k := 41) (by unfold inn; omega))
      have e : pr (sBind [] (sEx (sUn K W m) K (i + 1)) fun j c => sBind [] (sMust K 41 j) fun j _ => (0, j, c)) = thn (ex2 (un2 K m) K (i + 1)) (must2 K 41) := by
        rw [pr_bind (g := must2 K 41), pr_ex (pr_un m)]
        intro j c
        rw [pr_bind (g := fun j => (0, j)), pr_must, thn_id]
        intro j _
        rfl
      rw [← e] at s
      exact s.2.1
    · rw [if_neg g] at h ⊢
      unfold sLeaf at h ⊢
      by_cases g1 : K i = 21
      · rw [if_pos g1] at h ⊢
        rw [(adv_0 h).1]
        exact Nat.lt_succ_self i
      · rw [if_neg g1] at h ⊢
        by_cases g2 : 11 ≤ K i ∧ K i ≤ 19
        · rw [if_pos g2] at h ⊢
          rw [(adv_0 h).1]
          exact Nat.lt_succ_self i
        · rw [if_neg g2] at h
          cases h
theorem sTl_end {U : Nat → sR} {K : Nat → Nat} {n j : Nat} {S : Option (List (Nat × Nat) × Nat)} {P : List (Nat × Nat)} (h : sOp (K j) = 0) : sTl U K n j S P = (0, j, sJoin S P) := by
  cases n with
  | zero => rfl
  | succ n => rw [sTl, if_pos h]
/-- where the tail of an expression ends -/
def tC (L : Nat → Nat → Int64) (Z : zZ) (M : Nat) (K S : Nat → Nat) (lim u o t c : Nat) (I : Nat → Nat → Int32) (r : sR) : Prop := (r.1 = 0 → ∃ J s P d, fC M (I, L, Z) = fC M (J, L, Z) ∧ okQ J M r.2.1 ∧ xT J M o t c s P d ∧ vS J M (t + nO s + nO d) ∧ r.2.2 = sJoin s (P ++ pdL d) ∧ sOp (K r.2.1) = 0 ∧ c + (s1 s).length + P.length + t + nO s + nO d ≤ lim + r.2.1 ∧ frm (pX M u c t) I J) ∧ (r.1 ≠ 0 → ∃ J, fC M (I, L, Z) = some (none, (J, L, Z)) ∧ flQ J M S r.1 r.2.1 ∧ frm (pX M u c t) I J)
theorem r_tail {L : Nat → Nat → Int64} {Z : zZ} {M sz lim u m o t c : Nat} {K W S : Nat → Nat} (h : isMod Z M) (hS : tkS K W S sz) (hl : lim + 420 ≤ u) (hu : u ≤ 840) (hU : uC L Z M K W S sz lim u m) (ho : o + m = 6) (ht : t ≤ 3 * o) : ∀ n (I : Nat → Nat → Int32) (i : Nat) (s : Option (List (Nat × Nat) × Nat)) (P : List (Nat × Nat)) (d : Option Nat), tokR I M K W S sz → okQ I M i → i < sz → 400 < i + n → xT I M o t c s P d → vS I M (t + nO s + nO d) → c + (s1 s).length + P.length + t + nO s + nO d ≤ lim + i → tC L Z M K S lim u o t c I (sTl (sUn K W m) K n i s (P ++ pdL d)) := by
  have sz4 := hS.2.1
  intro n
  induction n with
  | zero =>
    intro I i s P d hT hO hi hn hx hv hc
    omega
  | succ n ih =>
    intro I i s P d hT hO hi hn hx hv hc
    have ns := nO_le (o := s)
    have nd := nO_le (o := d)
    by_cases g : sOp (K i) = 0
    · rw [sTl_end g]
      exact ⟨fun _ => ⟨I, s, P, d, rfl, hO, hx, hv, rfl, g, hc, frm.refl _ _⟩, fun z => absurd rfl z⟩
    · obtain ⟨p1, p2, p3, p4, p5, p6⟩ := sOp_R (K i) (hS.1 i) g
      rw [sTl, if_neg g]
      -- what is there before the next unit
      have go : ∀ (sd t1 : Nat) (J1 : Nat → Nat → Int32) (s' : Option (List (Nat × Nat) × Nat)) (Q : List (Nat × Nat)) (d' : Option Nat), sd = (if 4 ≤ sOp (K i) then 1 else 0) → fX12_comesOut [.ref M, .int (nI sd)] (I, L, Z) = some (none, (J1, L, Z)) → frm (pX M u c t) I J1 → (∀ k, J1 (M + 26) k = I (M + 26) k) → J1 M 13 = I M 13 → J1 M 11 = I M 11 → J1 M 12 = nI o → J1 M 42 = nI t1 → t ≤ t1 → t1 + 1 = t + nO s' + nO d' → t1 ≤ t + nO s + nO d → J1 M 38 = nI (c + (s1 s').length + Q.length) → segR J1 M c (s1 s' ++ Q) → (∀ q, s' = some q → (q.2 = 2 ∨ q.2 = 3) ∧ (t < t1 → J1 (M + 26) t = nI (opR q.2)) ∧ (t = t1 → opR q.2 = opR (sOp (K i)))) → (∀ op, d' = some op → (op = 4 ∨ op = 5) ∧ op = sOp (K i) ∧ t1 = t + nO s') → c + (s1 s').length + Q.length + t1 ≤ lim + i → tC L Z M K S lim u o t c I (sBind [] (sAdv i () ()) fun j1 _ => sBind [] (sUn K W m j1) fun j2 cd => sTl (sUn K W m) K n j2 s' (Q ++ cd ++ pdL d')) := by
        intro sd t1 J1 s' Q d' hsd hco f1 e26 e13 e11 e12 e42 tt et tv e38 es hq hd hb
        have hT1 := hT.kept f1 pX_t
        have hO1 : okQ J1 M i := ⟨by rw [e13]; exact hO.1, by rw [e11]; exact hO.2⟩
        obtain ⟨c1, c2⟩ := xC_op (L := L) h hS hT hO hi g hsd hco hT1 hO1 e42 (by omega)
        by_cases g4 : 400 ≤ i
        · have e : sAdv i () () = (2, i, ()) := if_pos g4
          rw [e, sBind_no (by show 2 ≠ 0; decide)]
          refine ⟨fun z => absurd z (by show ¬ 2 = 0; decide), fun _ => ⟨_, c2 g4, ?_, (((f1.up (by unfold pX; omega)).up (by unfold pX; omega)).up (by unfold pX; omega)).up (by unfold pX; omega)⟩⟩
          exact fl_fail (S := S) (I := z_up (z_up J1 (M + 26) t1 (nI (opR (sOp (K i))))) M 42 (nI (t1 + 1))) ⟨by rw [zup_ne (by omega), zup_off (by omega)]; exact hO1.1, by rw [zup_ne (by omega), zup_off (by omega)]; exact hO1.2⟩ (by omega) (by decide) (by decide)
        · have e : sAdv i () () = (0, i + 1, ()) := if_neg g4
          rw [e, sBind_yes rfl]
          show tC L Z M K S lim u o t c I (sBind [] (sUn K W m (i + 1)) fun j2 cd => sTl (sUn K W m) K n j2 s' (Q ++ cd ++ pdL d'))
          have c1 := c1 (by omega)
          have f2 : frm (pX M u c t) I (z_up (z_up (z_up J1 (M + 26) t1 (nI (opR (sOp (K i))))) M 42 (nI (t1 + 1))) M 11 (nI (i + 1))) := ((f1.up (by unfold pX; omega)).up (by unfold pX; omega)).up (by unfold pX; omega)
          have w26 : ∀ k, k ≠ t1 → z_up (z_up (z_up J1 (M + 26) t1 (nI (opR (sOp (K i))))) M 42 (nI (t1 + 1))) M 11 (nI (i + 1)) (M + 26) k = J1 (M + 26) k := fun k hk => by rw [zup_off (by omega), zup_off (by omega), zup_ne hk]
          have wt : z_up (z_up (z_up J1 (M + 26) t1 (nI (opR (sOp (K i))))) M 42 (nI (t1 + 1))) M 11 (nI (i + 1)) (M + 26) t1 = nI (opR (sOp (K i))) := by rw [zup_off (by omega), zup_off (by omega), zup_at]
          have w12 : z_up (z_up (z_up J1 (M + 26) t1 (nI (opR (sOp (K i))))) M 42 (nI (t1 + 1))) M 11 (nI (i + 1)) M 12 = nI o := by rw [zup_ne (by omega), zup_ne (by omega), zup_off (by omega)]; exact e12
          have w38 : z_up (z_up (z_up J1 (M + 26) t1 (nI (opR (sOp (K i))))) M 42 (nI (t1 + 1))) M 11 (nI (i + 1)) M 38 = nI (c + (s1 s').length + Q.length) := by rw [zup_ne (by omega), zup_ne (by omega), zup_off (by omega)]; exact e38
          have w42 : z_up (z_up (z_up J1 (M + 26) t1 (nI (opR (sOp (K i))))) M 42 (nI (t1 + 1))) M 11 (nI (i + 1)) M 42 = nI (t1 + 1) := by rw [zup_ne (by omega), zup_at]
          have wO : okQ (z_up (z_up (z_up J1 (M + 26) t1 (nI (opR (sOp (K i))))) M 42 (nI (t1 + 1))) M 11 (nI (i + 1))) M (i + 1) := ⟨by rw [zup_ne (by omega), zup_ne (by omega), zup_off (by omega)]; exact hO1.1, zup_at⟩
          have wS : segR (z_up (z_up (z_up J1 (M + 26) t1 (nI (opR (sOp (K i))))) M 42 (nI (t1 + 1))) M 11 (nI (i + 1))) M c (s1 s' ++ Q) := by
            refine ⟨es.1, fun k q hq' => ?_⟩
            rw [zup_off (by omega), zup_off (by omega), zup_off (by omega), zup_off (by omega), zup_off (by omega), zup_off (by omega)]
            exact es.2 k q hq'
          generalize z_up (z_up (z_up J1 (M + 26) t1 (nI (opR (sOp (K i))))) M 42 (nI (t1 + 1))) M 11 (nI (i + 1)) = J2 at c1 f2 w26 wt w12 w38 w42 wO wS
          have wv : vS J2 M (t1 + 1) := fun k hk => by
            by_cases z : k = t1
            · subst z
              exact ⟨_, wt, by rcases p2 with y | y | y | y <;> rw [y] <;> decide⟩
            · obtain ⟨x, u1, u2⟩ := hv k (by omega)
              exact ⟨x, by rw [w26 k z, e26]; exact u1, u2⟩
          have hi1 : i + 1 < sz := hS.2.2.2.1 i hi (by omega) (by
            rcases sOp_ne g with y | y | y | y <;> rw [y] <;> unfold inn0 <;> decide)
          have hT2 := hT.kept f2 pX_t
          obtain ⟨u1, u2⟩ := hU J2 (i + 1) o (t1 + 1) (c + (s1 s').length + Q.length) hT2 wO hi1 w12 ho w42 (by have := nO_le (o := s'); have := nO_le (o := d'); omega) wv w38 (by omega)
          obtain ⟨y1, y2, y3, y4⟩ := un_sp (W := W) (m := m) hS hi1
          by_cases gu : (sUn K W m (i + 1)).1 = 0
          · rw [sBind_yes gu]
            obtain ⟨J3, a1, a2, a3, a4, a5, a6, a7⟩ := u1 gu
            have gt := un_gt gu
            have le := len_un (K := K) (W := W) m (i + 1) gu
            generalize (sUn K W m (i + 1)).2.1 = j2 at a2 y2 y3 y4 gt le ⊢
            generalize (sUn K W m (i + 1)).2.2 = cd at a5 a6 le ⊢
            have f3 : frm (pX M u c t) J2 J3 := a7.weak fun a k => pX_X (by omega) (by omega)
            have hx3 : xT J3 M o t c s' (Q ++ cd) d' := by
              refine ⟨a3, ?_, ?_, ?_, fun q hq' => ?_, fun op hop => ?_, ?_⟩
              · rw [a4, et]
              · rw [a5, List.length_append]
                congr 1
                omega
              · rw [← List.append_assoc]
                refine seg_app (seg_frm wS a7 (fun k hk => by rw [List.length_append] at hk; unfold pX; omega)) ?_
                rw [List.length_append, ← Nat.add_assoc]
                exact a6
              · obtain ⟨b1, b2, b3⟩ := hq q hq'
                refine ⟨b1, ?_⟩
                rw [a7 _ _ (by unfold pX; omega)]
                by_cases z : t = t1
                · rw [z, wt, ← b3 z]
                · rw [w26 t z]
                  exact b2 (by omega)
              · obtain ⟨b1, b2, b3⟩ := hd op hop
                refine ⟨b1, ?_⟩
                rw [a7 _ _ (by unfold pX; omega), ← b3, wt, b2]
              · by_cases z : t = 0
                · exact Or.inl z
                · refine Or.inr ?_
                  rw [a7 _ _ (by unfold pX; omega), f2 _ _ (by unfold pX; omega)]
                  exact hx.2.2.2.2.2.2.resolve_left z
            have hv3 : vS J3 M (t + nO s' + nO d') := by
              rw [← et]
              exact wv.kept a7 (Nat.le_refl _) (fun k hk => by unfold pX; omega)
            have r := ih J3 j2 s' (Q ++ cd) d' (hT2.kept f3 pX_t) a2 y4 (by omega) hx3 hv3 (by rw [List.length_append]; omega)
            refine ⟨fun z => ?_, fun z => ?_⟩
            · obtain ⟨J, s2, P2, d2, k1, k2, k3, k4, k5, k6, k7, k8⟩ := r.1 z
              exact ⟨J, s2, P2, d2, (c1.trans a1).trans k1, k2, k3, k4, k5, k6, k7, (f2.trans f3).trans k8⟩
            · obtain ⟨J, k1, k2, k3⟩ := r.2 z
              exact ⟨J, (c1.trans a1).trans k1, k2, (f2.trans f3).trans k3⟩
          · rw [sBind_no gu]
            obtain ⟨J3, a1, a2, a3⟩ := u2 gu
            exact ⟨fun z => absurd z gu, fun _ => ⟨J3, c1.trans a1, a2, f2.trans (a3.weak fun a k => pX_X (by omega) (by omega))⟩⟩
      have hc8 : c + (s1 s).length + P.length + 2 ≤ u := by omega
      by_cases g4 : 4 ≤ sOp (K i)
      · obtain ⟨J1, j1, j2, j3⟩ := r_outT (L := L) h hx (by omega) hu hc8
        obtain ⟨x1, x2, x3, x4, x5, x6, x7⟩ := j2
        have r := go 1 (t + nO s) J1 s (P ++ pdL d) (some (sOp (K i))) (by rw [if_pos g4]) j1 (j3.weak fun a k => pO_X (by omega)) (fun k => j3 _ _ (by unfold pO; omega)) (j3 _ _ (by unfold pO; omega)) (j3 _ _ (by unfold pO; omega)) x1 x2 (by omega) rfl (by omega) x3 x4 (fun q hq => ⟨(x5 q hq).1, fun _ => (x5 q hq).2, fun z => by rw [hq] at z; have z : t = t + 1 := z; omega⟩) (fun op hop => by cases hop; exact ⟨by omega, rfl, rfl⟩) (by rw [List.length_append, len_pd]; omega)
        have e : (fun (j1 : Nat) (_ : Unit) => sBind ([] : List (Nat × Nat)) (sUn K W m j1) fun j2 cd => if 4 ≤ sOp (K i) then sTl (sUn K W m) K n j2 s (P ++ pdL d ++ cd ++ [(sOp (K i), 0)]) else sTl (sUn K W m) K n j2 (some (sJoin s (P ++ pdL d), sOp (K i))) cd) = fun j1 _ => sBind [] (sUn K W m j1) fun j2 cd => sTl (sUn K W m) K n j2 s (P ++ pdL d ++ cd ++ pdL (some (sOp (K i)))) := by
          funext j1 _
          congr 1
          funext j2 cd
          rw [if_pos g4]
          rfl
        rw [e]
        exact r
      · obtain ⟨J1, r1, r2, r3, r4, r5⟩ := r_outF (L := L) h hx (by omega) hu hc8
        have lj : (sJoin s (P ++ pdL d)).length = (s1 s).length + P.length + nO s + nO d := by
          rw [len_join, List.length_append, len_pd]
          cases s with
          | none =>
            show 0 + (P.length + nO d) = 0 + P.length + 0 + nO d
            omega
          | some q =>
            show q.1.length + 1 + (P.length + nO d) = q.1.length + P.length + 1 + nO d
            omega
        have r := go 0 t J1 (some (sJoin s (P ++ pdL d), sOp (K i))) [] none (by rw [if_neg g4]) r1 (r5.weak fun a k => pO_X (by omega)) (fun k => r5 _ _ (by unfold pO; omega)) (r5 _ _ (by unfold pO; omega)) (r5 _ _ (by unfold pO; omega)) (by rw [r5 _ _ (by unfold pO; omega)]; exact hx.1) r2 (Nat.le_refl _) rfl (by omega) r3 (by rw [List.append_nil]; exact r4) (fun q hq => by cases hq; exact ⟨by show sOp (K i) = 2 ∨ sOp (K i) = 3; omega, fun z => by omega, fun _ => rfl⟩) (fun op hop => (nomatch hop)) (by show c + (sJoin s (P ++ pdL d)).length + 0 + t ≤ lim + i; omega)
        have e : (fun (j1 : Nat) (_ : Unit) => sBind ([] : List (Nat × Nat)) (sUn K W m j1) fun j2 cd => if 4 ≤ sOp (K i) then sTl (sUn K W m) K n j2 s (P ++ pdL d ++ cd ++ [(sOp (K i), 0)]) else sTl (sUn K W m) K n j2 (some (sJoin s (P ++ pdL d), sOp (K i))) cd) = fun j1 _ => sBind [] (sUn K W m j1) fun j2 cd => sTl (sUn K W m) K n j2 (some (sJoin s (P ++ pdL d), sOp (K i))) ([] ++ cd ++ pdL none) := by
          funext j1 _
          congr 1
          funext j2 cd
          rw [if_neg g4]
          show _ = sTl (sUn K W m) K n j2 (some (sJoin s (P ++ pdL d), sOp (K i))) (cd ++ [])
          rw [List.append_nil]
        rw [e]
        exact r
