/-! the world at the law's entry -/
theorem z_arr1 {s : State} {args : Array Value} {ty : FieldType} (hp : va_RA s = fun c t => va_RA s c t) (h : (Cond.arrayClass ty).before args s = true) : ∃ cA : ClassId, ArrOfT s cA ty ∧ s.vm.findClass ("[" ++ ty.toString) = some cA := by
  obtain ⟨cA, kA, comp, h1, h2, h3⟩ := Cond.arrayClass_spec h
  exact ⟨cA, fun n z => ⟨fun k h => (by cases h), kA, h2, comp, h3⟩, h1⟩
theorem z_arrO {s : State} {args : Array Value} {C : String} (h : (Cond.arrayOver (.object C)).before args s = true) : ∃ cA : ClassId, ArrOfT s cA (.object C) ∧ va_RA s cA (.object C) := by
  obtain ⟨comp, cA, kA, h1, h2, h3, h4, h5⟩ := Cond.arrayOver_spec h
  exact ⟨cA, fun n z => ⟨fun k h => (by cases h), kA, h3, comp, h4⟩, kA, comp, h3, h4, h1, h5⟩
set_option maxRecDepth 100000 in
theorem z_fl_ex : ∀ i, i < 2 → Cond.exactly (z_tm i) "java/lang/String" ∈ flatC (Jvm.Cond.and given_1 narrow_1) := by decide +kernel
set_option maxRecDepth 100000 in
theorem z_fl_co : ∀ i, i < 2 → Cond.eq (.field (z_tm i) "java/lang/String" "coder" "B") (.int 0) ∈ flatC (Jvm.Cond.and given_1 narrow_1) := by decide +kernel
set_option maxRecDepth 100000 in
theorem z_fl_ar : ∀ i, i < 2 → Cond.arrayOf (.field (z_tm i) "java/lang/String" "value" "[B") .byte ∈ flatC (Jvm.Cond.and given_1 narrow_1) := by decide +kernel
set_option maxRecDepth 100000 in
theorem z_fl_le : ∀ i, i < 2 → Cond.eq (.length (.field (z_tm i) "java/lang/String" "value" "[B")) (.int (Int32.ofNat (z_lens.getD i 0))) ∈ flatC (Jvm.Cond.and given_1 narrow_1) := by decide +kernel
theorem z_fl_el : ∀ i, i < 2 → ∀ j, j < z_lens.getD i 0 → Cond.eq (.elem (.field (z_tm i) "java/lang/String" "value" "[B") (.int (Int32.ofNat j))) (.int ((z_byt.getD i []).getD j 0)) ∈ flatC (Jvm.Cond.and given_1 narrow_1) := by
  intro i hi
  rcases (show i = 0 ∨ i = 1 by omega) with rfl | rfl
  · exact z_elA0
  · exact z_elA1
set_option maxRecDepth 100000 in
theorem z_fl_ne : ∀ i, i < 2 → ∀ j, j < 2 → i ≠ j → Cond.not (Cond.eq (z_tm i) (z_tm j)) ∈ flatC (Jvm.Cond.and given_1 narrow_1) ∨ Cond.not (Cond.eq (z_tm j) (z_tm i)) ∈ flatC (Jvm.Cond.and given_1 narrow_1) := by decide +kernel
set_option maxRecDepth 100000 in
theorem z_fl_cs : Cond.eq (.static "java/lang/String" "COMPACT_STRINGS" "Z") (.int 1) ∈ flatC (Jvm.Cond.and given_1 narrow_1) := by decide +kernel
set_option maxRecDepth 100000 in
theorem z_fl_fm : Cond.isRef (.static "jdk/internal/util/Preconditions" "SIOOBE_FORMATTER" "Ljava/util/function/BiFunction;") ∈ flatC (Jvm.Cond.and given_1 narrow_1) := by decide +kernel
theorem z_strs {s : State} {b : Nat} (hts : ∀ w ∈ lw_tbl, w.before #[Value.ref b] s = true) (hgv : (Jvm.Cond.and given_1 narrow_1).before #[Value.ref b] s = true) : ∃ sA : Nat → Nat, z_E sA s.heap.size s := by
  have hf := flat_of_before _ hgv
  have hA : ∀ a : Nat, a < s.heap.size → ¬ (s.heap.size ≤ a) := fun a h => Nat.not_le.mpr h
  obtain ⟨adK, adV, h1, h2⟩ := vk_Sof (N := 2) (tm := z_tm) (len := z_lens) (byt := z_byt) (A := fun q => s.heap.size ≤ q) (by decide +kernel) (fun i hi => hf _ (z_fl_ex i hi)) (fun i hi => hf _ (z_fl_co i hi)) (fun i hi => hf _ (z_fl_ar i hi)) (fun i hi => hf _ (z_fl_le i hi)) (fun i hi j hj => hf _ (z_fl_el i hi j hj)) (fun i j hi hj hij => (z_fl_ne i hi j hj hij).imp (hf _) (hf _)) hA
  have hZ1 := va_Zof (A := fun q => s.heap.size ≤ q) (hts (.laysStatic "java/lang/String" "COMPACT_STRINGS" "Z") (by decide +kernel)) (hts (.initialized "java/lang/String") (by decide +kernel)) (va_eqi (hf _ z_fl_cs)) hA
  have hZ2 := va_Zqof (A := fun q => s.heap.size ≤ q) (hts (.laysStatic "jdk/internal/util/Preconditions" "SIOOBE_FORMATTER" "Ljava/util/function/BiFunction;") (by decide +kernel)) (hts (.initialized "jdk/internal/util/Preconditions") (by decide +kernel)) (hf _ z_fl_fm) hA
  obtain ⟨f, t, hft⟩ : ∃ f t : Nat, va_Z "jdk/internal/util/Preconditions" "SIOOBE_FORMATTER" "Ljava/util/function/BiFunction;" (if f = 0 then .null else .ref t) (fun q => s.heap.size ≤ q) s s.heap := by
    rcases hZ2 with h | ⟨t, h⟩
    · exact ⟨0, 0, h⟩
    · exact ⟨1, t, h⟩
  refine ⟨fun i => if i = 0 then adK 0 else if i = 1 then adK 1 else if i = 2 then adV 0 else if i = 3 then adV 1 else if i = 4 then t else f, ?_, vk_R.of (hts _ (by decide +kernel)) (h2 0 (by decide)), vk_R.of (hts _ (by decide +kernel)) (h2 1 (by decide)), hZ1, hft⟩
  refine ⟨fun i hi => ?_, fun i j hi hj e => h1.2 i j hi hj ?_⟩
  · rcases (show i = 0 ∨ i = 1 by omega) with rfl | rfl
    · exact h1.1 0 (by decide)
    · exact h1.1 1 (by decide)
  · rcases (show i = 0 ∨ i = 1 by omega) with rfl | rfl <;> rcases (show j = 0 ∨ j = 1 by omega) with rfl | rfl <;> exact e
theorem z_cls {s : State} {b : Nat} (hts : ∀ w ∈ z_tb, w.before #[Value.ref b] s = true) : ∀ k : Nat, ∃ d : ClassId × (Nat → Nat), ∀ q, vwCl[k]? = some q → u_Kn s q.1 q.2.1 q.2.2 d.1 d.2 := by
  intro k
  have go : ∀ (C : String) (T : u_T) (N : Nat), (∀ w ∈ u_ws C T N, w ∈ z_tb) → Cond.instantiable C N ∈ z_tb → vwCl[k]? = some (C, T, N) → ∃ d : ClassId × (Nat → Nat), ∀ q, vwCl[k]? = some q → u_Kn s q.1 q.2.1 q.2.2 d.1 d.2 := by
    intro C T N h1 h2 h3
    obtain ⟨cC, iS, h⟩ := u_known (C := C) (T := T) (N := N) (n := N) hts h1 (hts _ h2)
    exact ⟨(cC, iS), fun q hq => by cases h3.symm.trans hq; exact h⟩
  match k with
  | 0 => exact go RX0 TX0 5 clX0.2.1 (z_in (in_t2 (List.mem_of_getElem? (i := 23) rfl)) rfl) rfl
  | 1 => exact go RX1 TX1 5 clX1.2.1 (z_in (in_t1 (List.mem_of_getElem? (i := 111) rfl)) rfl) rfl
  | 2 => exact go RX2 TX2 3 clX2.2.1 (z_in (in_t1 (List.mem_of_getElem? (i := 202) rfl)) rfl) rfl
  | 3 => exact go RX3 TX3 5 clX3.2.1 (z_in (in_t1 (List.mem_of_getElem? (i := 236) rfl)) rfl) rfl
  | 4 => exact go RX4 TX4 7 clX4.2.1 (z_in (in_t2 (List.mem_of_getElem? (i := 47) rfl)) rfl) rfl
  | 5 => exact go RX5 TX5 7 clX5.2.1 (z_in (in_t1 (List.mem_of_getElem? (i := 75) rfl)) rfl) rfl
  | 6 => exact go RX6 TX6 2 clX6.2.1 (z_in (in_t1 (List.mem_of_getElem? (i := 31) rfl)) rfl) rfl
  | 7 => exact go RX7 TX7 10 clX7.2.1 (z_in (in_t1 (List.mem_of_getElem? (i := 48) rfl)) rfl) rfl
  | 8 => exact go RX8 TX8 4 clX8.2.1 (z_in (in_t1 (List.mem_of_getElem? (i := 54) rfl)) rfl) rfl
  | 9 => exact go RX9 TX9 9 clX9.2.1 (z_in (in_t2 (List.mem_of_getElem? (i := 77) rfl)) rfl) rfl
  | 10 => exact go RX10 TX10 3 clX10.2.1 (z_in (in_t1 (List.mem_of_getElem? (i := 218) rfl)) rfl) rfl
  | 11 => exact go RX11 TX11 13 clX11.2.1 (z_in (in_t1 (List.mem_of_getElem? (i := 23) rfl)) rfl) rfl
  | 12 => exact go RX12 TX12 74 clX12.2.1 (z_in (in_t6 (List.mem_of_getElem? (i := 39) rfl)) rfl) rfl
  | k + 13 => exact ⟨(0, fun _ => 0), fun q hq => by simp [vwCl] at hq⟩
theorem z_world {s : State} {b L : Nat} {xs : Nat → Int32} (hts : ∀ w ∈ lw_tbl, w.before #[Value.ref b] s = true) (hX : va_X b L xs s s.heap) (hbl : b < s.heap.size) (hgv : (Jvm.Cond.and given_1 narrow_1).before #[Value.ref b] s = true) : ∃ D : zD, D.2.2.2.2 = (b, L, xs) ∧ z_Kw D s.heap.size s := by
  have hts' : ∀ w ∈ z_tb, w.before #[Value.ref b] s = true := fun w hw => hts w (List.mem_filter.mp hw).1
  obtain ⟨sA, hE⟩ := z_strs hts hgv
  obtain ⟨d, hd⟩ := Classical.axiomOfChoice (z_cls hts')
  obtain ⟨a0, h0, g0⟩ := z_arr1 rfl (hts (.arrayClass .int) (by decide +kernel))
  obtain ⟨a1, h1, g1⟩ := z_arr1 rfl (hts (.arrayClass .byte) (by decide +kernel))
  obtain ⟨a2, h2, g2⟩ := z_arr1 rfl (hts (.arrayClass .boolean) (by decide +kernel))
  obtain ⟨a3, h3, g3⟩ := z_arr1 rfl (hts (.arrayClass .long) (by decide +kernel))
  have hAO : (Cond.arrayOver (.object "RowChildren$Family")).before #[Value.ref b] s = true := hts _ (by decide +kernel)
  obtain ⟨a4, h4, g4⟩ := z_arrO hAO
  refine ⟨(fun k => (d k).1, fun k => (d k).2, fun t => if t = 0 then a0 else if t = 1 then a1 else if t = 2 then a2 else if t = 3 then a3 else a4, sA, b, L, xs), rfl, ⟨fun k q hq => hd k q hq, fun k q hq => ?_⟩, ?_, va_AO.of hAO, hE, hX, hbl⟩
  · match k, hq with
    | 0, hq => cases hq; exact ⟨h0, g0⟩
    | 1, hq => cases hq; exact ⟨h1, g1⟩
    | 2, hq => cases hq; exact ⟨h2, g2⟩
    | 3, hq => cases hq; exact ⟨h3, g3⟩
    | 4, hq => cases hq; exact ⟨h4, g4⟩
    | k + 5, hq => simp [z_tys] at hq
  · have hn : ∀ q ∈ z_nest, Cond.methodLinkNest q.1 q.2.1 q.2.2.1 q.2.2.2 ∈ lw_tbl := by decide +kernel
    exact fun q hq => va_Nw.of rfl (hts _ (hn q hq))
