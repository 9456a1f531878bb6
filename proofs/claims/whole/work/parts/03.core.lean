/-! THE PURE PICTURE. A state: ints, longs, references by (cell, place); then the layout (an array: type and length; an object: its class's number), the heap's size, the addresses of String constants. -/
abbrev zT : Type := (Nat × Nat) ⊕ Nat
abbrev zZ : Type := (Nat → Nat → Option Nat) × (Nat → Option zT) × Nat × (Nat → Nat)
abbrev zS : Type := (Nat → Nat → Int32) × (Nat → Nat → Int64) × zZ
abbrev zL : Type := List (Option Value)
abbrev zD : Type := (Nat → ClassId) × (Nat → Nat → Nat) × (Nat → ClassId) × (Nat → Nat) × (Nat × Nat × (Nat → Int32))
abbrev zX : Type := String × ByteArray × Nat × Option FieldType × Bool × Room × Nat × Nat × Nat × Nat
abbrev zR : Type := Option Value × zS
abbrev zK (α : Type) : Type := zL → List Value → zS → Option α
abbrev zF : Type := List Value → zS → Option zR
def z_lay (σ : zS) (a : Nat) : Option zT := σ.2.2.2.1 a
def z_sz (σ : zS) : Nat := σ.2.2.2.2.1
def z_str (σ : zS) (i : Nat) : Nat := σ.2.2.2.2.2 i
def z_up {β : Type} (f : Nat → Nat → β) (a k : Nat) (v : β) : Nat → Nat → β := fun b j => if b = a ∧ j = k then v else f b j
def z_stI (σ : zS) (a k : Nat) (v : Int32) : zS := (z_up σ.1 a k v, σ.2)
def z_stL (σ : zS) (a k : Nat) (v : Int64) : zS := (σ.1, z_up σ.2.1 a k v, σ.2.2)
def z_stR (σ : zS) (a k : Nat) (v : Option Nat) : zS := (σ.1, σ.2.1, z_up σ.2.2.1 a k v, σ.2.2.2)
/-- a new cell behind the last: its places are 0, 0, null -/
def z_row0 {β : Type} (f : Nat → Nat → β) (a : Nat) (v : β) : Nat → Nat → β := fun b j => if b = a then v else f b j
def z_new (σ : zS) (k : zT) : zS := (z_row0 σ.1 (z_sz σ) 0, z_row0 σ.2.1 (z_sz σ) 0, z_row0 σ.2.2.1 (z_sz σ) none, (fun b => if b = z_sz σ then some k else z_lay σ b), z_sz σ + 1, σ.2.2.2.2.2)
def z_isR (ci k : Nat) : Bool := match vwCl[ci]? with
  | some r => !((r.2.1 k).2.2.1 == "I" || (r.2.1 k).2.2.1 == "Z")
  | none => false
def z_fv (σ : zS) (ci a k : Nat) : Value := if z_isR ci k = true then va_rf (σ.2.2.1 a k) else .int (σ.1 a k)
def z_el (σ : zS) (t a j : Nat) : Value := if t = 3 then .long (σ.2.1 a j) else if t = 4 then va_rf (σ.2.2.1 a j) else .int (σ.1 a j)
def z_ty : Nat → FieldType := fun t => match t with
  | 0 => .int
  | 1 => .byte
  | 2 => .boolean
  | 3 => .long
  | _ => .object "RowChildren$Family"
def z_ok (D : zD) (σ : zS) (a : Nat) (H : Heap) (k : zT) : Prop := match k with
  | .inl q => H[a]? = some (arrV (D.2.2.1 q.1) q.2 (z_el σ q.1 a)) ∧ q.1 < 5
  | .inr ci => ∃ r : vw_C, vwCl[ci]? = some r ∧ t_OB a (D.1 ci) r.2.2 (D.2.1 ci) H (z_fv σ ci a)
def z_Wd (D : zD) (B : Nat) (σ : zS) (H : Heap) : Prop := H.size = z_sz σ ∧ B ≤ H.size ∧ (∀ i, D.2.2.2.1 i = z_str σ i) ∧ ∀ (a : Nat) (k : zT), z_lay σ a = some k → B ≤ a ∧ z_ok D σ a H k
def z_tys (D : zD) : List (ClassId × FieldType) := [(D.2.2.1 0, .int), (D.2.2.1 1, .byte), (D.2.2.1 2, .boolean), (D.2.2.1 3, .long), (D.2.2.1 4, .object "RowChildren$Family")]
def z_nest : List (String × Nat × MethodName × String) := [(RX11, 9, yX6_init, RX11), (RX7, 11, yX8_init, RX11), (RX7, 20, yX5_init, RX11), (RX7, 27, yX1_init, RX11), (RX11, 32, yX1_init, RX11), (RX11, 46, yX2_init, RX11), (RX11, 53, yX10_init, RX11), (RX3, 24, yX1_init, RX11), (RX11, 67, yX0_init, RX11), (RX0, 11, yX10_init, RX11), (RX11, 74, yX4_init, RX11), (RX4, 11, yX10_init, RX11), (RX11, 81, yX9_init, RX11), (RX9, 27, yX10_init, RX11), (RX2, 93, yX7_isVariable, RX11), (RX2, 82, yX7_isOperator, RX11), (RX5, 57, yX11_unpacked, RX11)]
def z_lens : List Nat := [160, 9]
def z_tx0 : String := "colours child   row     worth   costs   odds    pays    seed    if      then    else    colour  seat    depth   long    many    time    which   left    right   "
def z_tx1 : String := ";=+-*/<()"
def z_by (t : String) : List Int32 := t.toList.map (fun c => Int32.ofNat c.toNat)
def z_byt : List (List Int32) := [z_by z_tx0, z_by z_tx1]
/-- String constants 0 and 1 at sA 0, sA 1, their bytes at sA 2, sA 3; a static that is null (sA 5 is 0) or the reference sA 4 -/
def z_E (sA : Nat → Nat) (B : Nat) (U : State) : Prop := vk_S 2 z_lens z_byt sA (fun i => sA (i + 2)) (fun q => B ≤ q) U U.heap ∧ vk_R "RowChildren$Tokens" 74 z_tx0 (sA 0) U ∧ vk_R "RowChildren$Tokens" 63 z_tx1 (sA 1) U ∧
  va_Z "java/lang/String" "COMPACT_STRINGS" "Z" (.int 1) (fun q => B ≤ q) U U.heap ∧ va_Z "jdk/internal/util/Preconditions" "SIOOBE_FORMATTER" "Ljava/util/function/BiFunction;" (if sA 5 = 0 then .null else .ref (sA 4)) (fun q => B ≤ q) U U.heap
def z_Kw (D : zD) (B : Nat) (U : State) : Prop := va_K (D.1, D.2.1) vwCl (z_tys D) U ∧ (∀ q ∈ z_nest, va_Nw (.methodLinkNest q.1 q.2.1 q.2.2.1 q.2.2.2) U) ∧ va_AO "RowChildren$Family" U ∧ z_E D.2.2.2.1 B U ∧ va_X D.2.2.2.2.1 D.2.2.2.2.2.1 D.2.2.2.2.2.2 U U.heap ∧ D.2.2.2.2.1 < B
theorem z_E.moved {sA : Nat → Nat} {B : Nat} {s U : State} (h : z_E sA B s) (hW : s.WarmedH U.vm) (hh : ∀ q : Nat, q < B → U.heap[q]? = s.heap[q]?) : z_E sA B U := by
  obtain ⟨h1, h2, h3, h4, h5⟩ := h
  have hk : ∀ a : Nat, a < s.heap.size → ¬ (B ≤ a) → U.heap[a]? = s.heap[a]? := fun a _ hn => hh a (Nat.not_le.mp hn)
  exact ⟨(h1.moved hW.alike).kept hk, h2.warm hW, h3.warm hW, (h4.moved hW.alike).kept hk, (h5.moved hW.alike).kept hk⟩
theorem z_Kw.moved {D : zD} {B : Nat} {s U : State} (h : z_Kw D B s) (hW : s.WarmedH U.vm) (hh : ∀ q : Nat, q < B → U.heap[q]? = s.heap[q]?) : z_Kw D B U :=
  ⟨h.1.moved hW.alike, fun q hq => va_Nw.warmM hW (h.2.1 q hq), h.2.2.1.moved hW.alike, h.2.2.2.1.moved hW hh, (h.2.2.2.2.1.moved hW.alike).kept (hh _ h.2.2.2.2.2), h.2.2.2.2.2⟩
/-- the words that stay -/
def z_tb : List Cond := lw_tbl.filter goodWord
theorem z_in {w : Cond} (h : w ∈ lw_tbl) (hg : goodWord w = true) : w ∈ z_tb := List.mem_filter.mpr ⟨h, hg⟩
theorem z_good {y y' : MethodName} {b b' : ByteArray} {n n' : Nat} {r r' : Option FieldType} (h : Cond.code y' b' n' r' ∈ z_tb) : GoodIn (Cond.code y b n r :: z_tb) (Cond.code y' b' n' r' :: z_tb) := by
  intro w hw
  have hg : ∀ w ∈ z_tb, (w.onTables && w.keeps) = true ∨ ∃ ty, w = .arrayClass ty := fun w h => good_of_word (List.mem_filter.mp h).2
  rcases List.mem_cons.mp hw with rfl | hw
  · exact ⟨List.mem_cons_of_mem _ h, hg _ h⟩
  · exact ⟨List.mem_cons_of_mem _ hw, hg _ hw⟩
/-! locals -/
def z_lv (a : Array Slot) (n : Nat) (ls : zL) : Prop := a.size = n ∧ lv_wf a ∧ ls.length = n ∧ ∀ (i : Nat) (v : Value), ls[i]? = some (some v) → a[i]? = some (.val v)
def z_asc (ls : zL) : List (Nat × Value) := (List.range ls.length).filterMap (fun i => match ls[i]? with
  | some (some v) => some (i, v)
  | _ => none)
theorem z_asc_mem {ls : zL} {q : Nat × Value} (h : q ∈ z_asc ls) : ls[q.1]? = some (some q.2) := by
  obtain ⟨i, hi, he⟩ := List.mem_filterMap.mp h
  revert he
  split
  · rename_i v hv
    intro he
    cases he
    exact hv
  · intro he
    cases he
theorem z_mem_asc {ls : zL} {i : Nat} {v : Value} (h : ls[i]? = some (some v)) : (i, v) ∈ z_asc ls := by
  refine List.mem_filterMap.mpr ⟨i, List.mem_range.mpr (List.getElem?_eq_some_iff.mp h).1, ?_⟩
  rw [h]
theorem z_lv.has {a : Array Slot} {n : Nat} {ls : zL} (h : z_lv a n ls) : lv_has a n (z_asc ls) := ⟨h.1, h.2.1, fun q hq => h.2.2.2 _ _ (z_asc_mem hq)⟩
def z_nol (ls : zL) (i : Nat) : Bool := match i with
  | 0 => true
  | j + 1 => match ls[j]? with
    | some (some v) => v.category == 1
    | _ => true
theorem z_nol_spec {ls : zL} {i j : Nat} {v : Value} (h : z_nol ls i = true) (hv : ls[j]? = some (some v)) (hj : j + 1 = i) : ¬ v.category = 2 := by
  subst hj
  unfold z_nol at h
  simp only [hv] at h
  intro h2
  rw [h2] at h
  cases h
theorem z_lv.store {a : Array Slot} {n i : Nat} {ls : zL} {v : Value} (h : z_lv a n ls) (hn : z_nol ls i = true) {a' : Array Slot} (ha : lv_has a' n ((i, v) :: (z_asc ls).filter (fun q => !(q.1 == i) && !(q.1 + 1 == i && q.2.category == 2)))) : z_lv a' n (ls.set i (some v)) := by
  refine ⟨ha.1, ha.2.1, by rw [List.length_set]; exact h.2.2.1, fun j w hw => ?_⟩
  by_cases hj : i = j
  · subst hj
    have hl : i < ls.length := by
      have := (List.getElem?_eq_some_iff.mp hw).1
      rwa [List.length_set] at this
    rw [List.getElem?_set_self hl] at hw
    cases hw
    exact ha.2.2 (i, v) List.mem_cons_self
  · rw [List.getElem?_set_ne hj] at hw
    refine ha.2.2 (j, w) (List.mem_cons_of_mem _ (List.mem_filter.mpr ⟨z_mem_asc hw, ?_⟩))
    have h1 : ¬ j = i := fun e => hj e.symm
    have h2 : ¬ (j + 1 = i ∧ w.category = 2) := fun e => z_nol_spec hn hw e.1 e.2
    by_cases h3 : j + 1 = i
    · have h4 : ¬ w.category = 2 := fun e => h2 ⟨h3, e⟩
      simp [h1, h4]
    · simp [h1, h3]
theorem z_lv.store2 {a : Array Slot} {n i : Nat} {ls : zL} {v : Value} (h : z_lv a n ls) (hn : z_nol ls i = true) {a' : Array Slot} (ha : lv_has a' n ((i, v) :: (z_asc ls).filter (fun q => !(q.1 == i) && (!(q.1 == i + 1) && !(q.1 + 1 == i && q.2.category == 2))))) : z_lv a' n ((ls.set i (some v)).set (i + 1) none) := by
  refine ⟨ha.1, ha.2.1, by rw [List.length_set, List.length_set]; exact h.2.2.1, fun j w hw => ?_⟩
  by_cases hj1 : i + 1 = j
  · subst hj1
    have hl : i + 1 < (ls.set i (some v)).length := by
      have := (List.getElem?_eq_some_iff.mp hw).1
      rwa [List.length_set] at this
    rw [List.getElem?_set_self hl] at hw
    cases hw
  · rw [List.getElem?_set_ne hj1] at hw
    by_cases hj : i = j
    · subst hj
      have hl : i < ls.length := by
        have := (List.getElem?_eq_some_iff.mp hw).1
        rwa [List.length_set] at this
      rw [List.getElem?_set_self hl] at hw
      cases hw
      exact ha.2.2 (i, v) List.mem_cons_self
    · rw [List.getElem?_set_ne hj] at hw
      refine ha.2.2 (j, w) (List.mem_cons_of_mem _ (List.mem_filter.mpr ⟨z_mem_asc hw, ?_⟩))
      have h1 : ¬ j = i := fun e => hj e.symm
      have h5 : ¬ j = i + 1 := fun e => hj1 e.symm
      have h2 : ¬ (j + 1 = i ∧ w.category = 2) := fun e => z_nol_spec hn hw e.1 e.2
      by_cases h3 : j + 1 = i
      · have h4 : ¬ w.category = 2 := fun e => h2 ⟨h3, e⟩
        simp [h1, h4, h5]
      · simp [h1, h3, h5]
/-- the locals with which a method begins -/
def z_ent (vs : List Value) (n : Nat) : zL := (vs.flatMap fun v => if v.category = 2 then [some v, none] else [some v]) ++ List.replicate (n - (lg_sl vs).length) none
theorem z_ent_sl (vs : List Value) : ∀ (i : Nat) (v : Value), (vs.flatMap fun v => if v.category = 2 then [some v, none] else [some v])[i]? = some (some v) → (lg_sl vs)[i]? = some (.val v) := by
  induction vs with
  | nil => intro i v h; simp at h
  | cons w vs ih =>
    intro i v h
    have e : lg_sl (w :: vs) = (if w.category = 2 then [.val w, .second] else [.val w]) ++ lg_sl vs := by simp [lg_sl]
    rw [e]
    rw [List.flatMap_cons] at h
    rcases lv_cat w with hc | hc
    · have hc2 : ¬ w.category = 2 := by omega
      rw [if_neg hc2] at h ⊢
      cases i with
      | zero => simp at h ⊢; exact h
      | succ i =>
        simp only [List.cons_append, List.nil_append, List.getElem?_cons_succ] at h ⊢
        exact ih i v h
    · rw [if_pos hc] at h ⊢
      match i, h with
      | 0, h => simp at h ⊢; exact h
      | 1, h => simp at h
      | i + 2, h =>
        simp only [List.cons_append, List.nil_append, List.getElem?_cons_succ] at h ⊢
        exact ih i v h
theorem z_ent_len (vs : List Value) : (vs.flatMap fun v => if v.category = 2 then [some v, none] else [some v]).length = (lg_sl vs).length := by
  induction vs with
  | nil => rfl
  | cons w vs ih =>
    have e : lg_sl (w :: vs) = (if w.category = 2 then [.val w, .second] else [.val w]) ++ lg_sl vs := by simp [lg_sl]
    rw [e, List.flatMap_cons, List.length_append, List.length_append, ih]
    congr 1
    split <;> rfl
theorem z_entry (vs : List Value) {n : Nat} (h : (lg_sl vs).length ≤ n) : z_lv ((lg_sl vs ++ List.replicate (n - (lg_sl vs).length) Slot.unset).toArray) n (z_ent vs n) := by
  obtain ⟨h1, h2, -⟩ := lv_entry vs h
  refine ⟨h1, h2, by unfold z_ent; rw [List.length_append, List.length_replicate, z_ent_len]; omega, fun i v hi => ?_⟩
  unfold z_ent at hi
  by_cases hl : i < (lg_sl vs).length
  · rw [List.getElem?_append_left (by rw [z_ent_len]; exact hl)] at hi
    have := z_ent_sl vs i v hi
    rw [List.getElem?_toArray, List.getElem?_append_left hl]
    exact this
  · rw [List.getElem?_append_right (by rw [z_ent_len]; omega)] at hi
    have := List.mem_of_getElem? hi
    have := (List.mem_replicate.mp this).2
    cases this
/-! writing and making -/
def z_off (a : Nat) (σ σ' : zS) : Prop := (∀ b j : Nat, b ≠ a → σ'.1 b j = σ.1 b j ∧ σ'.2.1 b j = σ.2.1 b j ∧ σ'.2.2.1 b j = σ.2.2.1 b j) ∧ σ'.2.2.2 = σ.2.2.2
theorem z_ok.kept {D : zD} {σ σ' : zS} {a : Nat} {H H1 : Heap} {k : zT} (h : z_ok D σ a H k) (hs : ∀ j : Nat, σ'.1 a j = σ.1 a j ∧ σ'.2.1 a j = σ.2.1 a j ∧ σ'.2.2.1 a j = σ.2.2.1 a j) (hq : H1[a]? = H[a]?) : z_ok D σ' a H1 k := by
  cases k with
  | inl q =>
    refine ⟨?_, h.2⟩
    rw [hq, h.1]
    congr 2
    funext j
    unfold z_el
    rw [(hs j).1, (hs j).2.1, (hs j).2.2]
  | inr ci =>
    obtain ⟨r, h1, h2⟩ := h
    refine ⟨r, h1, (h2.kept hq).to (fun k _ => ?_)⟩
    unfold z_fv
    rw [(hs k).1, (hs k).2.2]
theorem z_wr {D : zD} {B a : Nat} {σ σ' : zS} {H H1 : Heap} (h : z_Wd D B σ H) (ho : z_off a σ σ') (hz : H1.size = H.size) (hq : ∀ q : Nat, q ≠ a → H1[q]? = H[q]?) (hk : ∀ k, z_lay σ a = some k → z_ok D σ' a H1 k) : z_Wd D B σ' H1 := by
  obtain ⟨h1, h2, h3, h4⟩ := h
  have e : σ'.2.2.2 = σ.2.2.2 := ho.2
  have el : ∀ b, z_lay σ' b = z_lay σ b := fun b => by unfold z_lay; rw [e]
  have es : z_sz σ' = z_sz σ := by unfold z_sz; rw [e]
  have et : ∀ i, z_str σ' i = z_str σ i := fun i => by unfold z_str; rw [e]
  refine ⟨by rw [hz, es]; exact h1, by rw [hz]; exact h2, fun i => by rw [et]; exact h3 i, fun b k hb => ?_⟩
  rw [el] at hb
  refine ⟨(h4 b k hb).1, ?_⟩
  by_cases hba : b = a
  · subst hba
    exact hk k hb
  · exact (h4 b k hb).2.kept (fun j => ho.1 b j hba) (hq b hba)
theorem z_offI (σ : zS) (a k : Nat) (v : Int32) : z_off a σ (z_stI σ a k v) := ⟨fun b j hb => ⟨by simp [z_stI, z_up, hb], rfl, rfl⟩, rfl⟩
theorem z_offL (σ : zS) (a k : Nat) (v : Int64) : z_off a σ (z_stL σ a k v) := ⟨fun b j hb => ⟨rfl, by simp [z_stL, z_up, hb], rfl⟩, rfl⟩
theorem z_offR (σ : zS) (a k : Nat) (v : Option Nat) : z_off a σ (z_stR σ a k v) := ⟨fun b j hb => ⟨rfl, rfl, by simp [z_stR, z_up, hb]⟩, rfl⟩
theorem z_mk {D : zD} {B : Nat} {σ : zS} {H H1 : Heap} (k : zT) (h : z_Wd D B σ H) (hz : H1.size = H.size + 1) (hq : ∀ q : Nat, q < H.size → H1[q]? = H[q]?) (hk : z_ok D (z_new σ k) (z_sz σ) H1 k) : z_Wd D B (z_new σ k) H1 := by
  obtain ⟨h1, h2, h3, h4⟩ := h
  refine ⟨by rw [hz, h1]; rfl, by omega, h3, fun a k' ha => ?_⟩
  have ha' : (if a = z_sz σ then some k else z_lay σ a) = some k' := ha
  by_cases e : a = z_sz σ
  · rw [if_pos e] at ha'
    cases ha'
    subst e
    exact ⟨by omega, hk⟩
  · rw [if_neg e] at ha'
    obtain ⟨g1, g2⟩ := h4 a k' ha'
    have hl : a < H.size := by
      cases k' with
      | inl q => exact (Array.getElem?_eq_some_iff.mp g2.1).1
      | inr ci => obtain ⟨r, -, cell, hc, -⟩ := g2; exact (Array.getElem?_eq_some_iff.mp hc).1
    exact ⟨g1, g2.kept (fun j => ⟨by simp [z_new, z_row0, e], by simp [z_new, z_row0, e], by simp [z_new, z_row0, e]⟩) (hq a hl)⟩
/-! the judgement -/
def z_Q (D : zD) (B : Nat) (post : Option Value → zS → Prop) : Array Value → State → Outcome → State → Prop := fun _ st o t => ∃ (v : Option Value) (σ : zS), o = .returned v ∧ post v σ ∧ z_Wd D B σ t.heap ∧ ∀ q : Nat, q < B → t.heap[q]? = st.heap[q]?
def z_Fx (D : zD) (B : Nat) (X : zX) (p : Program) (s : State) (m : MethodId) (args : Array Value) (meth : Method) (c : Code) : Prop :=
  p.tables.exec = Jvm.exec ∧ c.code = X.2.1 ∧ c.maxLocals = X.2.2.1 ∧ s.vm.findClass X.1 = some m.cls ∧ (∀ w ∈ z_tb, w.before args s = true) ∧ meth.locks = false ∧ meth.sig.returnType = X.2.2.2.1 ∧ (X.2.2.2.2.1 = true → meth.name = "<init>") ∧ z_Kw D B s
def z_Wh (D : zD) (B : Nat) (X : zX) (ls : zL) (σ : zS) (s : State) (H : Heap) (locs : List Loc) (lsA : Array Slot) : Prop :=
  z_Wd D B σ H ∧ (∀ q : Nat, q < B → H[q]? = s.heap[q]?) ∧ (∀ q ∈ locs, B ≤ q.base) ∧ z_lv lsA X.2.2.1 ls
def z_Wp (l : Launch) (D : zD) (B : Nat) (X : zX) (sz0 : Nat) (post : Option Value → zS → Prop) (pc : Nat) (ls : zL) (st : List Value) (σ : zS) : Prop :=
  z_sz σ ≤ sz0 + X.2.2.2.2.2.2.1 → sz0 ≤ z_sz σ → ∀ (p : Program) (e : Env) (s : State) (m : MethodId) (args : Array Value) (below : List Frame) (meth : Method) (c : Code) (H : Heap) (locs : List Loc) (lsA : Array Slot), z_Fx D B X p s m args meth c → z_Wh D B X ls σ s H locs lsA →
    W p l e X.2.2.2.2.2.1 s m args below meth c H locs (X.2.2.2.2.2.2.2.2.1 + (z_sz σ - sz0)) (X.2.2.2.2.2.2.2.2.2 + (z_sz σ - sz0) * X.2.2.2.2.2.2.2.1) (MQ below (z_Q D B post) args s (X.2.2.2.2.2.2.2.2.1 + X.2.2.2.2.2.2.1) (X.2.2.2.2.2.2.2.2.2 + X.2.2.2.2.2.2.1 * X.2.2.2.2.2.2.2.1) (fun q => B ≤ q)) (F0 m pc lsA st)
def zSnd (l : Launch) (D : zD) (B : Nat) (X : zX) (sz0 : Nat) (post : Option Value → zS → Prop) {α : Type} (pc : Nat) (k : zK α) (J : α → Prop) : Prop := ∀ (ls : zL) (st : List Value) (σ : zS) (a : α), k ls st σ = some a → J a → z_Wp l D B X sz0 post pc ls st σ
/-- what a method's contract is: whenever its pure function answers, the machine answers so -/
def z_MF (l : Launch) (D : zD) (B : Nat) (y : MethodName) (X : zX) (F : zF) : Prop := ∀ (as : List Value) (σ : zS) (r : zR), F as σ = some r →
  Met l y (.code y X.2.1 X.2.2.1 X.2.2.2.1 :: z_tb) X.2.2.2.2.2.1 (fun v U => v = as.toArray ∧ z_Wd D B σ U.heap ∧ z_Kw D B U) (z_Q D B (fun v σ' => v = r.1 ∧ σ' = r.2)) X.2.2.2.2.2.2.1 (X.2.2.2.2.2.2.1 * X.2.2.2.2.2.2.2.1) (fun q => B ≤ q)
def z_Jr (post : Option Value → zS → Prop) : zR → Prop := fun q => post q.1 q.2
theorem z_mf {l : Launch} {D : zD} {B : Nat} {y : MethodName} {X : zX} {F : zF} (hy : plainName y.cls = true) (hc : X.1 = y.cls) (hi : X.2.2.2.2.1 = true → y.name = "<init>") (h00 : X.2.2.2.2.2.2.2.2 = (0, 0))
    (hF : ∀ as σ r, F as σ = some r → (lg_sl as).length ≤ X.2.2.1 ∧ ∃ k : zK zR, k (z_ent as X.2.2.1) [] σ = some r ∧ ∀ post, zSnd l D B X (z_sz σ) post 0 k (z_Jr post)) : z_MF l D B y X F := by
  intro as σ r hr
  obtain ⟨hlen, k, hk, hs⟩ := hF as σ r hr
  refine Met.ofW (cc := X.2.1) (maxL := X.2.2.1) (ret := X.2.2.2.1) hy rfl ?_
  intro p e s m args below meth c s₁ Bd hml hv
  obtain ⟨rfl, hW, hK⟩ := hv
  have hts := atoms_spec (ws := Cond.code y X.2.1 X.2.2.1 X.2.2.2.1 :: z_tb) Bd.pre
  have hown : s.vm.findClass y.cls = some m.cls := findClass_of_methodNamed Bd.named
  have hnm := (name_of_methodNamed Bd.named Bd.method).1
  rw [lg_entry_eq]
  have h0 := hs (fun v σ' => v = r.1 ∧ σ' = r.2) (z_ent as X.2.2.1) [] σ r hk ⟨rfl, rfl⟩ (Nat.le_add_right _ _) (Nat.le_refl _) p e s m as.toArray below meth c s.heap [] _ ⟨Bd.exec, Bd.bytes, hml, (by rw [hc]; exact hown), fun w hw => hts w (List.mem_cons_of_mem _ hw), Bd.notSynchronized, Bd.returns, (fun h => by rw [hnm]; exact hi h), hK⟩ ⟨hW, fun _ _ => rfl, (fun _ h => absurd h List.not_mem_nil), z_entry as hlen⟩
  have e1 : X.2.2.2.2.2.2.2.2.1 = 0 := by rw [h00]
  have e2 : X.2.2.2.2.2.2.2.2.2 = 0 := by rw [h00]
  rw [e1, e2, Nat.sub_self, Nat.zero_mul, Nat.zero_add, Nat.zero_add, Nat.zero_add] at h0
  exact h0
