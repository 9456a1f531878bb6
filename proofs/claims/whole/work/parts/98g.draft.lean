/-! read: the draft's objects, dx where the text in force is at tx -/
def swZ (Z : zZ) (B tx dx : Nat) : zZ := (fun a f => if a = B then (if f = 1 then some (B + dx) else if f = 2 then some (B + tx) else Z.1 a f) else Z.1 a f, Z.2)
theorem swp {Z : zZ} {B tx dx : Nat} (h : isCls Z B tx) (hd : dx + tx = 21) : isCls (swZ Z B tx dx) B dx := by
  obtain ⟨h1, h2, h3, h4, h5, h6, h7, h8⟩ := h
  have e : 21 - dx = tx := by omega
  refine ⟨by omega, h2, fun q hq => ?_, ?_, ?_, fun i hi => ?_, fun i hi => ?_, fun i hi => ?_⟩
  · have k := h3 q hq
    show (if B + q.1 = B then (if q.2.1 = 1 then some (B + dx) else if q.2.1 = 2 then some (B + tx) else Z.1 (B + q.1) q.2.1) else Z.1 (B + q.1) q.2.1) = _
    have n1 : q.1 = 0 → q.2.1 ≠ 1 ∧ q.2.1 ≠ 2 := by
      have : ∀ q ∈ clsT, q.1 = 0 → q.2.1 ≠ 1 ∧ q.2.1 ≠ 2 := by decide
      exact this q hq
    by_cases g : B + q.1 = B
    · have n2 := n1 (by omega)
      rw [if_pos g, if_neg n2.1, if_neg n2.2, k]
    · rw [if_neg g, k]
  · show (if B = B then (if 1 = 1 then some (B + dx) else _) else _) = _
    rw [if_pos rfl, if_pos rfl]
  · show (if B = B then (if 2 = 1 then some (B + dx) else if 2 = 2 then some (B + tx) else _) else _) = _
    rw [if_pos rfl, if_neg (by decide), if_pos rfl, e]
  · show (if B + 46 = B then _ else Z.1 (B + 46) i) = _
    rw [if_neg (by omega), h6 i hi]
  · show (if B + 47 = B then _ else Z.1 (B + 47) i) = _
    rw [if_neg (by omega), h7 i hi]
  · have k := h8 i hi
    show (if B + (49 + 3 * i) = B then _ else Z.1 (B + (49 + 3 * i)) 3) = _ ∧ (if B + (49 + 3 * i) = B then _ else Z.1 (B + (49 + 3 * i)) 4) = _
    rw [if_neg (by omega), if_neg (by omega)]
    exact k
theorem swr {Z : zZ} {B tx dx a f : Nat} {v : Option Nat} (ha : a ≠ B) (h : (swZ Z B tx dx).1 a f = v) : Z.1 a f = v := by
  rw [← h]
  exact (if_neg ha).symm
theorem dl_0 {Z : zZ} {B tx dx : Nat} (h : isCls Z B tx) (hd : dx + tx = 21) : Z.2.1 (B + dx) = some (.inr 7) := tl_0 (Z := swZ Z B tx dx) (swp h hd)
theorem dl_1 {Z : zZ} {B tx dx : Nat} (h : isCls Z B tx) (hd : dx + tx = 21) : Z.2.1 (B + (dx + 1)) = some (.inr 8) := tl_1 (Z := swZ Z B tx dx) (swp h hd)
theorem dl_2 {Z : zZ} {B tx dx : Nat} (h : isCls Z B tx) (hd : dx + tx = 21) : Z.2.1 (B + (dx + 2)) = some (.inl (0, 401)) := tl_2 (Z := swZ Z B tx dx) (swp h hd)
theorem dl_3 {Z : zZ} {B tx dx : Nat} (h : isCls Z B tx) (hd : dx + tx = 21) : Z.2.1 (B + (dx + 3)) = some (.inl (3, 401)) := tl_3 (Z := swZ Z B tx dx) (swp h hd)
theorem dl_4 {Z : zZ} {B tx dx : Nat} (h : isCls Z B tx) (hd : dx + tx = 21) : Z.2.1 (B + (dx + 4)) = some (.inl (0, 401)) := tl_4 (Z := swZ Z B tx dx) (swp h hd)
theorem dl_5 {Z : zZ} {B tx dx : Nat} (h : isCls Z B tx) (hd : dx + tx = 21) : Z.2.1 (B + (dx + 5)) = some (.inr 5) := tl_5 (Z := swZ Z B tx dx) (swp h hd)
theorem dl_6 {Z : zZ} {B tx dx : Nat} (h : isCls Z B tx) (hd : dx + tx = 21) : Z.2.1 (B + (dx + 6)) = some (.inl (0, 16)) := tl_6 (Z := swZ Z B tx dx) (swp h hd)
theorem dl_7 {Z : zZ} {B tx dx : Nat} (h : isCls Z B tx) (hd : dx + tx = 21) : Z.2.1 (B + (dx + 7)) = some (.inl (0, 36)) := tl_7 (Z := swZ Z B tx dx) (swp h hd)
theorem dl_8 {Z : zZ} {B tx dx : Nat} (h : isCls Z B tx) (hd : dx + tx = 21) : Z.2.1 (B + (dx + 8)) = some (.inl (0, 16)) := tl_8 (Z := swZ Z B tx dx) (swp h hd)
theorem dl_9 {Z : zZ} {B tx dx : Nat} (h : isCls Z B tx) (hd : dx + tx = 21) : Z.2.1 (B + (dx + 9)) = some (.inl (0, 16)) := tl_9 (Z := swZ Z B tx dx) (swp h hd)
theorem dl_10 {Z : zZ} {B tx dx : Nat} (h : isCls Z B tx) (hd : dx + tx = 21) : Z.2.1 (B + (dx + 10)) = some (.inr 1) := tl_10 (Z := swZ Z B tx dx) (swp h hd)
theorem dl_11 {Z : zZ} {B tx dx : Nat} (h : isCls Z B tx) (hd : dx + tx = 21) : Z.2.1 (B + (dx + 11)) = some (.inl (0, 4)) := tl_11 (Z := swZ Z B tx dx) (swp h hd)
theorem dl_12 {Z : zZ} {B tx dx : Nat} (h : isCls Z B tx) (hd : dx + tx = 21) : Z.2.1 (B + (dx + 12)) = some (.inl (0, 32)) := tl_12 (Z := swZ Z B tx dx) (swp h hd)
theorem dl_13 {Z : zZ} {B tx dx : Nat} (h : isCls Z B tx) (hd : dx + tx = 21) : Z.2.1 (B + (dx + 13)) = some (.inl (0, 4)) := tl_13 (Z := swZ Z B tx dx) (swp h hd)
theorem dl_14 {Z : zZ} {B tx dx : Nat} (h : isCls Z B tx) (hd : dx + tx = 21) : Z.2.1 (B + (dx + 14)) = some (.inl (3, 4)) := tl_14 (Z := swZ Z B tx dx) (swp h hd)
theorem dr_0_0 {Z : zZ} {B tx dx : Nat} (h : isCls Z B tx) (hd : dx + tx = 21) : Z.1 (B + dx) 0 = some (B + (dx + 1)) := swr (by have := h.1; omega) (tr_0_0 (swp h hd))
theorem dr_1_0 {Z : zZ} {B tx dx : Nat} (h : isCls Z B tx) (hd : dx + tx = 21) : Z.1 (B + (dx + 1)) 0 = some (B + (dx + 2)) := swr (by have := h.1; omega) (tr_1_0 (swp h hd))
theorem dr_1_1 {Z : zZ} {B tx dx : Nat} (h : isCls Z B tx) (hd : dx + tx = 21) : Z.1 (B + (dx + 1)) 1 = some (B + (dx + 3)) := swr (by have := h.1; omega) (tr_1_1 (swp h hd))
theorem dr_1_2 {Z : zZ} {B tx dx : Nat} (h : isCls Z B tx) (hd : dx + tx = 21) : Z.1 (B + (dx + 1)) 2 = some (B + (dx + 4)) := swr (by have := h.1; omega) (tr_1_2 (swp h hd))
theorem dr_0_1 {Z : zZ} {B tx dx : Nat} (h : isCls Z B tx) (hd : dx + tx = 21) : Z.1 (B + dx) 1 = some (B + (dx + 5)) := swr (by have := h.1; omega) (tr_0_1 (swp h hd))
theorem dr_5_3 {Z : zZ} {B tx dx : Nat} (h : isCls Z B tx) (hd : dx + tx = 21) : Z.1 (B + (dx + 5)) 3 = some (B + (dx + 6)) := swr (by have := h.1; omega) (tr_5_3 (swp h hd))
theorem dr_5_4 {Z : zZ} {B tx dx : Nat} (h : isCls Z B tx) (hd : dx + tx = 21) : Z.1 (B + (dx + 5)) 4 = some (B + (dx + 7)) := swr (by have := h.1; omega) (tr_5_4 (swp h hd))
theorem dr_5_5 {Z : zZ} {B tx dx : Nat} (h : isCls Z B tx) (hd : dx + tx = 21) : Z.1 (B + (dx + 5)) 5 = some (B + (dx + 8)) := swr (by have := h.1; omega) (tr_5_5 (swp h hd))
theorem dr_5_6 {Z : zZ} {B tx dx : Nat} (h : isCls Z B tx) (hd : dx + tx = 21) : Z.1 (B + (dx + 5)) 6 = some (B + (dx + 9)) := swr (by have := h.1; omega) (tr_5_6 (swp h hd))
theorem dr_0_2 {Z : zZ} {B tx dx : Nat} (h : isCls Z B tx) (hd : dx + tx = 21) : Z.1 (B + dx) 2 = some (B + (dx + 10)) := swr (by have := h.1; omega) (tr_0_2 (swp h hd))
theorem dr_10_3 {Z : zZ} {B tx dx : Nat} (h : isCls Z B tx) (hd : dx + tx = 21) : Z.1 (B + (dx + 10)) 3 = some (B + (dx + 11)) := swr (by have := h.1; omega) (tr_10_3 (swp h hd))
theorem dr_10_4 {Z : zZ} {B tx dx : Nat} (h : isCls Z B tx) (hd : dx + tx = 21) : Z.1 (B + (dx + 10)) 4 = some (B + (dx + 12)) := swr (by have := h.1; omega) (tr_10_4 (swp h hd))
theorem dr_0_3 {Z : zZ} {B tx dx : Nat} (h : isCls Z B tx) (hd : dx + tx = 21) : Z.1 (B + dx) 3 = some (B + (dx + 13)) := swr (by have := h.1; omega) (tr_0_3 (swp h hd))
theorem dr_0_4 {Z : zZ} {B tx dx : Nat} (h : isCls Z B tx) (hd : dx + tx = 21) : Z.1 (B + dx) 4 = some (B + (dx + 14)) := swr (by have := h.1; omega) (tr_0_4 (swp h hd))
