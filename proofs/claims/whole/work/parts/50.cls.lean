/-! the class's objects, by their places behind its own address; the text in force at tx (3 or 18), the draft at 21 - tx -/
def clsL : List zT := [.inr 11, .inr 6, .inl (1, 2000), .inr 7, .inr 8, .inl (0, 401), .inl (3, 401), .inl (0, 401), .inr 5, .inl (0, 16), .inl (0, 36), .inl (0, 16), .inl (0, 16), .inr 1, .inl (0, 4), .inl (0, 32), .inl (0, 4), .inl (3, 4), .inr 7, .inr 8, .inl (0, 401), .inl (3, 401), .inl (0, 401), .inr 5, .inl (0, 16), .inl (0, 36), .inl (0, 16), .inl (0, 16), .inr 1, .inl (0, 4), .inl (0, 32), .inl (0, 4), .inl (3, 4), .inr 1, .inl (0, 4), .inl (0, 32), .inr 1, .inl (0, 4), .inl (0, 32), .inl (0, 8), .inr 2, .inl (0, 9), .inr 10, .inl (0, 64), .inl (0, 36), .inr 3, .inl (4, 40), .inl (4, 3), .inl (2, 3), .inr 1, .inl (0, 4), .inl (0, 32), .inr 1, .inl (0, 4), .inl (0, 32), .inr 1, .inl (0, 4), .inl (0, 32), .inr 1, .inl (0, 4), .inl (0, 32), .inr 1, .inl (0, 4), .inl (0, 32), .inr 1, .inl (0, 4), .inl (0, 32), .inr 1, .inl (0, 4), .inl (0, 32), .inr 1, .inl (0, 4), .inl (0, 32), .inr 1, .inl (0, 4), .inl (0, 32), .inr 1, .inl (0, 4), .inl (0, 32), .inr 1, .inl (0, 4), .inl (0, 32), .inr 1, .inl (0, 4), .inl (0, 32), .inr 1, .inl (0, 4), .inl (0, 32), .inr 1, .inl (0, 4), .inl (0, 32), .inr 1, .inl (0, 4), .inl (0, 32), .inr 1, .inl (0, 4), .inl (0, 32), .inr 1, .inl (0, 4), .inl (0, 32), .inr 1, .inl (0, 4), .inl (0, 32), .inr 1, .inl (0, 4), .inl (0, 32), .inr 1, .inl (0, 4), .inl (0, 32), .inr 1, .inl (0, 4), .inl (0, 32), .inr 1, .inl (0, 4), .inl (0, 32), .inr 1, .inl (0, 4), .inl (0, 32), .inr 1, .inl (0, 4), .inl (0, 32), .inr 1, .inl (0, 4), .inl (0, 32), .inr 1, .inl (0, 4), .inl (0, 32), .inr 1, .inl (0, 4), .inl (0, 32), .inr 1, .inl (0, 4), .inl (0, 32), .inr 1, .inl (0, 4), .inl (0, 32), .inr 1, .inl (0, 4), .inl (0, 32), .inr 1, .inl (0, 4), .inl (0, 32), .inr 1, .inl (0, 4), .inl (0, 32), .inr 1, .inl (0, 4), .inl (0, 32), .inr 1, .inl (0, 4), .inl (0, 32), .inr 1, .inl (0, 4), .inl (0, 32), .inr 1, .inl (0, 4), .inl (0, 32), .inr 1, .inl (0, 4), .inl (0, 32), .inr 1, .inl (0, 4), .inl (0, 32), .inr 1, .inl (0, 4), .inl (0, 32), .inr 1, .inl (0, 4), .inl (0, 32), .inr 1, .inl (0, 4), .inl (0, 32), .inr 1, .inl (0, 4), .inl (0, 32), .inr 1, .inl (0, 4), .inl (0, 32), .inr 0, .inr 10, .inl (0, 64), .inl (0, 36), .inl (2, 9), .inl (0, 36), .inl (0, 36), .inl (0, 36), .inr 4, .inr 10, .inl (0, 64), .inl (0, 36), .inl (0, 32), .inr 9, .inl (0, 20), .inl (0, 20), .inl (0, 20), .inl (2, 20), .inr 10, .inl (0, 64), .inl (0, 36), .inl (0, 144)]
def clsT : List (Nat × Nat × Nat) := [(0, 0, 1), (1, 0, 2), (3, 0, 4), (4, 0, 5), (4, 1, 6), (4, 2, 7), (3, 1, 8), (8, 3, 9), (8, 4, 10), (8, 5, 11), (8, 6, 12), (3, 2, 13), (13, 3, 14), (13, 4, 15), (3, 3, 16), (3, 4, 17), (18, 0, 19), (19, 0, 20), (19, 1, 21), (19, 2, 22), (18, 1, 23), (23, 3, 24), (23, 4, 25), (23, 5, 26), (23, 6, 27), (18, 2, 28), (28, 3, 29), (28, 4, 30), (18, 3, 31), (18, 4, 32), (0, 4, 33), (33, 3, 34), (33, 4, 35), (0, 5, 36), (36, 3, 37), (36, 4, 38), (0, 6, 39), (0, 7, 40), (40, 0, 41), (0, 8, 42), (42, 1, 43), (42, 2, 44), (0, 9, 45), (45, 2, 46), (45, 3, 47), (45, 4, 48), (0, 10, 178), (178, 0, 179), (179, 1, 180), (179, 2, 181), (178, 1, 182), (178, 2, 183), (178, 3, 184), (178, 4, 185), (0, 11, 186), (186, 0, 187), (187, 1, 188), (187, 2, 189), (186, 1, 190), (0, 12, 191), (191, 3, 192), (191, 4, 193), (191, 5, 194), (191, 6, 195), (191, 7, 196), (196, 1, 197), (196, 2, 198), (191, 8, 199)]
def isCls (Z : zZ) (B tx : Nat) : Prop := (tx = 3 ∨ tx = 18) ∧ (∀ k, k < 200 → Z.2.1 (B + k) = clsL[k]?) ∧ (∀ q ∈ clsT, Z.1 (B + q.1) q.2.1 = some (B + q.2.2)) ∧ Z.1 B 1 = some (B + tx) ∧ Z.1 B 2 = some (B + (21 - tx)) ∧ (∀ i, i < 40 → Z.1 (B + 46) i = some (B + (49 + 3 * i))) ∧ (∀ i, i < 3 → Z.1 (B + 47) i = some (B + (169 + 3 * i))) ∧ ∀ i, i < 43 → Z.1 (B + (49 + 3 * i)) 3 = some (B + (50 + 3 * i)) ∧ Z.1 (B + (49 + 3 * i)) 4 = some (B + (51 + 3 * i))
theorem cl_0 {Z : zZ} {B tx : Nat} (h : isCls Z B tx) : Z.2.1 (B + 0) = some (.inr 11) := h.2.1 0 (by decide)
theorem cl_1 {Z : zZ} {B tx : Nat} (h : isCls Z B tx) : Z.2.1 (B + 1) = some (.inr 6) := h.2.1 1 (by decide)
theorem cl_2 {Z : zZ} {B tx : Nat} (h : isCls Z B tx) : Z.2.1 (B + 2) = some (.inl (1, 2000)) := h.2.1 2 (by decide)
theorem cl_3 {Z : zZ} {B tx : Nat} (h : isCls Z B tx) : Z.2.1 (B + 3) = some (.inr 7) := h.2.1 3 (by decide)
theorem cl_4 {Z : zZ} {B tx : Nat} (h : isCls Z B tx) : Z.2.1 (B + 4) = some (.inr 8) := h.2.1 4 (by decide)
theorem cl_5 {Z : zZ} {B tx : Nat} (h : isCls Z B tx) : Z.2.1 (B + 5) = some (.inl (0, 401)) := h.2.1 5 (by decide)
theorem cl_6 {Z : zZ} {B tx : Nat} (h : isCls Z B tx) : Z.2.1 (B + 6) = some (.inl (3, 401)) := h.2.1 6 (by decide)
theorem cl_7 {Z : zZ} {B tx : Nat} (h : isCls Z B tx) : Z.2.1 (B + 7) = some (.inl (0, 401)) := h.2.1 7 (by decide)
theorem cl_8 {Z : zZ} {B tx : Nat} (h : isCls Z B tx) : Z.2.1 (B + 8) = some (.inr 5) := h.2.1 8 (by decide)
theorem cl_9 {Z : zZ} {B tx : Nat} (h : isCls Z B tx) : Z.2.1 (B + 9) = some (.inl (0, 16)) := h.2.1 9 (by decide)
theorem cl_10 {Z : zZ} {B tx : Nat} (h : isCls Z B tx) : Z.2.1 (B + 10) = some (.inl (0, 36)) := h.2.1 10 (by decide)
theorem cl_11 {Z : zZ} {B tx : Nat} (h : isCls Z B tx) : Z.2.1 (B + 11) = some (.inl (0, 16)) := h.2.1 11 (by decide)
theorem cl_12 {Z : zZ} {B tx : Nat} (h : isCls Z B tx) : Z.2.1 (B + 12) = some (.inl (0, 16)) := h.2.1 12 (by decide)
theorem cl_13 {Z : zZ} {B tx : Nat} (h : isCls Z B tx) : Z.2.1 (B + 13) = some (.inr 1) := h.2.1 13 (by decide)
theorem cl_14 {Z : zZ} {B tx : Nat} (h : isCls Z B tx) : Z.2.1 (B + 14) = some (.inl (0, 4)) := h.2.1 14 (by decide)
theorem cl_15 {Z : zZ} {B tx : Nat} (h : isCls Z B tx) : Z.2.1 (B + 15) = some (.inl (0, 32)) := h.2.1 15 (by decide)
theorem cl_16 {Z : zZ} {B tx : Nat} (h : isCls Z B tx) : Z.2.1 (B + 16) = some (.inl (0, 4)) := h.2.1 16 (by decide)
theorem cl_17 {Z : zZ} {B tx : Nat} (h : isCls Z B tx) : Z.2.1 (B + 17) = some (.inl (3, 4)) := h.2.1 17 (by decide)
theorem cl_18 {Z : zZ} {B tx : Nat} (h : isCls Z B tx) : Z.2.1 (B + 18) = some (.inr 7) := h.2.1 18 (by decide)
theorem cl_19 {Z : zZ} {B tx : Nat} (h : isCls Z B tx) : Z.2.1 (B + 19) = some (.inr 8) := h.2.1 19 (by decide)
theorem cl_20 {Z : zZ} {B tx : Nat} (h : isCls Z B tx) : Z.2.1 (B + 20) = some (.inl (0, 401)) := h.2.1 20 (by decide)
theorem cl_21 {Z : zZ} {B tx : Nat} (h : isCls Z B tx) : Z.2.1 (B + 21) = some (.inl (3, 401)) := h.2.1 21 (by decide)
theorem cl_22 {Z : zZ} {B tx : Nat} (h : isCls Z B tx) : Z.2.1 (B + 22) = some (.inl (0, 401)) := h.2.1 22 (by decide)
theorem cl_23 {Z : zZ} {B tx : Nat} (h : isCls Z B tx) : Z.2.1 (B + 23) = some (.inr 5) := h.2.1 23 (by decide)
theorem cl_24 {Z : zZ} {B tx : Nat} (h : isCls Z B tx) : Z.2.1 (B + 24) = some (.inl (0, 16)) := h.2.1 24 (by decide)
theorem cl_25 {Z : zZ} {B tx : Nat} (h : isCls Z B tx) : Z.2.1 (B + 25) = some (.inl (0, 36)) := h.2.1 25 (by decide)
theorem cl_26 {Z : zZ} {B tx : Nat} (h : isCls Z B tx) : Z.2.1 (B + 26) = some (.inl (0, 16)) := h.2.1 26 (by decide)
theorem cl_27 {Z : zZ} {B tx : Nat} (h : isCls Z B tx) : Z.2.1 (B + 27) = some (.inl (0, 16)) := h.2.1 27 (by decide)
theorem cl_28 {Z : zZ} {B tx : Nat} (h : isCls Z B tx) : Z.2.1 (B + 28) = some (.inr 1) := h.2.1 28 (by decide)
theorem cl_29 {Z : zZ} {B tx : Nat} (h : isCls Z B tx) : Z.2.1 (B + 29) = some (.inl (0, 4)) := h.2.1 29 (by decide)
theorem cl_30 {Z : zZ} {B tx : Nat} (h : isCls Z B tx) : Z.2.1 (B + 30) = some (.inl (0, 32)) := h.2.1 30 (by decide)
theorem cl_31 {Z : zZ} {B tx : Nat} (h : isCls Z B tx) : Z.2.1 (B + 31) = some (.inl (0, 4)) := h.2.1 31 (by decide)
theorem cl_32 {Z : zZ} {B tx : Nat} (h : isCls Z B tx) : Z.2.1 (B + 32) = some (.inl (3, 4)) := h.2.1 32 (by decide)
theorem cl_33 {Z : zZ} {B tx : Nat} (h : isCls Z B tx) : Z.2.1 (B + 33) = some (.inr 1) := h.2.1 33 (by decide)
theorem cl_34 {Z : zZ} {B tx : Nat} (h : isCls Z B tx) : Z.2.1 (B + 34) = some (.inl (0, 4)) := h.2.1 34 (by decide)
theorem cl_35 {Z : zZ} {B tx : Nat} (h : isCls Z B tx) : Z.2.1 (B + 35) = some (.inl (0, 32)) := h.2.1 35 (by decide)
theorem cl_36 {Z : zZ} {B tx : Nat} (h : isCls Z B tx) : Z.2.1 (B + 36) = some (.inr 1) := h.2.1 36 (by decide)
theorem cl_37 {Z : zZ} {B tx : Nat} (h : isCls Z B tx) : Z.2.1 (B + 37) = some (.inl (0, 4)) := h.2.1 37 (by decide)
theorem cl_38 {Z : zZ} {B tx : Nat} (h : isCls Z B tx) : Z.2.1 (B + 38) = some (.inl (0, 32)) := h.2.1 38 (by decide)
theorem cl_39 {Z : zZ} {B tx : Nat} (h : isCls Z B tx) : Z.2.1 (B + 39) = some (.inl (0, 8)) := h.2.1 39 (by decide)
theorem cl_40 {Z : zZ} {B tx : Nat} (h : isCls Z B tx) : Z.2.1 (B + 40) = some (.inr 2) := h.2.1 40 (by decide)
theorem cl_41 {Z : zZ} {B tx : Nat} (h : isCls Z B tx) : Z.2.1 (B + 41) = some (.inl (0, 9)) := h.2.1 41 (by decide)
theorem cl_42 {Z : zZ} {B tx : Nat} (h : isCls Z B tx) : Z.2.1 (B + 42) = some (.inr 10) := h.2.1 42 (by decide)
theorem cl_43 {Z : zZ} {B tx : Nat} (h : isCls Z B tx) : Z.2.1 (B + 43) = some (.inl (0, 64)) := h.2.1 43 (by decide)
theorem cl_44 {Z : zZ} {B tx : Nat} (h : isCls Z B tx) : Z.2.1 (B + 44) = some (.inl (0, 36)) := h.2.1 44 (by decide)
theorem cl_45 {Z : zZ} {B tx : Nat} (h : isCls Z B tx) : Z.2.1 (B + 45) = some (.inr 3) := h.2.1 45 (by decide)
theorem cl_46 {Z : zZ} {B tx : Nat} (h : isCls Z B tx) : Z.2.1 (B + 46) = some (.inl (4, 40)) := h.2.1 46 (by decide)
theorem cl_47 {Z : zZ} {B tx : Nat} (h : isCls Z B tx) : Z.2.1 (B + 47) = some (.inl (4, 3)) := h.2.1 47 (by decide)
theorem cl_48 {Z : zZ} {B tx : Nat} (h : isCls Z B tx) : Z.2.1 (B + 48) = some (.inl (2, 3)) := h.2.1 48 (by decide)
theorem cl_178 {Z : zZ} {B tx : Nat} (h : isCls Z B tx) : Z.2.1 (B + 178) = some (.inr 0) := h.2.1 178 (by decide)
theorem cl_179 {Z : zZ} {B tx : Nat} (h : isCls Z B tx) : Z.2.1 (B + 179) = some (.inr 10) := h.2.1 179 (by decide)
theorem cl_180 {Z : zZ} {B tx : Nat} (h : isCls Z B tx) : Z.2.1 (B + 180) = some (.inl (0, 64)) := h.2.1 180 (by decide)
theorem cl_181 {Z : zZ} {B tx : Nat} (h : isCls Z B tx) : Z.2.1 (B + 181) = some (.inl (0, 36)) := h.2.1 181 (by decide)
theorem cl_182 {Z : zZ} {B tx : Nat} (h : isCls Z B tx) : Z.2.1 (B + 182) = some (.inl (2, 9)) := h.2.1 182 (by decide)
theorem cl_183 {Z : zZ} {B tx : Nat} (h : isCls Z B tx) : Z.2.1 (B + 183) = some (.inl (0, 36)) := h.2.1 183 (by decide)
theorem cl_184 {Z : zZ} {B tx : Nat} (h : isCls Z B tx) : Z.2.1 (B + 184) = some (.inl (0, 36)) := h.2.1 184 (by decide)
theorem cl_185 {Z : zZ} {B tx : Nat} (h : isCls Z B tx) : Z.2.1 (B + 185) = some (.inl (0, 36)) := h.2.1 185 (by decide)
theorem cl_186 {Z : zZ} {B tx : Nat} (h : isCls Z B tx) : Z.2.1 (B + 186) = some (.inr 4) := h.2.1 186 (by decide)
theorem cl_187 {Z : zZ} {B tx : Nat} (h : isCls Z B tx) : Z.2.1 (B + 187) = some (.inr 10) := h.2.1 187 (by decide)
theorem cl_188 {Z : zZ} {B tx : Nat} (h : isCls Z B tx) : Z.2.1 (B + 188) = some (.inl (0, 64)) := h.2.1 188 (by decide)
theorem cl_189 {Z : zZ} {B tx : Nat} (h : isCls Z B tx) : Z.2.1 (B + 189) = some (.inl (0, 36)) := h.2.1 189 (by decide)
theorem cl_190 {Z : zZ} {B tx : Nat} (h : isCls Z B tx) : Z.2.1 (B + 190) = some (.inl (0, 32)) := h.2.1 190 (by decide)
theorem cl_191 {Z : zZ} {B tx : Nat} (h : isCls Z B tx) : Z.2.1 (B + 191) = some (.inr 9) := h.2.1 191 (by decide)
theorem cl_192 {Z : zZ} {B tx : Nat} (h : isCls Z B tx) : Z.2.1 (B + 192) = some (.inl (0, 20)) := h.2.1 192 (by decide)
theorem cl_193 {Z : zZ} {B tx : Nat} (h : isCls Z B tx) : Z.2.1 (B + 193) = some (.inl (0, 20)) := h.2.1 193 (by decide)
theorem cl_194 {Z : zZ} {B tx : Nat} (h : isCls Z B tx) : Z.2.1 (B + 194) = some (.inl (0, 20)) := h.2.1 194 (by decide)
theorem cl_195 {Z : zZ} {B tx : Nat} (h : isCls Z B tx) : Z.2.1 (B + 195) = some (.inl (2, 20)) := h.2.1 195 (by decide)
theorem cl_196 {Z : zZ} {B tx : Nat} (h : isCls Z B tx) : Z.2.1 (B + 196) = some (.inr 10) := h.2.1 196 (by decide)
theorem cl_197 {Z : zZ} {B tx : Nat} (h : isCls Z B tx) : Z.2.1 (B + 197) = some (.inl (0, 64)) := h.2.1 197 (by decide)
theorem cl_198 {Z : zZ} {B tx : Nat} (h : isCls Z B tx) : Z.2.1 (B + 198) = some (.inl (0, 36)) := h.2.1 198 (by decide)
theorem cl_199 {Z : zZ} {B tx : Nat} (h : isCls Z B tx) : Z.2.1 (B + 199) = some (.inl (0, 144)) := h.2.1 199 (by decide)
theorem cl_B {Z : zZ} {B tx : Nat} (h : isCls Z B tx) : Z.2.1 B = some (.inr 11) := cl_0 h
theorem cr_0_0 {Z : zZ} {B tx : Nat} (h : isCls Z B tx) : Z.1 B 0 = some (B + 1) := h.2.2.1 (0, 0, 1) (List.mem_of_getElem? (i := 0) rfl)
theorem cr_1_0 {Z : zZ} {B tx : Nat} (h : isCls Z B tx) : Z.1 (B + 1) 0 = some (B + 2) := h.2.2.1 (1, 0, 2) (List.mem_of_getElem? (i := 1) rfl)
theorem cr_3_0 {Z : zZ} {B tx : Nat} (h : isCls Z B tx) : Z.1 (B + 3) 0 = some (B + 4) := h.2.2.1 (3, 0, 4) (List.mem_of_getElem? (i := 2) rfl)
theorem cr_4_0 {Z : zZ} {B tx : Nat} (h : isCls Z B tx) : Z.1 (B + 4) 0 = some (B + 5) := h.2.2.1 (4, 0, 5) (List.mem_of_getElem? (i := 3) rfl)
theorem cr_4_1 {Z : zZ} {B tx : Nat} (h : isCls Z B tx) : Z.1 (B + 4) 1 = some (B + 6) := h.2.2.1 (4, 1, 6) (List.mem_of_getElem? (i := 4) rfl)
theorem cr_4_2 {Z : zZ} {B tx : Nat} (h : isCls Z B tx) : Z.1 (B + 4) 2 = some (B + 7) := h.2.2.1 (4, 2, 7) (List.mem_of_getElem? (i := 5) rfl)
theorem cr_3_1 {Z : zZ} {B tx : Nat} (h : isCls Z B tx) : Z.1 (B + 3) 1 = some (B + 8) := h.2.2.1 (3, 1, 8) (List.mem_of_getElem? (i := 6) rfl)
theorem cr_8_3 {Z : zZ} {B tx : Nat} (h : isCls Z B tx) : Z.1 (B + 8) 3 = some (B + 9) := h.2.2.1 (8, 3, 9) (List.mem_of_getElem? (i := 7) rfl)
theorem cr_8_4 {Z : zZ} {B tx : Nat} (h : isCls Z B tx) : Z.1 (B + 8) 4 = some (B + 10) := h.2.2.1 (8, 4, 10) (List.mem_of_getElem? (i := 8) rfl)
theorem cr_8_5 {Z : zZ} {B tx : Nat} (h : isCls Z B tx) : Z.1 (B + 8) 5 = some (B + 11) := h.2.2.1 (8, 5, 11) (List.mem_of_getElem? (i := 9) rfl)
theorem cr_8_6 {Z : zZ} {B tx : Nat} (h : isCls Z B tx) : Z.1 (B + 8) 6 = some (B + 12) := h.2.2.1 (8, 6, 12) (List.mem_of_getElem? (i := 10) rfl)
theorem cr_3_2 {Z : zZ} {B tx : Nat} (h : isCls Z B tx) : Z.1 (B + 3) 2 = some (B + 13) := h.2.2.1 (3, 2, 13) (List.mem_of_getElem? (i := 11) rfl)
theorem cr_13_3 {Z : zZ} {B tx : Nat} (h : isCls Z B tx) : Z.1 (B + 13) 3 = some (B + 14) := h.2.2.1 (13, 3, 14) (List.mem_of_getElem? (i := 12) rfl)
theorem cr_13_4 {Z : zZ} {B tx : Nat} (h : isCls Z B tx) : Z.1 (B + 13) 4 = some (B + 15) := h.2.2.1 (13, 4, 15) (List.mem_of_getElem? (i := 13) rfl)
theorem cr_3_3 {Z : zZ} {B tx : Nat} (h : isCls Z B tx) : Z.1 (B + 3) 3 = some (B + 16) := h.2.2.1 (3, 3, 16) (List.mem_of_getElem? (i := 14) rfl)
theorem cr_3_4 {Z : zZ} {B tx : Nat} (h : isCls Z B tx) : Z.1 (B + 3) 4 = some (B + 17) := h.2.2.1 (3, 4, 17) (List.mem_of_getElem? (i := 15) rfl)
theorem cr_18_0 {Z : zZ} {B tx : Nat} (h : isCls Z B tx) : Z.1 (B + 18) 0 = some (B + 19) := h.2.2.1 (18, 0, 19) (List.mem_of_getElem? (i := 16) rfl)
theorem cr_19_0 {Z : zZ} {B tx : Nat} (h : isCls Z B tx) : Z.1 (B + 19) 0 = some (B + 20) := h.2.2.1 (19, 0, 20) (List.mem_of_getElem? (i := 17) rfl)
theorem cr_19_1 {Z : zZ} {B tx : Nat} (h : isCls Z B tx) : Z.1 (B + 19) 1 = some (B + 21) := h.2.2.1 (19, 1, 21) (List.mem_of_getElem? (i := 18) rfl)
theorem cr_19_2 {Z : zZ} {B tx : Nat} (h : isCls Z B tx) : Z.1 (B + 19) 2 = some (B + 22) := h.2.2.1 (19, 2, 22) (List.mem_of_getElem? (i := 19) rfl)
theorem cr_18_1 {Z : zZ} {B tx : Nat} (h : isCls Z B tx) : Z.1 (B + 18) 1 = some (B + 23) := h.2.2.1 (18, 1, 23) (List.mem_of_getElem? (i := 20) rfl)
theorem cr_23_3 {Z : zZ} {B tx : Nat} (h : isCls Z B tx) : Z.1 (B + 23) 3 = some (B + 24) := h.2.2.1 (23, 3, 24) (List.mem_of_getElem? (i := 21) rfl)
theorem cr_23_4 {Z : zZ} {B tx : Nat} (h : isCls Z B tx) : Z.1 (B + 23) 4 = some (B + 25) := h.2.2.1 (23, 4, 25) (List.mem_of_getElem? (i := 22) rfl)
theorem cr_23_5 {Z : zZ} {B tx : Nat} (h : isCls Z B tx) : Z.1 (B + 23) 5 = some (B + 26) := h.2.2.1 (23, 5, 26) (List.mem_of_getElem? (i := 23) rfl)
theorem cr_23_6 {Z : zZ} {B tx : Nat} (h : isCls Z B tx) : Z.1 (B + 23) 6 = some (B + 27) := h.2.2.1 (23, 6, 27) (List.mem_of_getElem? (i := 24) rfl)
theorem cr_18_2 {Z : zZ} {B tx : Nat} (h : isCls Z B tx) : Z.1 (B + 18) 2 = some (B + 28) := h.2.2.1 (18, 2, 28) (List.mem_of_getElem? (i := 25) rfl)
theorem cr_28_3 {Z : zZ} {B tx : Nat} (h : isCls Z B tx) : Z.1 (B + 28) 3 = some (B + 29) := h.2.2.1 (28, 3, 29) (List.mem_of_getElem? (i := 26) rfl)
theorem cr_28_4 {Z : zZ} {B tx : Nat} (h : isCls Z B tx) : Z.1 (B + 28) 4 = some (B + 30) := h.2.2.1 (28, 4, 30) (List.mem_of_getElem? (i := 27) rfl)
theorem cr_18_3 {Z : zZ} {B tx : Nat} (h : isCls Z B tx) : Z.1 (B + 18) 3 = some (B + 31) := h.2.2.1 (18, 3, 31) (List.mem_of_getElem? (i := 28) rfl)
theorem cr_18_4 {Z : zZ} {B tx : Nat} (h : isCls Z B tx) : Z.1 (B + 18) 4 = some (B + 32) := h.2.2.1 (18, 4, 32) (List.mem_of_getElem? (i := 29) rfl)
theorem cr_0_4 {Z : zZ} {B tx : Nat} (h : isCls Z B tx) : Z.1 B 4 = some (B + 33) := h.2.2.1 (0, 4, 33) (List.mem_of_getElem? (i := 30) rfl)
theorem cr_33_3 {Z : zZ} {B tx : Nat} (h : isCls Z B tx) : Z.1 (B + 33) 3 = some (B + 34) := h.2.2.1 (33, 3, 34) (List.mem_of_getElem? (i := 31) rfl)
theorem cr_33_4 {Z : zZ} {B tx : Nat} (h : isCls Z B tx) : Z.1 (B + 33) 4 = some (B + 35) := h.2.2.1 (33, 4, 35) (List.mem_of_getElem? (i := 32) rfl)
theorem cr_0_5 {Z : zZ} {B tx : Nat} (h : isCls Z B tx) : Z.1 B 5 = some (B + 36) := h.2.2.1 (0, 5, 36) (List.mem_of_getElem? (i := 33) rfl)
theorem cr_36_3 {Z : zZ} {B tx : Nat} (h : isCls Z B tx) : Z.1 (B + 36) 3 = some (B + 37) := h.2.2.1 (36, 3, 37) (List.mem_of_getElem? (i := 34) rfl)
theorem cr_36_4 {Z : zZ} {B tx : Nat} (h : isCls Z B tx) : Z.1 (B + 36) 4 = some (B + 38) := h.2.2.1 (36, 4, 38) (List.mem_of_getElem? (i := 35) rfl)
theorem cr_0_6 {Z : zZ} {B tx : Nat} (h : isCls Z B tx) : Z.1 B 6 = some (B + 39) := h.2.2.1 (0, 6, 39) (List.mem_of_getElem? (i := 36) rfl)
theorem cr_0_7 {Z : zZ} {B tx : Nat} (h : isCls Z B tx) : Z.1 B 7 = some (B + 40) := h.2.2.1 (0, 7, 40) (List.mem_of_getElem? (i := 37) rfl)
theorem cr_40_0 {Z : zZ} {B tx : Nat} (h : isCls Z B tx) : Z.1 (B + 40) 0 = some (B + 41) := h.2.2.1 (40, 0, 41) (List.mem_of_getElem? (i := 38) rfl)
theorem cr_0_8 {Z : zZ} {B tx : Nat} (h : isCls Z B tx) : Z.1 B 8 = some (B + 42) := h.2.2.1 (0, 8, 42) (List.mem_of_getElem? (i := 39) rfl)
theorem cr_42_1 {Z : zZ} {B tx : Nat} (h : isCls Z B tx) : Z.1 (B + 42) 1 = some (B + 43) := h.2.2.1 (42, 1, 43) (List.mem_of_getElem? (i := 40) rfl)
theorem cr_42_2 {Z : zZ} {B tx : Nat} (h : isCls Z B tx) : Z.1 (B + 42) 2 = some (B + 44) := h.2.2.1 (42, 2, 44) (List.mem_of_getElem? (i := 41) rfl)
theorem cr_0_9 {Z : zZ} {B tx : Nat} (h : isCls Z B tx) : Z.1 B 9 = some (B + 45) := h.2.2.1 (0, 9, 45) (List.mem_of_getElem? (i := 42) rfl)
theorem cr_45_2 {Z : zZ} {B tx : Nat} (h : isCls Z B tx) : Z.1 (B + 45) 2 = some (B + 46) := h.2.2.1 (45, 2, 46) (List.mem_of_getElem? (i := 43) rfl)
theorem cr_45_3 {Z : zZ} {B tx : Nat} (h : isCls Z B tx) : Z.1 (B + 45) 3 = some (B + 47) := h.2.2.1 (45, 3, 47) (List.mem_of_getElem? (i := 44) rfl)
theorem cr_45_4 {Z : zZ} {B tx : Nat} (h : isCls Z B tx) : Z.1 (B + 45) 4 = some (B + 48) := h.2.2.1 (45, 4, 48) (List.mem_of_getElem? (i := 45) rfl)
theorem cr_0_10 {Z : zZ} {B tx : Nat} (h : isCls Z B tx) : Z.1 B 10 = some (B + 178) := h.2.2.1 (0, 10, 178) (List.mem_of_getElem? (i := 46) rfl)
theorem cr_178_0 {Z : zZ} {B tx : Nat} (h : isCls Z B tx) : Z.1 (B + 178) 0 = some (B + 179) := h.2.2.1 (178, 0, 179) (List.mem_of_getElem? (i := 47) rfl)
theorem cr_179_1 {Z : zZ} {B tx : Nat} (h : isCls Z B tx) : Z.1 (B + 179) 1 = some (B + 180) := h.2.2.1 (179, 1, 180) (List.mem_of_getElem? (i := 48) rfl)
theorem cr_179_2 {Z : zZ} {B tx : Nat} (h : isCls Z B tx) : Z.1 (B + 179) 2 = some (B + 181) := h.2.2.1 (179, 2, 181) (List.mem_of_getElem? (i := 49) rfl)
theorem cr_178_1 {Z : zZ} {B tx : Nat} (h : isCls Z B tx) : Z.1 (B + 178) 1 = some (B + 182) := h.2.2.1 (178, 1, 182) (List.mem_of_getElem? (i := 50) rfl)
theorem cr_178_2 {Z : zZ} {B tx : Nat} (h : isCls Z B tx) : Z.1 (B + 178) 2 = some (B + 183) := h.2.2.1 (178, 2, 183) (List.mem_of_getElem? (i := 51) rfl)
theorem cr_178_3 {Z : zZ} {B tx : Nat} (h : isCls Z B tx) : Z.1 (B + 178) 3 = some (B + 184) := h.2.2.1 (178, 3, 184) (List.mem_of_getElem? (i := 52) rfl)
theorem cr_178_4 {Z : zZ} {B tx : Nat} (h : isCls Z B tx) : Z.1 (B + 178) 4 = some (B + 185) := h.2.2.1 (178, 4, 185) (List.mem_of_getElem? (i := 53) rfl)
theorem cr_0_11 {Z : zZ} {B tx : Nat} (h : isCls Z B tx) : Z.1 B 11 = some (B + 186) := h.2.2.1 (0, 11, 186) (List.mem_of_getElem? (i := 54) rfl)
theorem cr_186_0 {Z : zZ} {B tx : Nat} (h : isCls Z B tx) : Z.1 (B + 186) 0 = some (B + 187) := h.2.2.1 (186, 0, 187) (List.mem_of_getElem? (i := 55) rfl)
theorem cr_187_1 {Z : zZ} {B tx : Nat} (h : isCls Z B tx) : Z.1 (B + 187) 1 = some (B + 188) := h.2.2.1 (187, 1, 188) (List.mem_of_getElem? (i := 56) rfl)
theorem cr_187_2 {Z : zZ} {B tx : Nat} (h : isCls Z B tx) : Z.1 (B + 187) 2 = some (B + 189) := h.2.2.1 (187, 2, 189) (List.mem_of_getElem? (i := 57) rfl)
theorem cr_186_1 {Z : zZ} {B tx : Nat} (h : isCls Z B tx) : Z.1 (B + 186) 1 = some (B + 190) := h.2.2.1 (186, 1, 190) (List.mem_of_getElem? (i := 58) rfl)
theorem cr_0_12 {Z : zZ} {B tx : Nat} (h : isCls Z B tx) : Z.1 B 12 = some (B + 191) := h.2.2.1 (0, 12, 191) (List.mem_of_getElem? (i := 59) rfl)
theorem cr_191_3 {Z : zZ} {B tx : Nat} (h : isCls Z B tx) : Z.1 (B + 191) 3 = some (B + 192) := h.2.2.1 (191, 3, 192) (List.mem_of_getElem? (i := 60) rfl)
theorem cr_191_4 {Z : zZ} {B tx : Nat} (h : isCls Z B tx) : Z.1 (B + 191) 4 = some (B + 193) := h.2.2.1 (191, 4, 193) (List.mem_of_getElem? (i := 61) rfl)
theorem cr_191_5 {Z : zZ} {B tx : Nat} (h : isCls Z B tx) : Z.1 (B + 191) 5 = some (B + 194) := h.2.2.1 (191, 5, 194) (List.mem_of_getElem? (i := 62) rfl)
theorem cr_191_6 {Z : zZ} {B tx : Nat} (h : isCls Z B tx) : Z.1 (B + 191) 6 = some (B + 195) := h.2.2.1 (191, 6, 195) (List.mem_of_getElem? (i := 63) rfl)
theorem cr_191_7 {Z : zZ} {B tx : Nat} (h : isCls Z B tx) : Z.1 (B + 191) 7 = some (B + 196) := h.2.2.1 (191, 7, 196) (List.mem_of_getElem? (i := 64) rfl)
theorem cr_196_1 {Z : zZ} {B tx : Nat} (h : isCls Z B tx) : Z.1 (B + 196) 1 = some (B + 197) := h.2.2.1 (196, 1, 197) (List.mem_of_getElem? (i := 65) rfl)
theorem cr_196_2 {Z : zZ} {B tx : Nat} (h : isCls Z B tx) : Z.1 (B + 196) 2 = some (B + 198) := h.2.2.1 (196, 2, 198) (List.mem_of_getElem? (i := 66) rfl)
theorem cr_191_8 {Z : zZ} {B tx : Nat} (h : isCls Z B tx) : Z.1 (B + 191) 8 = some (B + 199) := h.2.2.1 (191, 8, 199) (List.mem_of_getElem? (i := 67) rfl)
theorem tl_0 {Z : zZ} {B tx : Nat} (h : isCls Z B tx) : Z.2.1 (B + tx) = some (.inr 7) := by
  rcases h.1 with rfl | rfl
  · exact cl_3 h
  · exact cl_18 h
theorem tl_1 {Z : zZ} {B tx : Nat} (h : isCls Z B tx) : Z.2.1 (B + (tx + 1)) = some (.inr 8) := by
  rcases h.1 with rfl | rfl
  · exact cl_4 h
  · exact cl_19 h
theorem tl_2 {Z : zZ} {B tx : Nat} (h : isCls Z B tx) : Z.2.1 (B + (tx + 2)) = some (.inl (0, 401)) := by
  rcases h.1 with rfl | rfl
  · exact cl_5 h
  · exact cl_20 h
theorem tl_3 {Z : zZ} {B tx : Nat} (h : isCls Z B tx) : Z.2.1 (B + (tx + 3)) = some (.inl (3, 401)) := by
  rcases h.1 with rfl | rfl
  · exact cl_6 h
  · exact cl_21 h
theorem tl_4 {Z : zZ} {B tx : Nat} (h : isCls Z B tx) : Z.2.1 (B + (tx + 4)) = some (.inl (0, 401)) := by
  rcases h.1 with rfl | rfl
  · exact cl_7 h
  · exact cl_22 h
theorem tl_5 {Z : zZ} {B tx : Nat} (h : isCls Z B tx) : Z.2.1 (B + (tx + 5)) = some (.inr 5) := by
  rcases h.1 with rfl | rfl
  · exact cl_8 h
  · exact cl_23 h
theorem tl_6 {Z : zZ} {B tx : Nat} (h : isCls Z B tx) : Z.2.1 (B + (tx + 6)) = some (.inl (0, 16)) := by
  rcases h.1 with rfl | rfl
  · exact cl_9 h
  · exact cl_24 h
theorem tl_7 {Z : zZ} {B tx : Nat} (h : isCls Z B tx) : Z.2.1 (B + (tx + 7)) = some (.inl (0, 36)) := by
  rcases h.1 with rfl | rfl
  · exact cl_10 h
  · exact cl_25 h
theorem tl_8 {Z : zZ} {B tx : Nat} (h : isCls Z B tx) : Z.2.1 (B + (tx + 8)) = some (.inl (0, 16)) := by
  rcases h.1 with rfl | rfl
  · exact cl_11 h
  · exact cl_26 h
theorem tl_9 {Z : zZ} {B tx : Nat} (h : isCls Z B tx) : Z.2.1 (B + (tx + 9)) = some (.inl (0, 16)) := by
  rcases h.1 with rfl | rfl
  · exact cl_12 h
  · exact cl_27 h
theorem tl_10 {Z : zZ} {B tx : Nat} (h : isCls Z B tx) : Z.2.1 (B + (tx + 10)) = some (.inr 1) := by
  rcases h.1 with rfl | rfl
  · exact cl_13 h
  · exact cl_28 h
theorem tl_11 {Z : zZ} {B tx : Nat} (h : isCls Z B tx) : Z.2.1 (B + (tx + 11)) = some (.inl (0, 4)) := by
  rcases h.1 with rfl | rfl
  · exact cl_14 h
  · exact cl_29 h
theorem tl_12 {Z : zZ} {B tx : Nat} (h : isCls Z B tx) : Z.2.1 (B + (tx + 12)) = some (.inl (0, 32)) := by
  rcases h.1 with rfl | rfl
  · exact cl_15 h
  · exact cl_30 h
theorem tl_13 {Z : zZ} {B tx : Nat} (h : isCls Z B tx) : Z.2.1 (B + (tx + 13)) = some (.inl (0, 4)) := by
  rcases h.1 with rfl | rfl
  · exact cl_16 h
  · exact cl_31 h
theorem tl_14 {Z : zZ} {B tx : Nat} (h : isCls Z B tx) : Z.2.1 (B + (tx + 14)) = some (.inl (3, 4)) := by
  rcases h.1 with rfl | rfl
  · exact cl_17 h
  · exact cl_32 h
theorem tr_0_0 {Z : zZ} {B tx : Nat} (h : isCls Z B tx) : Z.1 (B + tx) 0 = some (B + (tx + 1)) := by
  rcases h.1 with rfl | rfl
  · exact cr_3_0 h
  · exact cr_18_0 h
theorem tr_1_0 {Z : zZ} {B tx : Nat} (h : isCls Z B tx) : Z.1 (B + (tx + 1)) 0 = some (B + (tx + 2)) := by
  rcases h.1 with rfl | rfl
  · exact cr_4_0 h
  · exact cr_19_0 h
theorem tr_1_1 {Z : zZ} {B tx : Nat} (h : isCls Z B tx) : Z.1 (B + (tx + 1)) 1 = some (B + (tx + 3)) := by
  rcases h.1 with rfl | rfl
  · exact cr_4_1 h
  · exact cr_19_1 h
theorem tr_1_2 {Z : zZ} {B tx : Nat} (h : isCls Z B tx) : Z.1 (B + (tx + 1)) 2 = some (B + (tx + 4)) := by
  rcases h.1 with rfl | rfl
  · exact cr_4_2 h
  · exact cr_19_2 h
theorem tr_0_1 {Z : zZ} {B tx : Nat} (h : isCls Z B tx) : Z.1 (B + tx) 1 = some (B + (tx + 5)) := by
  rcases h.1 with rfl | rfl
  · exact cr_3_1 h
  · exact cr_18_1 h
theorem tr_5_3 {Z : zZ} {B tx : Nat} (h : isCls Z B tx) : Z.1 (B + (tx + 5)) 3 = some (B + (tx + 6)) := by
  rcases h.1 with rfl | rfl
  · exact cr_8_3 h
  · exact cr_23_3 h
theorem tr_5_4 {Z : zZ} {B tx : Nat} (h : isCls Z B tx) : Z.1 (B + (tx + 5)) 4 = some (B + (tx + 7)) := by
  rcases h.1 with rfl | rfl
  · exact cr_8_4 h
  · exact cr_23_4 h
theorem tr_5_5 {Z : zZ} {B tx : Nat} (h : isCls Z B tx) : Z.1 (B + (tx + 5)) 5 = some (B + (tx + 8)) := by
  rcases h.1 with rfl | rfl
  · exact cr_8_5 h
  · exact cr_23_5 h
theorem tr_5_6 {Z : zZ} {B tx : Nat} (h : isCls Z B tx) : Z.1 (B + (tx + 5)) 6 = some (B + (tx + 9)) := by
  rcases h.1 with rfl | rfl
  · exact cr_8_6 h
  · exact cr_23_6 h
theorem tr_0_2 {Z : zZ} {B tx : Nat} (h : isCls Z B tx) : Z.1 (B + tx) 2 = some (B + (tx + 10)) := by
  rcases h.1 with rfl | rfl
  · exact cr_3_2 h
  · exact cr_18_2 h
theorem tr_10_3 {Z : zZ} {B tx : Nat} (h : isCls Z B tx) : Z.1 (B + (tx + 10)) 3 = some (B + (tx + 11)) := by
  rcases h.1 with rfl | rfl
  · exact cr_13_3 h
  · exact cr_28_3 h
theorem tr_10_4 {Z : zZ} {B tx : Nat} (h : isCls Z B tx) : Z.1 (B + (tx + 10)) 4 = some (B + (tx + 12)) := by
  rcases h.1 with rfl | rfl
  · exact cr_13_4 h
  · exact cr_28_4 h
theorem tr_0_3 {Z : zZ} {B tx : Nat} (h : isCls Z B tx) : Z.1 (B + tx) 3 = some (B + (tx + 13)) := by
  rcases h.1 with rfl | rfl
  · exact cr_3_3 h
  · exact cr_18_3 h
theorem tr_0_4 {Z : zZ} {B tx : Nat} (h : isCls Z B tx) : Z.1 (B + tx) 4 = some (B + (tx + 14)) := by
  rcases h.1 with rfl | rfl
  · exact cr_3_4 h
  · exact cr_18_4 h
theorem cf_33 {Z : zZ} {B tx : Nat} (h : isCls Z B tx) : isFam Z (B + 33) (B + 34) (B + 35) := ⟨cl_33 h, cr_33_3 h, cr_33_4 h, cl_34 h, cl_35 h⟩
theorem cf_36 {Z : zZ} {B tx : Nat} (h : isCls Z B tx) : isFam Z (B + 36) (B + 37) (B + 38) := ⟨cl_36 h, cr_36_3 h, cr_36_4 h, cl_37 h, cl_38 h⟩
theorem cf_tx {Z : zZ} {B tx : Nat} (h : isCls Z B tx) : isFam Z (B + (tx + 10)) (B + (tx + 11)) (B + (tx + 12)) := ⟨tl_10 h, tr_10_3 h, tr_10_4 h, tl_11 h, tl_12 h⟩
theorem cf_pd : ∀ i, i < 43 → clsL[49 + 3 * i]? = some (.inr 1) ∧ clsL[50 + 3 * i]? = some (.inl (0, 4)) ∧ clsL[51 + 3 * i]? = some (.inl (0, 32)) := by decide +kernel
theorem cf_past {Z : zZ} {B tx i : Nat} (h : isCls Z B tx) (hi : i < 43) : isFam Z (B + (49 + 3 * i)) (B + (50 + 3 * i)) (B + (51 + 3 * i)) := ⟨(h.2.1 (49 + 3 * i) (by omega)).trans (cf_pd i hi).1, (h.2.2.2.2.2.2.2 i hi).1, (h.2.2.2.2.2.2.2 i hi).2, (h.2.1 (50 + 3 * i) (by omega)).trans (cf_pd i hi).2.1, (h.2.1 (51 + 3 * i) (by omega)).trans (cf_pd i hi).2.2⟩
theorem ct_tx {Z : zZ} {B tx : Nat} (h : isCls Z B tx) : isTab Z (B + (tx + 5)) (B + (tx + 6)) := ⟨tl_5 h, tr_5_3 h, tl_6 h⟩
theorem cg_42 {Z : zZ} {B tx : Nat} (h : isCls Z B tx) : isTri Z (B + 42) (B + 43) (B + 44) := ⟨cl_42 h, cr_42_1 h, cr_42_2 h, cl_43 h, cl_44 h, by omega, by omega, by omega⟩
theorem cg_179 {Z : zZ} {B tx : Nat} (h : isCls Z B tx) : isTri Z (B + 179) (B + 180) (B + 181) := ⟨cl_179 h, cr_179_1 h, cr_179_2 h, cl_180 h, cl_181 h, by omega, by omega, by omega⟩
theorem cg_187 {Z : zZ} {B tx : Nat} (h : isCls Z B tx) : isTri Z (B + 187) (B + 188) (B + 189) := ⟨cl_187 h, cr_187_1 h, cr_187_2 h, cl_188 h, cl_189 h, by omega, by omega, by omega⟩
theorem cg_196 {Z : zZ} {B tx : Nat} (h : isCls Z B tx) : isTri Z (B + 196) (B + 197) (B + 198) := ⟨cl_196 h, cr_196_1 h, cr_196_2 h, cl_197 h, cl_198 h, by omega, by omega, by omega⟩
