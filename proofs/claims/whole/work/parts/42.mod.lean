/-! the reference: its rows of numbers -/
def modT : List (Nat × Nat × (Nat × Nat)) := [(1, 1, (1, 2000)), (3, 2, (1, 2000)), (5, 3, (0, 403)), (6, 4, (0, 403)), (7, 5, (0, 403)), (8, 6, (3, 403)), (9, 7, (3, 20)), (21, 8, (3, 4)), (22, 9, (0, 2)), (23, 10, (0, 2)), (24, 11, (0, 32)), (25, 12, (0, 2)), (26, 13, (0, 2)), (27, 14, (0, 8)), (28, 15, (0, 64)), (29, 16, (0, 2)), (30, 17, (0, 8)), (31, 18, (0, 8)), (33, 19, (2, 260)), (34, 20, (0, 260)), (35, 21, (0, 260)), (36, 22, (0, 260)), (37, 23, (0, 260)), (39, 24, (0, 840)), (40, 25, (0, 840)), (41, 26, (0, 64)), (43, 27, (0, 9)), (44, 28, (0, 400)), (46, 29, (0, 38)), (47, 30, (0, 38)), (49, 31, (0, 64)), (51, 32, (0, 8)), (53, 33, (0, 1520)), (54, 34, (0, 32)), (55, 35, (0, 9)), (56, 36, (0, 4)), (57, 37, (0, 4)), (58, 38, (0, 16)), (59, 39, (0, 16)), (60, 40, (0, 65536)), (61, 41, (0, 8)), (65, 42, (0, 65536)), (67, 43, (0, 20)), (68, 44, (0, 20)), (69, 45, (0, 20)), (70, 46, (2, 20)), (71, 47, (0, 256)), (72, 48, (2, 3)), (73, 49, (0, 114))]
def isMod (Z : zZ) (M : Nat) : Prop := Z.2.1 M = some (.inr 12) ∧ ∀ q ∈ modT, Z.1 M q.1 = some (M + q.2.1) ∧ Z.2.1 (M + q.2.1) = some (.inl q.2.2)
theorem mr_tape {Z : zZ} {M : Nat} (h : isMod Z M) : Z.1 M 1 = some (M + 1) := (h.2 (1, 1, (1, 2000)) (List.mem_of_getElem? (i := 0) rfl)).1
theorem ml_tape {Z : zZ} {M : Nat} (h : isMod Z M) : Z.2.1 (M + 1) = some (.inl (1, 2000)) := (h.2 (1, 1, (1, 2000)) (List.mem_of_getElem? (i := 0) rfl)).2
theorem mr_text {Z : zZ} {M : Nat} (h : isMod Z M) : Z.1 M 3 = some (M + 2) := (h.2 (3, 2, (1, 2000)) (List.mem_of_getElem? (i := 1) rfl)).1
theorem ml_text {Z : zZ} {M : Nat} (h : isMod Z M) : Z.2.1 (M + 2) = some (.inl (1, 2000)) := (h.2 (3, 2, (1, 2000)) (List.mem_of_getElem? (i := 1) rfl)).2
theorem mr_tKind {Z : zZ} {M : Nat} (h : isMod Z M) : Z.1 M 5 = some (M + 3) := (h.2 (5, 3, (0, 403)) (List.mem_of_getElem? (i := 2) rfl)).1
theorem ml_tKind {Z : zZ} {M : Nat} (h : isMod Z M) : Z.2.1 (M + 3) = some (.inl (0, 403)) := (h.2 (5, 3, (0, 403)) (List.mem_of_getElem? (i := 2) rfl)).2
theorem mr_tPlace {Z : zZ} {M : Nat} (h : isMod Z M) : Z.1 M 6 = some (M + 4) := (h.2 (6, 4, (0, 403)) (List.mem_of_getElem? (i := 3) rfl)).1
theorem ml_tPlace {Z : zZ} {M : Nat} (h : isMod Z M) : Z.2.1 (M + 4) = some (.inl (0, 403)) := (h.2 (6, 4, (0, 403)) (List.mem_of_getElem? (i := 3) rfl)).2
theorem mr_tValue {Z : zZ} {M : Nat} (h : isMod Z M) : Z.1 M 7 = some (M + 5) := (h.2 (7, 5, (0, 403)) (List.mem_of_getElem? (i := 4) rfl)).1
theorem ml_tValue {Z : zZ} {M : Nat} (h : isMod Z M) : Z.2.1 (M + 5) = some (.inl (0, 403)) := (h.2 (7, 5, (0, 403)) (List.mem_of_getElem? (i := 4) rfl)).2
theorem mr_tName {Z : zZ} {M : Nat} (h : isMod Z M) : Z.1 M 8 = some (M + 6) := (h.2 (8, 6, (3, 403)) (List.mem_of_getElem? (i := 5) rfl)).1
theorem ml_tName {Z : zZ} {M : Nat} (h : isMod Z M) : Z.2.1 (M + 6) = some (.inl (3, 403)) := (h.2 (8, 6, (3, 403)) (List.mem_of_getElem? (i := 5) rfl)).2
theorem mr_keys {Z : zZ} {M : Nat} (h : isMod Z M) : Z.1 M 9 = some (M + 7) := (h.2 (9, 7, (3, 20)) (List.mem_of_getElem? (i := 6) rfl)).1
theorem ml_keys {Z : zZ} {M : Nat} (h : isMod Z M) : Z.2.1 (M + 7) = some (.inl (3, 20)) := (h.2 (9, 7, (3, 20)) (List.mem_of_getElem? (i := 6) rfl)).2
theorem mr_nameOf {Z : zZ} {M : Nat} (h : isMod Z M) : Z.1 M 21 = some (M + 8) := (h.2 (21, 8, (3, 4)) (List.mem_of_getElem? (i := 7) rfl)).1
theorem ml_nameOf {Z : zZ} {M : Nat} (h : isMod Z M) : Z.2.1 (M + 8) = some (.inl (3, 4)) := (h.2 (21, 8, (3, 4)) (List.mem_of_getElem? (i := 7) rfl)).2
theorem mr_colours {Z : zZ} {M : Nat} (h : isMod Z M) : Z.1 M 22 = some (M + 9) := (h.2 (22, 9, (0, 2)) (List.mem_of_getElem? (i := 8) rfl)).1
theorem ml_colours {Z : zZ} {M : Nat} (h : isMod Z M) : Z.2.1 (M + 9) = some (.inl (0, 2)) := (h.2 (22, 9, (0, 2)) (List.mem_of_getElem? (i := 8) rfl)).2
theorem mr_childMany {Z : zZ} {M : Nat} (h : isMod Z M) : Z.1 M 23 = some (M + 10) := (h.2 (23, 10, (0, 2)) (List.mem_of_getElem? (i := 9) rfl)).1
theorem ml_childMany {Z : zZ} {M : Nat} (h : isMod Z M) : Z.2.1 (M + 10) = some (.inl (0, 2)) := (h.2 (23, 10, (0, 2)) (List.mem_of_getElem? (i := 9) rfl)).2
theorem mr_childTold {Z : zZ} {M : Nat} (h : isMod Z M) : Z.1 M 24 = some (M + 11) := (h.2 (24, 11, (0, 32)) (List.mem_of_getElem? (i := 10) rfl)).1
theorem ml_childTold {Z : zZ} {M : Nat} (h : isMod Z M) : Z.2.1 (M + 11) = some (.inl (0, 32)) := (h.2 (24, 11, (0, 32)) (List.mem_of_getElem? (i := 10) rfl)).2
theorem mr_greatest {Z : zZ} {M : Nat} (h : isMod Z M) : Z.1 M 25 = some (M + 12) := (h.2 (25, 12, (0, 2)) (List.mem_of_getElem? (i := 11) rfl)).1
theorem ml_greatest {Z : zZ} {M : Nat} (h : isMod Z M) : Z.2.1 (M + 12) = some (.inl (0, 2)) := (h.2 (25, 12, (0, 2)) (List.mem_of_getElem? (i := 11) rfl)).2
theorem mr_rowMany {Z : zZ} {M : Nat} (h : isMod Z M) : Z.1 M 26 = some (M + 13) := (h.2 (26, 13, (0, 2)) (List.mem_of_getElem? (i := 12) rfl)).1
theorem ml_rowMany {Z : zZ} {M : Nat} (h : isMod Z M) : Z.2.1 (M + 13) = some (.inl (0, 2)) := (h.2 (26, 13, (0, 2)) (List.mem_of_getElem? (i := 12) rfl)).2
theorem mr_firstLong {Z : zZ} {M : Nat} (h : isMod Z M) : Z.1 M 27 = some (M + 14) := (h.2 (27, 14, (0, 8)) (List.mem_of_getElem? (i := 13) rfl)).1
theorem ml_firstLong {Z : zZ} {M : Nat} (h : isMod Z M) : Z.2.1 (M + 14) = some (.inl (0, 8)) := (h.2 (27, 14, (0, 8)) (List.mem_of_getElem? (i := 13) rfl)).2
theorem mr_firstColour {Z : zZ} {M : Nat} (h : isMod Z M) : Z.1 M 28 = some (M + 15) := (h.2 (28, 15, (0, 64)) (List.mem_of_getElem? (i := 14) rfl)).1
theorem ml_firstColour {Z : zZ} {M : Nat} (h : isMod Z M) : Z.2.1 (M + 15) = some (.inl (0, 64)) := (h.2 (28, 15, (0, 64)) (List.mem_of_getElem? (i := 14) rfl)).2
theorem mr_seed {Z : zZ} {M : Nat} (h : isMod Z M) : Z.1 M 29 = some (M + 16) := (h.2 (29, 16, (0, 2)) (List.mem_of_getElem? (i := 15) rfl)).1
theorem ml_seed {Z : zZ} {M : Nat} (h : isMod Z M) : Z.2.1 (M + 16) = some (.inl (0, 2)) := (h.2 (29, 16, (0, 2)) (List.mem_of_getElem? (i := 15) rfl)).2
theorem mr_lawFirst {Z : zZ} {M : Nat} (h : isMod Z M) : Z.1 M 30 = some (M + 17) := (h.2 (30, 17, (0, 8)) (List.mem_of_getElem? (i := 16) rfl)).1
theorem ml_lawFirst {Z : zZ} {M : Nat} (h : isMod Z M) : Z.2.1 (M + 17) = some (.inl (0, 8)) := (h.2 (30, 17, (0, 8)) (List.mem_of_getElem? (i := 16) rfl)).2
theorem mr_lawLast {Z : zZ} {M : Nat} (h : isMod Z M) : Z.1 M 31 = some (M + 18) := (h.2 (31, 18, (0, 8)) (List.mem_of_getElem? (i := 17) rfl)).1
theorem ml_lawLast {Z : zZ} {M : Nat} (h : isMod Z M) : Z.2.1 (M + 18) = some (.inl (0, 8)) := (h.2 (31, 18, (0, 8)) (List.mem_of_getElem? (i := 17) rfl)).2
theorem mr_hasTest {Z : zZ} {M : Nat} (h : isMod Z M) : Z.1 M 33 = some (M + 19) := (h.2 (33, 19, (2, 260)) (List.mem_of_getElem? (i := 18) rfl)).1
theorem ml_hasTest {Z : zZ} {M : Nat} (h : isMod Z M) : Z.2.1 (M + 19) = some (.inl (2, 260)) := (h.2 (33, 19, (2, 260)) (List.mem_of_getElem? (i := 18) rfl)).2
theorem mr_testFrom {Z : zZ} {M : Nat} (h : isMod Z M) : Z.1 M 34 = some (M + 20) := (h.2 (34, 20, (0, 260)) (List.mem_of_getElem? (i := 19) rfl)).1
theorem ml_testFrom {Z : zZ} {M : Nat} (h : isMod Z M) : Z.2.1 (M + 20) = some (.inl (0, 260)) := (h.2 (34, 20, (0, 260)) (List.mem_of_getElem? (i := 19) rfl)).2
theorem mr_testMid {Z : zZ} {M : Nat} (h : isMod Z M) : Z.1 M 35 = some (M + 21) := (h.2 (35, 21, (0, 260)) (List.mem_of_getElem? (i := 20) rfl)).1
theorem ml_testMid {Z : zZ} {M : Nat} (h : isMod Z M) : Z.2.1 (M + 21) = some (.inl (0, 260)) := (h.2 (35, 21, (0, 260)) (List.mem_of_getElem? (i := 20) rfl)).2
theorem mr_testTo {Z : zZ} {M : Nat} (h : isMod Z M) : Z.1 M 36 = some (M + 22) := (h.2 (36, 22, (0, 260)) (List.mem_of_getElem? (i := 21) rfl)).1
theorem ml_testTo {Z : zZ} {M : Nat} (h : isMod Z M) : Z.2.1 (M + 22) = some (.inl (0, 260)) := (h.2 (36, 22, (0, 260)) (List.mem_of_getElem? (i := 21) rfl)).2
theorem mr_termTo {Z : zZ} {M : Nat} (h : isMod Z M) : Z.1 M 37 = some (M + 23) := (h.2 (37, 23, (0, 260)) (List.mem_of_getElem? (i := 22) rfl)).1
theorem ml_termTo {Z : zZ} {M : Nat} (h : isMod Z M) : Z.2.1 (M + 23) = some (.inl (0, 260)) := (h.2 (37, 23, (0, 260)) (List.mem_of_getElem? (i := 22) rfl)).2
theorem mr_code {Z : zZ} {M : Nat} (h : isMod Z M) : Z.1 M 39 = some (M + 24) := (h.2 (39, 24, (0, 840)) (List.mem_of_getElem? (i := 23) rfl)).1
theorem ml_code {Z : zZ} {M : Nat} (h : isMod Z M) : Z.2.1 (M + 24) = some (.inl (0, 840)) := (h.2 (39, 24, (0, 840)) (List.mem_of_getElem? (i := 23) rfl)).2
theorem mr_codeInt {Z : zZ} {M : Nat} (h : isMod Z M) : Z.1 M 40 = some (M + 25) := (h.2 (40, 25, (0, 840)) (List.mem_of_getElem? (i := 24) rfl)).1
theorem ml_codeInt {Z : zZ} {M : Nat} (h : isMod Z M) : Z.2.1 (M + 25) = some (.inl (0, 840)) := (h.2 (40, 25, (0, 840)) (List.mem_of_getElem? (i := 24) rfl)).2
theorem mr_waits {Z : zZ} {M : Nat} (h : isMod Z M) : Z.1 M 41 = some (M + 26) := (h.2 (41, 26, (0, 64)) (List.mem_of_getElem? (i := 25) rfl)).1
theorem ml_waits {Z : zZ} {M : Nat} (h : isMod Z M) : Z.2.1 (M + 26) = some (.inl (0, 64)) := (h.2 (41, 26, (0, 64)) (List.mem_of_getElem? (i := 25) rfl)).2
theorem mr_variables {Z : zZ} {M : Nat} (h : isMod Z M) : Z.1 M 43 = some (M + 27) := (h.2 (43, 27, (0, 9)) (List.mem_of_getElem? (i := 26) rfl)).1
theorem ml_variables {Z : zZ} {M : Nat} (h : isMod Z M) : Z.2.1 (M + 27) = some (.inl (0, 9)) := (h.2 (43, 27, (0, 9)) (List.mem_of_getElem? (i := 26) rfl)).2
theorem mr_pile {Z : zZ} {M : Nat} (h : isMod Z M) : Z.1 M 44 = some (M + 28) := (h.2 (44, 28, (0, 400)) (List.mem_of_getElem? (i := 27) rfl)).1
theorem ml_pile {Z : zZ} {M : Nat} (h : isMod Z M) : Z.2.1 (M + 28) = some (.inl (0, 400)) := (h.2 (44, 28, (0, 400)) (List.mem_of_getElem? (i := 27) rfl)).2
theorem mr_now {Z : zZ} {M : Nat} (h : isMod Z M) : Z.1 M 46 = some (M + 29) := (h.2 (46, 29, (0, 38)) (List.mem_of_getElem? (i := 28) rfl)).1
theorem ml_now {Z : zZ} {M : Nat} (h : isMod Z M) : Z.2.1 (M + 29) = some (.inl (0, 38)) := (h.2 (46, 29, (0, 38)) (List.mem_of_getElem? (i := 28) rfl)).2
theorem mr_row {Z : zZ} {M : Nat} (h : isMod Z M) : Z.1 M 47 = some (M + 30) := (h.2 (47, 30, (0, 38)) (List.mem_of_getElem? (i := 29) rfl)).1
theorem ml_row {Z : zZ} {M : Nat} (h : isMod Z M) : Z.2.1 (M + 30) = some (.inl (0, 38)) := (h.2 (47, 30, (0, 38)) (List.mem_of_getElem? (i := 29) rfl)).2
theorem mr_laid {Z : zZ} {M : Nat} (h : isMod Z M) : Z.1 M 49 = some (M + 31) := (h.2 (49, 31, (0, 64)) (List.mem_of_getElem? (i := 30) rfl)).1
theorem ml_laid {Z : zZ} {M : Nat} (h : isMod Z M) : Z.2.1 (M + 31) = some (.inl (0, 64)) := (h.2 (49, 31, (0, 64)) (List.mem_of_getElem? (i := 30) rfl)).2
theorem mr_nextRow {Z : zZ} {M : Nat} (h : isMod Z M) : Z.1 M 51 = some (M + 32) := (h.2 (51, 32, (0, 8)) (List.mem_of_getElem? (i := 31) rfl)).1
theorem ml_nextRow {Z : zZ} {M : Nat} (h : isMod Z M) : Z.2.1 (M + 32) = some (.inl (0, 8)) := (h.2 (51, 32, (0, 8)) (List.mem_of_getElem? (i := 31) rfl)).2
theorem mr_history {Z : zZ} {M : Nat} (h : isMod Z M) : Z.1 M 53 = some (M + 33) := (h.2 (53, 33, (0, 1520)) (List.mem_of_getElem? (i := 32) rfl)).1
theorem ml_history {Z : zZ} {M : Nat} (h : isMod Z M) : Z.2.1 (M + 33) = some (.inl (0, 1520)) := (h.2 (53, 33, (0, 1520)) (List.mem_of_getElem? (i := 32) rfl)).2
theorem mr_costBy {Z : zZ} {M : Nat} (h : isMod Z M) : Z.1 M 54 = some (M + 34) := (h.2 (54, 34, (0, 32)) (List.mem_of_getElem? (i := 33) rfl)).1
theorem ml_costBy {Z : zZ} {M : Nat} (h : isMod Z M) : Z.2.1 (M + 34) = some (.inl (0, 32)) := (h.2 (54, 34, (0, 32)) (List.mem_of_getElem? (i := 33) rfl)).2
theorem mr_canBy {Z : zZ} {M : Nat} (h : isMod Z M) : Z.1 M 55 = some (M + 35) := (h.2 (55, 35, (0, 9)) (List.mem_of_getElem? (i := 34) rfl)).1
theorem ml_canBy {Z : zZ} {M : Nat} (h : isMod Z M) : Z.2.1 (M + 35) = some (.inl (0, 9)) := (h.2 (55, 35, (0, 9)) (List.mem_of_getElem? (i := 34) rfl)).2
theorem mr_endsBy {Z : zZ} {M : Nat} (h : isMod Z M) : Z.1 M 56 = some (M + 36) := (h.2 (56, 36, (0, 4)) (List.mem_of_getElem? (i := 35) rfl)).1
theorem ml_endsBy {Z : zZ} {M : Nat} (h : isMod Z M) : Z.2.1 (M + 36) = some (.inl (0, 4)) := (h.2 (56, 36, (0, 4)) (List.mem_of_getElem? (i := 35) rfl)).2
theorem mr_endsThen {Z : zZ} {M : Nat} (h : isMod Z M) : Z.1 M 57 = some (M + 37) := (h.2 (57, 37, (0, 4)) (List.mem_of_getElem? (i := 36) rfl)).1
theorem ml_endsThen {Z : zZ} {M : Nat} (h : isMod Z M) : Z.2.1 (M + 37) = some (.inl (0, 4)) := (h.2 (57, 37, (0, 4)) (List.mem_of_getElem? (i := 36) rfl)).2
theorem mr_setsBy {Z : zZ} {M : Nat} (h : isMod Z M) : Z.1 M 58 = some (M + 38) := (h.2 (58, 38, (0, 16)) (List.mem_of_getElem? (i := 37) rfl)).1
theorem ml_setsBy {Z : zZ} {M : Nat} (h : isMod Z M) : Z.2.1 (M + 38) = some (.inl (0, 16)) := (h.2 (58, 38, (0, 16)) (List.mem_of_getElem? (i := 37) rfl)).2
theorem mr_setsThen {Z : zZ} {M : Nat} (h : isMod Z M) : Z.1 M 59 = some (M + 39) := (h.2 (59, 39, (0, 16)) (List.mem_of_getElem? (i := 38) rfl)).1
theorem ml_setsThen {Z : zZ} {M : Nat} (h : isMod Z M) : Z.2.1 (M + 39) = some (.inl (0, 16)) := (h.2 (59, 39, (0, 16)) (List.mem_of_getElem? (i := 38) rfl)).2
theorem mr_stepBy {Z : zZ} {M : Nat} (h : isMod Z M) : Z.1 M 60 = some (M + 40) := (h.2 (60, 40, (0, 65536)) (List.mem_of_getElem? (i := 39) rfl)).1
theorem ml_stepBy {Z : zZ} {M : Nat} (h : isMod Z M) : Z.2.1 (M + 40) = some (.inl (0, 65536)) := (h.2 (60, 40, (0, 65536)) (List.mem_of_getElem? (i := 39) rfl)).2
theorem mr_ringNow {Z : zZ} {M : Nat} (h : isMod Z M) : Z.1 M 61 = some (M + 41) := (h.2 (61, 41, (0, 8)) (List.mem_of_getElem? (i := 40) rfl)).1
theorem ml_ringNow {Z : zZ} {M : Nat} (h : isMod Z M) : Z.2.1 (M + 41) = some (.inl (0, 8)) := (h.2 (61, 41, (0, 8)) (List.mem_of_getElem? (i := 40) rfl)).2
theorem mr_wonBy {Z : zZ} {M : Nat} (h : isMod Z M) : Z.1 M 65 = some (M + 42) := (h.2 (65, 42, (0, 65536)) (List.mem_of_getElem? (i := 41) rfl)).1
theorem ml_wonBy {Z : zZ} {M : Nat} (h : isMod Z M) : Z.2.1 (M + 42) = some (.inl (0, 65536)) := (h.2 (65, 42, (0, 65536)) (List.mem_of_getElem? (i := 41) rfl)).2
theorem mr_toldDepth {Z : zZ} {M : Nat} (h : isMod Z M) : Z.1 M 67 = some (M + 43) := (h.2 (67, 43, (0, 20)) (List.mem_of_getElem? (i := 42) rfl)).1
theorem ml_toldDepth {Z : zZ} {M : Nat} (h : isMod Z M) : Z.2.1 (M + 43) = some (.inl (0, 20)) := (h.2 (67, 43, (0, 20)) (List.mem_of_getElem? (i := 42) rfl)).2
theorem mr_toldSeat {Z : zZ} {M : Nat} (h : isMod Z M) : Z.1 M 68 = some (M + 44) := (h.2 (68, 44, (0, 20)) (List.mem_of_getElem? (i := 43) rfl)).1
theorem ml_toldSeat {Z : zZ} {M : Nat} (h : isMod Z M) : Z.2.1 (M + 44) = some (.inl (0, 20)) := (h.2 (68, 44, (0, 20)) (List.mem_of_getElem? (i := 43) rfl)).2
theorem mr_toldColour {Z : zZ} {M : Nat} (h : isMod Z M) : Z.1 M 69 = some (M + 45) := (h.2 (69, 45, (0, 20)) (List.mem_of_getElem? (i := 44) rfl)).1
theorem ml_toldColour {Z : zZ} {M : Nat} (h : isMod Z M) : Z.2.1 (M + 45) = some (.inl (0, 20)) := (h.2 (69, 45, (0, 20)) (List.mem_of_getElem? (i := 44) rfl)).2
theorem mr_toldSo {Z : zZ} {M : Nat} (h : isMod Z M) : Z.1 M 70 = some (M + 46) := (h.2 (70, 46, (2, 20)) (List.mem_of_getElem? (i := 45) rfl)).1
theorem ml_toldSo {Z : zZ} {M : Nat} (h : isMod Z M) : Z.2.1 (M + 46) = some (.inl (2, 20)) := (h.2 (70, 46, (2, 20)) (List.mem_of_getElem? (i := 45) rfl)).2
theorem mr_countBy {Z : zZ} {M : Nat} (h : isMod Z M) : Z.1 M 71 = some (M + 47) := (h.2 (71, 47, (0, 256)) (List.mem_of_getElem? (i := 46) rfl)).1
theorem ml_countBy {Z : zZ} {M : Nat} (h : isMod Z M) : Z.2.1 (M + 47) = some (.inl (0, 256)) := (h.2 (71, 47, (0, 256)) (List.mem_of_getElem? (i := 46) rfl)).2
theorem mr_isHeld {Z : zZ} {M : Nat} (h : isMod Z M) : Z.1 M 72 = some (M + 48) := (h.2 (72, 48, (2, 3)) (List.mem_of_getElem? (i := 47) rfl)).1
theorem ml_isHeld {Z : zZ} {M : Nat} (h : isMod Z M) : Z.2.1 (M + 48) = some (.inl (2, 3)) := (h.2 (72, 48, (2, 3)) (List.mem_of_getElem? (i := 47) rfl)).2
theorem mr_heldRows {Z : zZ} {M : Nat} (h : isMod Z M) : Z.1 M 73 = some (M + 49) := (h.2 (73, 49, (0, 114)) (List.mem_of_getElem? (i := 48) rfl)).1
theorem ml_heldRows {Z : zZ} {M : Nat} (h : isMod Z M) : Z.2.1 (M + 49) = some (.inl (0, 114)) := (h.2 (73, 49, (0, 114)) (List.mem_of_getElem? (i := 48) rfl)).2
