/-! arithmetic, branches -/
/-- what a method may make is within its room -/
def z_Rm (X : zX) : Prop := X.2.2.2.2.2.2.2.2.1 + X.2.2.2.2.2.2.1 ≤ X.2.2.2.2.2.1.cells ∧ X.2.2.2.2.2.2.2.2.2 + X.2.2.2.2.2.2.1 * X.2.2.2.2.2.2.2.1 ≤ X.2.2.2.2.2.1.slots
def z_Re (X : zX) : Prop := X.2.2.2.2.2.1.cells = X.2.2.2.2.2.2.1 ∧ X.2.2.2.2.2.1.slots = X.2.2.2.2.2.2.1 * X.2.2.2.2.2.2.2.1
theorem z_rmc {X : zX} {sz sz0 : Nat} (hX : z_Rm X) (h : sz ≤ sz0 + X.2.2.2.2.2.2.1) : X.2.2.2.2.2.2.2.2.1 + (sz - sz0) ≤ X.2.2.2.2.2.1.cells := Nat.le_trans (Nat.add_le_add_left (by omega) _) hX.1
theorem z_rms {X : zX} {sz sz0 : Nat} (hX : z_Rm X) (h : sz ≤ sz0 + X.2.2.2.2.2.2.1) : X.2.2.2.2.2.2.2.2.2 + (sz - sz0) * X.2.2.2.2.2.2.2.1 ≤ X.2.2.2.2.2.1.slots := Nat.le_trans (Nat.add_le_add_left (Nat.mul_le_mul_right _ (by omega)) _) hX.2
section ROWS
variable {l : Launch} {D : zD} {B : Nat} {X : zX} {sz0 : Nat} {post : Option Value → zS → Prop} {α : Type} {J : α → Prop} {pc : Nat} {k : zK α}
def q_iadd (k : zK α) : zK α := fun ls st σ => match st with
  | .int y :: .int x :: r => k ls (.int (x + y) :: r) σ
  | _ => none
theorem s_iadd (d : decode X.2.1 pc = .ok (.iadd, 1)) (h : zSnd l D B X sz0 post (pc + 1) k J) : zSnd l D B X sz0 post pc (q_iadd k) J := by
  intro ls st σ a ha hJ
  unfold q_iadd at ha
  split at ha
  · exact fun hA hB p e s m args below meth c H locs lsA F w => lv_iadd F.1 F.2.1 d (h _ _ σ a ha hJ hA hB p e s m args below meth c H locs lsA F w)
  · cases ha
def q_isub (k : zK α) : zK α := fun ls st σ => match st with
  | .int y :: .int x :: r => k ls (.int (x - y) :: r) σ
  | _ => none
theorem s_isub (d : decode X.2.1 pc = .ok (.isub, 1)) (h : zSnd l D B X sz0 post (pc + 1) k J) : zSnd l D B X sz0 post pc (q_isub k) J := by
  intro ls st σ a ha hJ
  unfold q_isub at ha
  split at ha
  · exact fun hA hB p e s m args below meth c H locs lsA F w => lv_isub F.1 F.2.1 d (h _ _ σ a ha hJ hA hB p e s m args below meth c H locs lsA F w)
  · cases ha
def q_imul (k : zK α) : zK α := fun ls st σ => match st with
  | .int y :: .int x :: r => k ls (.int (x * y) :: r) σ
  | _ => none
theorem s_imul (d : decode X.2.1 pc = .ok (.imul, 1)) (h : zSnd l D B X sz0 post (pc + 1) k J) : zSnd l D B X sz0 post pc (q_imul k) J := by
  intro ls st σ a ha hJ
  unfold q_imul at ha
  split at ha
  · exact fun hA hB p e s m args below meth c H locs lsA F w => lv_imul F.1 F.2.1 d (h _ _ σ a ha hJ hA hB p e s m args below meth c H locs lsA F w)
  · cases ha
def q_iand (k : zK α) : zK α := fun ls st σ => match st with
  | .int y :: .int x :: r => k ls (.int (x &&& y) :: r) σ
  | _ => none
theorem s_iand (d : decode X.2.1 pc = .ok (.iand, 1)) (h : zSnd l D B X sz0 post (pc + 1) k J) : zSnd l D B X sz0 post pc (q_iand k) J := by
  intro ls st σ a ha hJ
  unfold q_iand at ha
  split at ha
  · exact fun hA hB p e s m args below meth c H locs lsA F w => lv_iand F.1 F.2.1 d (h _ _ σ a ha hJ hA hB p e s m args below meth c H locs lsA F w)
  · cases ha
def q_ior (k : zK α) : zK α := fun ls st σ => match st with
  | .int y :: .int x :: r => k ls (.int (x ||| y) :: r) σ
  | _ => none
theorem s_ior (d : decode X.2.1 pc = .ok (.ior, 1)) (h : zSnd l D B X sz0 post (pc + 1) k J) : zSnd l D B X sz0 post pc (q_ior k) J := by
  intro ls st σ a ha hJ
  unfold q_ior at ha
  split at ha
  · exact fun hA hB p e s m args below meth c H locs lsA F w => lv_ior F.1 F.2.1 d (h _ _ σ a ha hJ hA hB p e s m args below meth c H locs lsA F w)
  · cases ha
def q_ixor (k : zK α) : zK α := fun ls st σ => match st with
  | .int y :: .int x :: r => k ls (.int (x ^^^ y) :: r) σ
  | _ => none
theorem s_ixor (d : decode X.2.1 pc = .ok (.ixor, 1)) (h : zSnd l D B X sz0 post (pc + 1) k J) : zSnd l D B X sz0 post pc (q_ixor k) J := by
  intro ls st σ a ha hJ
  unfold q_ixor at ha
  split at ha
  · exact fun hA hB p e s m args below meth c H locs lsA F w => lv_ixor F.1 F.2.1 d (h _ _ σ a ha hJ hA hB p e s m args below meth c H locs lsA F w)
  · cases ha
def q_ishl (k : zK α) : zK α := fun ls st σ => match st with
  | .int y :: .int x :: r => k ls (.int (x <<< (y &&& 31)) :: r) σ
  | _ => none
theorem s_ishl (d : decode X.2.1 pc = .ok (.ishl, 1)) (h : zSnd l D B X sz0 post (pc + 1) k J) : zSnd l D B X sz0 post pc (q_ishl k) J := by
  intro ls st σ a ha hJ
  unfold q_ishl at ha
  split at ha
  · exact fun hA hB p e s m args below meth c H locs lsA F w => lv_ishl F.1 F.2.1 d (h _ _ σ a ha hJ hA hB p e s m args below meth c H locs lsA F w)
  · cases ha
def q_ishr (k : zK α) : zK α := fun ls st σ => match st with
  | .int y :: .int x :: r => k ls (.int (x >>> (y &&& 31)) :: r) σ
  | _ => none
theorem s_ishr (d : decode X.2.1 pc = .ok (.ishr, 1)) (h : zSnd l D B X sz0 post (pc + 1) k J) : zSnd l D B X sz0 post pc (q_ishr k) J := by
  intro ls st σ a ha hJ
  unfold q_ishr at ha
  split at ha
  · exact fun hA hB p e s m args below meth c H locs lsA F w => lv_ishr F.1 F.2.1 d (h _ _ σ a ha hJ hA hB p e s m args below meth c H locs lsA F w)
  · cases ha
def q_ladd (k : zK α) : zK α := fun ls st σ => match st with
  | .long y :: .long x :: r => k ls (.long (x + y) :: r) σ
  | _ => none
theorem s_ladd (d : decode X.2.1 pc = .ok (.ladd, 1)) (h : zSnd l D B X sz0 post (pc + 1) k J) : zSnd l D B X sz0 post pc (q_ladd k) J := by
  intro ls st σ a ha hJ
  unfold q_ladd at ha
  split at ha
  · exact fun hA hB p e s m args below meth c H locs lsA F w => lv_ladd F.1 F.2.1 d (h _ _ σ a ha hJ hA hB p e s m args below meth c H locs lsA F w)
  · cases ha
def q_lsub (k : zK α) : zK α := fun ls st σ => match st with
  | .long y :: .long x :: r => k ls (.long (x - y) :: r) σ
  | _ => none
theorem s_lsub (d : decode X.2.1 pc = .ok (.lsub, 1)) (h : zSnd l D B X sz0 post (pc + 1) k J) : zSnd l D B X sz0 post pc (q_lsub k) J := by
  intro ls st σ a ha hJ
  unfold q_lsub at ha
  split at ha
  · exact fun hA hB p e s m args below meth c H locs lsA F w => lv_lsub F.1 F.2.1 d (h _ _ σ a ha hJ hA hB p e s m args below meth c H locs lsA F w)
  · cases ha
def q_lmul (k : zK α) : zK α := fun ls st σ => match st with
  | .long y :: .long x :: r => k ls (.long (x * y) :: r) σ
  | _ => none
theorem s_lmul (d : decode X.2.1 pc = .ok (.lmul, 1)) (h : zSnd l D B X sz0 post (pc + 1) k J) : zSnd l D B X sz0 post pc (q_lmul k) J := by
  intro ls st σ a ha hJ
  unfold q_lmul at ha
  split at ha
  · exact fun hA hB p e s m args below meth c H locs lsA F w => lv_lmul F.1 F.2.1 d (h _ _ σ a ha hJ hA hB p e s m args below meth c H locs lsA F w)
  · cases ha
def q_iushr (k : zK α) : zK α := fun ls st σ => match st with
  | .int y :: .int x :: r => k ls (.int ((x.toUInt32 >>> (y.toUInt32 &&& Int32.toUInt32 31)).toInt32) :: r) σ
  | _ => none
theorem s_iushr (d : decode X.2.1 pc = .ok (.iushr, 1)) (h : zSnd l D B X sz0 post (pc + 1) k J) : zSnd l D B X sz0 post pc (q_iushr k) J := by
  intro ls st σ a ha hJ
  unfold q_iushr at ha
  split at ha
  · exact fun hA hB p e s m args below meth c H locs lsA F w => lv_iushr F.1 F.2.1 d rfl (h _ _ σ a ha hJ hA hB p e s m args below meth c H locs lsA F w)
  · cases ha
def q_idiv (k : zK α) : zK α := fun ls st σ => match st with
  | .int y :: .int x :: r => if y = 0 then none else k ls (.int (x / y) :: r) σ
  | _ => none
theorem s_idiv (d : decode X.2.1 pc = .ok (.idiv, 1)) (h : zSnd l D B X sz0 post (pc + 1) k J) : zSnd l D B X sz0 post pc (q_idiv k) J := by
  intro ls st σ a ha hJ
  unfold q_idiv at ha
  split at ha
  · split at ha
    · cases ha
    · rename_i hy
      exact fun hA hB p e s m args below meth c H locs lsA F w => lv_idiv F.1 F.2.1 d hy (h _ _ σ a ha hJ hA hB p e s m args below meth c H locs lsA F w)
  · cases ha
def z_rem (x y : Int32) : Int32 := x - x / y * y
def q_irem (k : zK α) : zK α := fun ls st σ => match st with
  | .int y :: .int x :: r => if y = 0 then none else k ls (.int (z_rem x y) :: r) σ
  | _ => none
theorem s_irem (d : decode X.2.1 pc = .ok (.irem, 1)) (h : zSnd l D B X sz0 post (pc + 1) k J) : zSnd l D B X sz0 post pc (q_irem k) J := by
  intro ls st σ a ha hJ
  unfold q_irem at ha
  split at ha
  · split at ha
    · cases ha
    · rename_i hy
      exact fun hA hB p e s m args below meth c H locs lsA F w => lv_irem F.1 F.2.1 d hy (h _ _ σ a ha hJ hA hB p e s m args below meth c H locs lsA F w)
  · cases ha
def q_lcmp (k : zK α) : zK α := fun ls st σ => match st with
  | .long y :: .long x :: r => k ls (.int (lg_cmp x y) :: r) σ
  | _ => none
theorem s_lcmp (d : decode X.2.1 pc = .ok (.lcmp, 1)) (h : zSnd l D B X sz0 post (pc + 1) k J) : zSnd l D B X sz0 post pc (q_lcmp k) J := by
  intro ls st σ a ha hJ
  unfold q_lcmp at ha
  split at ha
  · exact fun hA hB p e s m args below meth c H locs lsA F w => W.lcmp F.1 F.2.1 d (h _ _ σ a ha hJ hA hB p e s m args below meth c H locs lsA F w)
  · cases ha
def q_mmax (k : zK α) : zK α := fun ls st σ => match st with
  | .int y :: .int x :: r => if r.length ≤ 4 then k ls (.int (if x < y then y else x) :: r) σ else none
  | _ => none
def q_mmin (k : zK α) : zK α := fun ls st σ => match st with
  | .int y :: .int x :: r => if r.length ≤ 4 then k ls (.int (if y < x then y else x) :: r) σ else none
  | _ => none
theorem z_wsum (r : List Value) (n : Nat) (h : r.length ≤ n) : (r.map fun v => v.category).sum ≤ 2 * n := by
  induction r generalizing n with
  | nil => simp
  | cons v r ih =>
    cases n with
    | zero => simp at h
    | succ n =>
      have h1 := ih n (by simpa using h)
      have h2 : v.category ≤ 2 := by rcases lv_cat v with q | q <;> omega
      simp only [List.map_cons, List.sum_cons]
      omega
theorem s_mmax {i : Nat} (d : decode X.2.1 pc = .ok (.invokestatic i, 3)) (hw : Cond.methodLink X.1 i Lib.Math.max.name ∈ z_tb) (hst : Cond.static Lib.Math.max.name ∈ z_tb) (hin : Cond.initialized "java/lang/Math" ∈ z_tb) (hco : Cond.code Lib.Math.max.name Lib.Math.max.code 2 (some .int) ∈ z_tb) (hR : 1 ≤ X.2.2.2.2.2.1.frames ∧ 21 ≤ X.2.2.2.2.2.1.locals) (hX : z_Rm X)
    (h : zSnd l D B X sz0 post (pc + 3) k J) : zSnd l D B X sz0 post pc (q_mmax k) J := by
  intro ls st σ a ha hJ
  unfold q_mmax at ha
  split at ha
  · split at ha
    · rename_i hr
      intro hA hB p e s m args below meth c H locs lsA F w
      have h1 := z_wsum _ 4 hr
      exact va_mmax F.1 F.2.1 (by rw [F.2.2.1, w.2.2.2.1]) F.2.2.2.1 (F.2.2.2.2.1 _ hw) (F.2.2.2.2.1 _ hst) (F.2.2.2.2.1 _ hin) (F.2.2.2.2.1 _ hco) hR.1 (by omega) (z_rmc hX hA) (z_rms hX hA) d (h _ _ σ a ha hJ hA hB p e s m args below meth c H locs lsA F w)
    · cases ha
  · cases ha
theorem s_mmin {i : Nat} (d : decode X.2.1 pc = .ok (.invokestatic i, 3)) (hw : Cond.methodLink X.1 i Lib.Math.min.name ∈ z_tb) (hst : Cond.static Lib.Math.min.name ∈ z_tb) (hin : Cond.initialized "java/lang/Math" ∈ z_tb) (hco : Cond.code Lib.Math.min.name Lib.Math.min.code 2 (some .int) ∈ z_tb) (hR : 1 ≤ X.2.2.2.2.2.1.frames ∧ 21 ≤ X.2.2.2.2.2.1.locals) (hX : z_Rm X)
    (h : zSnd l D B X sz0 post (pc + 3) k J) : zSnd l D B X sz0 post pc (q_mmin k) J := by
  intro ls st σ a ha hJ
  unfold q_mmin at ha
  split at ha
  · split at ha
    · rename_i hr
      intro hA hB p e s m args below meth c H locs lsA F w
      have h1 := z_wsum _ 4 hr
      exact va_mmin F.1 F.2.1 (by rw [F.2.2.1, w.2.2.2.1]) F.2.2.2.1 (F.2.2.2.2.1 _ hw) (F.2.2.2.2.1 _ hst) (F.2.2.2.2.1 _ hin) (F.2.2.2.2.1 _ hco) hR.1 (by omega) (z_rmc hX hA) (z_rms hX hA) d (h _ _ σ a ha hJ hA hB p e s m args below meth c H locs lsA F w)
    · cases ha
  · cases ha
def q_i2l (k : zK α) : zK α := fun ls st σ => match st with
  | .int x :: r => k ls (.long (x.toInt64) :: r) σ
  | _ => none
theorem s_i2l (d : decode X.2.1 pc = .ok (.i2l, 1)) (h : zSnd l D B X sz0 post (pc + 1) k J) : zSnd l D B X sz0 post pc (q_i2l k) J := by
  intro ls st σ a ha hJ
  unfold q_i2l at ha
  split at ha
  · exact fun hA hB p e s m args below meth c H locs lsA F w => lv_i2l F.1 F.2.1 d rfl (h _ _ σ a ha hJ hA hB p e s m args below meth c H locs lsA F w)
  · cases ha
def q_l2i (k : zK α) : zK α := fun ls st σ => match st with
  | .long x :: r => k ls (.int (x.toInt32) :: r) σ
  | _ => none
theorem s_l2i (d : decode X.2.1 pc = .ok (.l2i, 1)) (h : zSnd l D B X sz0 post (pc + 1) k J) : zSnd l D B X sz0 post pc (q_l2i k) J := by
  intro ls st σ a ha hJ
  unfold q_l2i at ha
  split at ha
  · exact fun hA hB p e s m args below meth c H locs lsA F w => lv_l2i F.1 F.2.1 d rfl (h _ _ σ a ha hJ hA hB p e s m args below meth c H locs lsA F w)
  · cases ha
def q_i2b (k : zK α) : zK α := fun ls st σ => match st with
  | .int x :: r => k ls (.int (x.toInt8.toInt32) :: r) σ
  | _ => none
theorem s_i2b (d : decode X.2.1 pc = .ok (.i2b, 1)) (h : zSnd l D B X sz0 post (pc + 1) k J) : zSnd l D B X sz0 post pc (q_i2b k) J := by
  intro ls st σ a ha hJ
  unfold q_i2b at ha
  split at ha
  · exact fun hA hB p e s m args below meth c H locs lsA F w => lv_i2b F.1 F.2.1 d rfl (h _ _ σ a ha hJ hA hB p e s m args below meth c H locs lsA F w)
  · cases ha
def q_i2c (k : zK α) : zK α := fun ls st σ => match st with
  | .int x :: r => k ls (.int ((x.toUInt32 % 65536).toInt32) :: r) σ
  | _ => none
theorem s_i2c (d : decode X.2.1 pc = .ok (.i2c, 1)) (h : zSnd l D B X sz0 post (pc + 1) k J) : zSnd l D B X sz0 post pc (q_i2c k) J := by
  intro ls st σ a ha hJ
  unfold q_i2c at ha
  split at ha
  · exact fun hA hB p e s m args below meth c H locs lsA F w => lv_i2c F.1 F.2.1 d rfl (h _ _ σ a ha hJ hA hB p e s m args below meth c H locs lsA F w)
  · cases ha
def q_dup (k : zK α) : zK α := fun ls st σ => match st with
  | v :: r => if v.category = 1 then k ls (v :: v :: r) σ else none
  | _ => none
theorem s_dup (d : decode X.2.1 pc = .ok (.dup, 1)) (h : zSnd l D B X sz0 post (pc + 1) k J) : zSnd l D B X sz0 post pc (q_dup k) J := by
  intro ls st σ a ha hJ
  unfold q_dup at ha
  split at ha
  · split at ha
    · rename_i hc
      exact fun hA hB p e s m args below meth c H locs lsA F w => lv_dup F.1 F.2.1 d hc (h _ _ σ a ha hJ hA hB p e s m args below meth c H locs lsA F w)
    · cases ha
  · cases ha
def q_pop (k : zK α) : zK α := fun ls st σ => match st with
  | v :: r => if v.category = 1 then k ls r σ else none
  | _ => none
theorem s_pop (d : decode X.2.1 pc = .ok (.pop, 1)) (h : zSnd l D B X sz0 post (pc + 1) k J) : zSnd l D B X sz0 post pc (q_pop k) J := by
  intro ls st σ a ha hJ
  unfold q_pop at ha
  split at ha
  · split at ha
    · rename_i hc
      exact fun hA hB p e s m args below meth c H locs lsA F w => lv_pop F.1 F.2.1 d hc (h _ _ σ a ha hJ hA hB p e s m args below meth c H locs lsA F w)
    · cases ha
  · cases ha
def q_dup2 (k : zK α) : zK α := fun ls st σ => match st with
  | v :: u :: r => if v.category = 1 ∧ u.category = 1 then k ls (v :: u :: v :: u :: r) σ else none
  | _ => none
theorem s_dup2 (d : decode X.2.1 pc = .ok (.dup2, 1)) (h : zSnd l D B X sz0 post (pc + 1) k J) : zSnd l D B X sz0 post pc (q_dup2 k) J := by
  intro ls st σ a ha hJ
  unfold q_dup2 at ha
  split at ha
  · split at ha
    · rename_i hc
      exact fun hA hB p e s m args below meth c H locs lsA F w => lv_dup2_11 F.1 F.2.1 d hc.1 hc.2 (h _ _ σ a ha hJ hA hB p e s m args below meth c H locs lsA F w)
    · cases ha
  · cases ha
def q_icmp_eq (kt kf : zK α) : zK α := fun ls st σ => match st with
  | .int y :: .int x :: r => if x = y then kt ls r σ else kf ls r σ
  | _ => none
def q_if_eq (kt kf : zK α) : zK α := fun ls st σ => match st with
  | .int x :: r => if x = 0 then kt ls r σ else kf ls r σ
  | _ => none
theorem s_icmp_eq {kt kf : zK α} {off : Int} {tgt : Nat} (d : decode X.2.1 pc = .ok (.if_icmp .eq off, 3)) (ht : (pc : Int) + off = (tgt : Int)) (h1 : zSnd l D B X sz0 post tgt kt J) (h2 : zSnd l D B X sz0 post (pc + 3) kf J) : zSnd l D B X sz0 post pc (q_icmp_eq kt kf) J := by
  intro ls st σ a ha hJ
  unfold q_icmp_eq at ha
  split at ha
  · exact fun hA hB p e s m args below meth c H locs lsA F w => lv_icmp_eq F.1 F.2.1 d ht (fun q => h1 _ _ σ a (by rw [if_pos (by first | exact q | simpa using q)] at ha; exact ha) hJ hA hB p e s m args below meth c H locs lsA F w) (fun q => h2 _ _ σ a (by rw [if_neg (by first | exact q | simpa using q)] at ha; exact ha) hJ hA hB p e s m args below meth c H locs lsA F w)
  · cases ha
theorem s_if_eq {kt kf : zK α} {off : Int} {tgt : Nat} (d : decode X.2.1 pc = .ok (.ifCond .eq off, 3)) (ht : (pc : Int) + off = (tgt : Int)) (h1 : zSnd l D B X sz0 post tgt kt J) (h2 : zSnd l D B X sz0 post (pc + 3) kf J) : zSnd l D B X sz0 post pc (q_if_eq kt kf) J := by
  intro ls st σ a ha hJ
  unfold q_if_eq at ha
  split at ha
  · exact fun hA hB p e s m args below meth c H locs lsA F w => lv_if_eq F.1 F.2.1 d ht (fun q => h1 _ _ σ a (by rw [if_pos (by first | exact q | simpa using q)] at ha; exact ha) hJ hA hB p e s m args below meth c H locs lsA F w) (fun q => h2 _ _ σ a (by rw [if_neg (by first | exact q | simpa using q)] at ha; exact ha) hJ hA hB p e s m args below meth c H locs lsA F w)
  · cases ha
def q_icmp_ne (kt kf : zK α) : zK α := fun ls st σ => match st with
  | .int y :: .int x :: r => if ¬ x = y then kt ls r σ else kf ls r σ
  | _ => none
def q_if_ne (kt kf : zK α) : zK α := fun ls st σ => match st with
  | .int x :: r => if ¬ x = 0 then kt ls r σ else kf ls r σ
  | _ => none
theorem s_icmp_ne {kt kf : zK α} {off : Int} {tgt : Nat} (d : decode X.2.1 pc = .ok (.if_icmp .ne off, 3)) (ht : (pc : Int) + off = (tgt : Int)) (h1 : zSnd l D B X sz0 post tgt kt J) (h2 : zSnd l D B X sz0 post (pc + 3) kf J) : zSnd l D B X sz0 post pc (q_icmp_ne kt kf) J := by
  intro ls st σ a ha hJ
  unfold q_icmp_ne at ha
  split at ha
  · exact fun hA hB p e s m args below meth c H locs lsA F w => lv_icmp_ne F.1 F.2.1 d ht (fun q => h1 _ _ σ a (by rw [if_pos (by first | exact q | simpa using q)] at ha; exact ha) hJ hA hB p e s m args below meth c H locs lsA F w) (fun q => h2 _ _ σ a (by rw [if_neg (by first | exact q | simpa using q)] at ha; exact ha) hJ hA hB p e s m args below meth c H locs lsA F w)
  · cases ha
theorem s_if_ne {kt kf : zK α} {off : Int} {tgt : Nat} (d : decode X.2.1 pc = .ok (.ifCond .ne off, 3)) (ht : (pc : Int) + off = (tgt : Int)) (h1 : zSnd l D B X sz0 post tgt kt J) (h2 : zSnd l D B X sz0 post (pc + 3) kf J) : zSnd l D B X sz0 post pc (q_if_ne kt kf) J := by
  intro ls st σ a ha hJ
  unfold q_if_ne at ha
  split at ha
  · exact fun hA hB p e s m args below meth c H locs lsA F w => lv_if_ne F.1 F.2.1 d ht (fun q => h1 _ _ σ a (by rw [if_pos (by first | exact q | simpa using q)] at ha; exact ha) hJ hA hB p e s m args below meth c H locs lsA F w) (fun q => h2 _ _ σ a (by rw [if_neg (by first | exact q | simpa using q)] at ha; exact ha) hJ hA hB p e s m args below meth c H locs lsA F w)
  · cases ha
def q_icmp_lt (kt kf : zK α) : zK α := fun ls st σ => match st with
  | .int y :: .int x :: r => if x < y then kt ls r σ else kf ls r σ
  | _ => none
def q_if_lt (kt kf : zK α) : zK α := fun ls st σ => match st with
  | .int x :: r => if x < 0 then kt ls r σ else kf ls r σ
  | _ => none
theorem s_icmp_lt {kt kf : zK α} {off : Int} {tgt : Nat} (d : decode X.2.1 pc = .ok (.if_icmp .lt off, 3)) (ht : (pc : Int) + off = (tgt : Int)) (h1 : zSnd l D B X sz0 post tgt kt J) (h2 : zSnd l D B X sz0 post (pc + 3) kf J) : zSnd l D B X sz0 post pc (q_icmp_lt kt kf) J := by
  intro ls st σ a ha hJ
  unfold q_icmp_lt at ha
  split at ha
  · exact fun hA hB p e s m args below meth c H locs lsA F w => lv_icmp_lt F.1 F.2.1 d ht (fun q => h1 _ _ σ a (by rw [if_pos (by first | exact q | simpa using q)] at ha; exact ha) hJ hA hB p e s m args below meth c H locs lsA F w) (fun q => h2 _ _ σ a (by rw [if_neg (by first | exact q | simpa using q)] at ha; exact ha) hJ hA hB p e s m args below meth c H locs lsA F w)
  · cases ha
theorem s_if_lt {kt kf : zK α} {off : Int} {tgt : Nat} (d : decode X.2.1 pc = .ok (.ifCond .lt off, 3)) (ht : (pc : Int) + off = (tgt : Int)) (h1 : zSnd l D B X sz0 post tgt kt J) (h2 : zSnd l D B X sz0 post (pc + 3) kf J) : zSnd l D B X sz0 post pc (q_if_lt kt kf) J := by
  intro ls st σ a ha hJ
  unfold q_if_lt at ha
  split at ha
  · exact fun hA hB p e s m args below meth c H locs lsA F w => lv_if_lt F.1 F.2.1 d ht (fun q => h1 _ _ σ a (by rw [if_pos (by first | exact q | simpa using q)] at ha; exact ha) hJ hA hB p e s m args below meth c H locs lsA F w) (fun q => h2 _ _ σ a (by rw [if_neg (by first | exact q | simpa using q)] at ha; exact ha) hJ hA hB p e s m args below meth c H locs lsA F w)
  · cases ha
def q_icmp_ge (kt kf : zK α) : zK α := fun ls st σ => match st with
  | .int y :: .int x :: r => if y ≤ x then kt ls r σ else kf ls r σ
  | _ => none
def q_if_ge (kt kf : zK α) : zK α := fun ls st σ => match st with
  | .int x :: r => if 0 ≤ x then kt ls r σ else kf ls r σ
  | _ => none
theorem s_icmp_ge {kt kf : zK α} {off : Int} {tgt : Nat} (d : decode X.2.1 pc = .ok (.if_icmp .ge off, 3)) (ht : (pc : Int) + off = (tgt : Int)) (h1 : zSnd l D B X sz0 post tgt kt J) (h2 : zSnd l D B X sz0 post (pc + 3) kf J) : zSnd l D B X sz0 post pc (q_icmp_ge kt kf) J := by
  intro ls st σ a ha hJ
  unfold q_icmp_ge at ha
  split at ha
  · exact fun hA hB p e s m args below meth c H locs lsA F w => lv_icmp_ge F.1 F.2.1 d ht (fun q => h1 _ _ σ a (by rw [if_pos (by first | exact q | simpa using q)] at ha; exact ha) hJ hA hB p e s m args below meth c H locs lsA F w) (fun q => h2 _ _ σ a (by rw [if_neg (by first | exact q | simpa using q)] at ha; exact ha) hJ hA hB p e s m args below meth c H locs lsA F w)
  · cases ha
theorem s_if_ge {kt kf : zK α} {off : Int} {tgt : Nat} (d : decode X.2.1 pc = .ok (.ifCond .ge off, 3)) (ht : (pc : Int) + off = (tgt : Int)) (h1 : zSnd l D B X sz0 post tgt kt J) (h2 : zSnd l D B X sz0 post (pc + 3) kf J) : zSnd l D B X sz0 post pc (q_if_ge kt kf) J := by
  intro ls st σ a ha hJ
  unfold q_if_ge at ha
  split at ha
  · exact fun hA hB p e s m args below meth c H locs lsA F w => lv_if_ge F.1 F.2.1 d ht (fun q => h1 _ _ σ a (by rw [if_pos (by first | exact q | simpa using q)] at ha; exact ha) hJ hA hB p e s m args below meth c H locs lsA F w) (fun q => h2 _ _ σ a (by rw [if_neg (by first | exact q | simpa using q)] at ha; exact ha) hJ hA hB p e s m args below meth c H locs lsA F w)
  · cases ha
def q_icmp_gt (kt kf : zK α) : zK α := fun ls st σ => match st with
  | .int y :: .int x :: r => if y < x then kt ls r σ else kf ls r σ
  | _ => none
def q_if_gt (kt kf : zK α) : zK α := fun ls st σ => match st with
  | .int x :: r => if 0 < x then kt ls r σ else kf ls r σ
  | _ => none
theorem s_icmp_gt {kt kf : zK α} {off : Int} {tgt : Nat} (d : decode X.2.1 pc = .ok (.if_icmp .gt off, 3)) (ht : (pc : Int) + off = (tgt : Int)) (h1 : zSnd l D B X sz0 post tgt kt J) (h2 : zSnd l D B X sz0 post (pc + 3) kf J) : zSnd l D B X sz0 post pc (q_icmp_gt kt kf) J := by
  intro ls st σ a ha hJ
  unfold q_icmp_gt at ha
  split at ha
  · exact fun hA hB p e s m args below meth c H locs lsA F w => lv_icmp_gt F.1 F.2.1 d ht (fun q => h1 _ _ σ a (by rw [if_pos (by first | exact q | simpa using q)] at ha; exact ha) hJ hA hB p e s m args below meth c H locs lsA F w) (fun q => h2 _ _ σ a (by rw [if_neg (by first | exact q | simpa using q)] at ha; exact ha) hJ hA hB p e s m args below meth c H locs lsA F w)
  · cases ha
theorem s_if_gt {kt kf : zK α} {off : Int} {tgt : Nat} (d : decode X.2.1 pc = .ok (.ifCond .gt off, 3)) (ht : (pc : Int) + off = (tgt : Int)) (h1 : zSnd l D B X sz0 post tgt kt J) (h2 : zSnd l D B X sz0 post (pc + 3) kf J) : zSnd l D B X sz0 post pc (q_if_gt kt kf) J := by
  intro ls st σ a ha hJ
  unfold q_if_gt at ha
  split at ha
  · exact fun hA hB p e s m args below meth c H locs lsA F w => lv_if_gt F.1 F.2.1 d ht (fun q => h1 _ _ σ a (by rw [if_pos (by first | exact q | simpa using q)] at ha; exact ha) hJ hA hB p e s m args below meth c H locs lsA F w) (fun q => h2 _ _ σ a (by rw [if_neg (by first | exact q | simpa using q)] at ha; exact ha) hJ hA hB p e s m args below meth c H locs lsA F w)
  · cases ha
def q_icmp_le (kt kf : zK α) : zK α := fun ls st σ => match st with
  | .int y :: .int x :: r => if x ≤ y then kt ls r σ else kf ls r σ
  | _ => none
def q_if_le (kt kf : zK α) : zK α := fun ls st σ => match st with
  | .int x :: r => if x ≤ 0 then kt ls r σ else kf ls r σ
  | _ => none
theorem s_icmp_le {kt kf : zK α} {off : Int} {tgt : Nat} (d : decode X.2.1 pc = .ok (.if_icmp .le off, 3)) (ht : (pc : Int) + off = (tgt : Int)) (h1 : zSnd l D B X sz0 post tgt kt J) (h2 : zSnd l D B X sz0 post (pc + 3) kf J) : zSnd l D B X sz0 post pc (q_icmp_le kt kf) J := by
  intro ls st σ a ha hJ
  unfold q_icmp_le at ha
  split at ha
  · exact fun hA hB p e s m args below meth c H locs lsA F w => lv_icmp_le F.1 F.2.1 d ht (fun q => h1 _ _ σ a (by rw [if_pos (by first | exact q | simpa using q)] at ha; exact ha) hJ hA hB p e s m args below meth c H locs lsA F w) (fun q => h2 _ _ σ a (by rw [if_neg (by first | exact q | simpa using q)] at ha; exact ha) hJ hA hB p e s m args below meth c H locs lsA F w)
  · cases ha
theorem s_if_le {kt kf : zK α} {off : Int} {tgt : Nat} (d : decode X.2.1 pc = .ok (.ifCond .le off, 3)) (ht : (pc : Int) + off = (tgt : Int)) (h1 : zSnd l D B X sz0 post tgt kt J) (h2 : zSnd l D B X sz0 post (pc + 3) kf J) : zSnd l D B X sz0 post pc (q_if_le kt kf) J := by
  intro ls st σ a ha hJ
  unfold q_if_le at ha
  split at ha
  · exact fun hA hB p e s m args below meth c H locs lsA F w => lv_if_le F.1 F.2.1 d ht (fun q => h1 _ _ σ a (by rw [if_pos (by first | exact q | simpa using q)] at ha; exact ha) hJ hA hB p e s m args below meth c H locs lsA F w) (fun q => h2 _ _ σ a (by rw [if_neg (by first | exact q | simpa using q)] at ha; exact ha) hJ hA hB p e s m args below meth c H locs lsA F w)
  · cases ha
/-- a table switch: the targets of lo, lo + 1, ..; else the last -/
def q_sw (lo : Int) (ks : List (zK α)) (kd : zK α) : zK α := fun ls st σ => match st with
  | .int x :: r => if x.toInt < lo then kd ls r σ else match ks[(x.toInt - lo).toNat]? with
    | some k => k ls r σ
    | none => kd ls r σ
  | _ => none
theorem s_sw {lo hi dflt : Int} {offs : Array Int} {len : Nat} {ks : List (zK α)} {kd : zK α} {td : Nat} {tgts : List Nat} (d : decode X.2.1 pc = .ok (.tableswitch dflt lo hi offs, len)) (hlen : ks.length = (hi - lo + 1).toNat ∧ lo ≤ hi) (ht : ∀ i : Nat, i < ks.length → ∃ o t, offs[i]? = some o ∧ tgts[i]? = some t ∧ (pc : Int) + o = (t : Int)) (htd : (pc : Int) + dflt = (td : Int))
    (h1 : ∀ (i t : Nat) (k : zK α), ks[i]? = some k → tgts[i]? = some t → zSnd l D B X sz0 post t k J) (h2 : zSnd l D B X sz0 post td kd J) : zSnd l D B X sz0 post pc (q_sw lo ks kd) J := by
  intro ls st σ a ha hJ
  unfold q_sw at ha
  split at ha
  · rename_i x r
    split at ha
    · rename_i hx
      exact fun hA hB p e s m args below meth c H locs lsA F w => lv_tableOut F.1 F.2.1 d (Or.inl hx) htd (h2 _ _ σ a ha hJ hA hB p e s m args below meth c H locs lsA F w)
    · rename_i hx
      split at ha
      · rename_i k' hk'
        have hl : (x.toInt - lo).toNat < ks.length := (List.getElem?_eq_some_iff.mp hk').1
        obtain ⟨o, t, g1, g2, g3⟩ := ht _ hl
        exact fun hA hB p e s m args below meth c H locs lsA F w => lv_tableIn F.1 F.2.1 d hx (by omega) g1 g3 (h1 _ _ _ hk' g2 _ _ σ a ha hJ hA hB p e s m args below meth c H locs lsA F w)
      · rename_i hk'
        have hl : ks.length ≤ (x.toInt - lo).toNat := List.getElem?_eq_none_iff.mp hk'
        exact fun hA hB p e s m args below meth c H locs lsA F w => lv_tableOut F.1 F.2.1 d (Or.inr (by omega)) htd (h2 _ _ σ a ha hJ hA hB p e s m args below meth c H locs lsA F w)
  · cases ha
end ROWS
