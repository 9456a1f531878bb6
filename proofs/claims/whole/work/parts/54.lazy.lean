/-! the pure steps, one at a time: each unfolds only when it is reached -/
theorem e_push {α : Type} (v : Int32) (k : zK α) (ls : zL) (st : List Value) (σ : zS) : q_push v k ls st σ = k ls (.int v :: st) σ := rfl
theorem e_pushl {α : Type} (v : Int64) (k : zK α) (ls : zL) (st : List Value) (σ : zS) : q_pushl v k ls st σ = k ls (.long v :: st) σ := rfl
theorem e_iload {α : Type} (i : Nat) (k : zK α) (ls : zL) (st : List Value) (σ : zS) : q_iload i k ls st σ = match ls[i]? with
  | some (some (.int x)) => k ls (.int x :: st) σ
  | _ => none := rfl
theorem e_lload {α : Type} (i : Nat) (k : zK α) (ls : zL) (st : List Value) (σ : zS) : q_lload i k ls st σ = match ls[i]? with
  | some (some (.long x)) => k ls (.long x :: st) σ
  | _ => none := rfl
theorem e_aload {α : Type} (i : Nat) (k : zK α) (ls : zL) (st : List Value) (σ : zS) : q_aload i k ls st σ = match ls[i]? with
  | some (some (.ref x)) => k ls (.ref x :: st) σ
  | _ => none := rfl
theorem e_istore {α : Type} (i : Nat) (k : zK α) (ls : zL) (st : List Value) (σ : zS) : q_istore i k ls st σ = match st with
  | .int x :: r => if z_nol ls i = true ∧ i < ls.length then k (ls.set i (some (.int x))) r σ else none
  | _ => none := rfl
theorem e_astore {α : Type} (i : Nat) (k : zK α) (ls : zL) (st : List Value) (σ : zS) : q_astore i k ls st σ = match st with
  | .ref x :: r => if z_nol ls i = true ∧ i < ls.length then k (ls.set i (some (.ref x))) r σ else none
  | _ => none := rfl
theorem e_lstore {α : Type} (i : Nat) (k : zK α) (ls : zL) (st : List Value) (σ : zS) : q_lstore i k ls st σ = match st with
  | .long x :: r => if z_nol ls i = true ∧ i + 1 < ls.length then k ((ls.set i (some (.long x))).set (i + 1) none) r σ else none
  | _ => none := rfl
theorem e_iinc {α : Type} (i : Nat) (n : Int32) (k : zK α) (ls : zL) (st : List Value) (σ : zS) : q_iinc i n k ls st σ = match ls[i]? with
  | some (some (.int x)) => if z_nol ls i = true then k (ls.set i (some (.int (x + n)))) st σ else none
  | _ => none := rfl
theorem e_iadd {α : Type} (k : zK α) (ls : zL) (st : List Value) (σ : zS) : q_iadd k ls st σ = match st with
  | .int y :: .int x :: r => k ls (.int (x + y) :: r) σ
  | _ => none := rfl
theorem e_isub {α : Type} (k : zK α) (ls : zL) (st : List Value) (σ : zS) : q_isub k ls st σ = match st with
  | .int y :: .int x :: r => k ls (.int (x - y) :: r) σ
  | _ => none := rfl
theorem e_imul {α : Type} (k : zK α) (ls : zL) (st : List Value) (σ : zS) : q_imul k ls st σ = match st with
  | .int y :: .int x :: r => k ls (.int (x * y) :: r) σ
  | _ => none := rfl
theorem e_iand {α : Type} (k : zK α) (ls : zL) (st : List Value) (σ : zS) : q_iand k ls st σ = match st with
  | .int y :: .int x :: r => k ls (.int (x &&& y) :: r) σ
  | _ => none := rfl
theorem e_ior {α : Type} (k : zK α) (ls : zL) (st : List Value) (σ : zS) : q_ior k ls st σ = match st with
  | .int y :: .int x :: r => k ls (.int (x ||| y) :: r) σ
  | _ => none := rfl
theorem e_ixor {α : Type} (k : zK α) (ls : zL) (st : List Value) (σ : zS) : q_ixor k ls st σ = match st with
  | .int y :: .int x :: r => k ls (.int (x ^^^ y) :: r) σ
  | _ => none := rfl
theorem e_ishl {α : Type} (k : zK α) (ls : zL) (st : List Value) (σ : zS) : q_ishl k ls st σ = match st with
  | .int y :: .int x :: r => k ls (.int (x <<< (y &&& 31)) :: r) σ
  | _ => none := rfl
theorem e_ishr {α : Type} (k : zK α) (ls : zL) (st : List Value) (σ : zS) : q_ishr k ls st σ = match st with
  | .int y :: .int x :: r => k ls (.int (x >>> (y &&& 31)) :: r) σ
  | _ => none := rfl
theorem e_iushr {α : Type} (k : zK α) (ls : zL) (st : List Value) (σ : zS) : q_iushr k ls st σ = match st with
  | .int y :: .int x :: r => k ls (.int ((x.toUInt32 >>> (y.toUInt32 &&& Int32.toUInt32 31)).toInt32) :: r) σ
  | _ => none := rfl
theorem e_idiv {α : Type} (k : zK α) (ls : zL) (st : List Value) (σ : zS) : q_idiv k ls st σ = match st with
  | .int y :: .int x :: r => if y = 0 then none else k ls (.int (x / y) :: r) σ
  | _ => none := rfl
theorem e_irem {α : Type} (k : zK α) (ls : zL) (st : List Value) (σ : zS) : q_irem k ls st σ = match st with
  | .int y :: .int x :: r => if y = 0 then none else k ls (.int (z_rem x y) :: r) σ
  | _ => none := rfl
theorem e_ladd {α : Type} (k : zK α) (ls : zL) (st : List Value) (σ : zS) : q_ladd k ls st σ = match st with
  | .long y :: .long x :: r => k ls (.long (x + y) :: r) σ
  | _ => none := rfl
theorem e_lsub {α : Type} (k : zK α) (ls : zL) (st : List Value) (σ : zS) : q_lsub k ls st σ = match st with
  | .long y :: .long x :: r => k ls (.long (x - y) :: r) σ
  | _ => none := rfl
theorem e_lmul {α : Type} (k : zK α) (ls : zL) (st : List Value) (σ : zS) : q_lmul k ls st σ = match st with
  | .long y :: .long x :: r => k ls (.long (x * y) :: r) σ
  | _ => none := rfl
theorem e_lcmp {α : Type} (k : zK α) (ls : zL) (st : List Value) (σ : zS) : q_lcmp k ls st σ = match st with
  | .long y :: .long x :: r => k ls (.int (lg_cmp x y) :: r) σ
  | _ => none := rfl
theorem e_mmax {α : Type} (k : zK α) (ls : zL) (st : List Value) (σ : zS) : q_mmax k ls st σ = match st with
  | .int y :: .int x :: r => if r.length ≤ 4 then k ls (.int (if x < y then y else x) :: r) σ else none
  | _ => none := rfl
theorem e_mmin {α : Type} (k : zK α) (ls : zL) (st : List Value) (σ : zS) : q_mmin k ls st σ = match st with
  | .int y :: .int x :: r => if r.length ≤ 4 then k ls (.int (if y < x then y else x) :: r) σ else none
  | _ => none := rfl
theorem e_i2l {α : Type} (k : zK α) (ls : zL) (st : List Value) (σ : zS) : q_i2l k ls st σ = match st with
  | .int x :: r => k ls (.long (x.toInt64) :: r) σ
  | _ => none := rfl
theorem e_l2i {α : Type} (k : zK α) (ls : zL) (st : List Value) (σ : zS) : q_l2i k ls st σ = match st with
  | .long x :: r => k ls (.int (x.toInt32) :: r) σ
  | _ => none := rfl
theorem e_i2b {α : Type} (k : zK α) (ls : zL) (st : List Value) (σ : zS) : q_i2b k ls st σ = match st with
  | .int x :: r => k ls (.int (x.toInt8.toInt32) :: r) σ
  | _ => none := rfl
theorem e_i2c {α : Type} (k : zK α) (ls : zL) (st : List Value) (σ : zS) : q_i2c k ls st σ = match st with
  | .int x :: r => k ls (.int ((x.toUInt32 % 65536).toInt32) :: r) σ
  | _ => none := rfl
theorem e_dup {α : Type} (k : zK α) (ls : zL) (st : List Value) (σ : zS) : q_dup k ls st σ = match st with
  | v :: r => if v.category = 1 then k ls (v :: v :: r) σ else none
  | _ => none := rfl
theorem e_dup2 {α : Type} (k : zK α) (ls : zL) (st : List Value) (σ : zS) : q_dup2 k ls st σ = match st with
  | v :: u :: r => if v.category = 1 ∧ u.category = 1 then k ls (v :: u :: v :: u :: r) σ else none
  | _ => none := rfl
theorem e_pop {α : Type} (k : zK α) (ls : zL) (st : List Value) (σ : zS) : q_pop k ls st σ = match st with
  | v :: r => if v.category = 1 then k ls r σ else none
  | _ => none := rfl
theorem e_icmp_eq {α : Type} (kt kf : zK α) (ls : zL) (st : List Value) (σ : zS) : q_icmp_eq kt kf ls st σ = match st with
  | .int y :: .int x :: r => if x = y then kt ls r σ else kf ls r σ
  | _ => none := rfl
theorem e_icmp_ne {α : Type} (kt kf : zK α) (ls : zL) (st : List Value) (σ : zS) : q_icmp_ne kt kf ls st σ = match st with
  | .int y :: .int x :: r => if ¬ x = y then kt ls r σ else kf ls r σ
  | _ => none := rfl
theorem e_icmp_lt {α : Type} (kt kf : zK α) (ls : zL) (st : List Value) (σ : zS) : q_icmp_lt kt kf ls st σ = match st with
  | .int y :: .int x :: r => if x < y then kt ls r σ else kf ls r σ
  | _ => none := rfl
theorem e_icmp_ge {α : Type} (kt kf : zK α) (ls : zL) (st : List Value) (σ : zS) : q_icmp_ge kt kf ls st σ = match st with
  | .int y :: .int x :: r => if y ≤ x then kt ls r σ else kf ls r σ
  | _ => none := rfl
theorem e_icmp_gt {α : Type} (kt kf : zK α) (ls : zL) (st : List Value) (σ : zS) : q_icmp_gt kt kf ls st σ = match st with
  | .int y :: .int x :: r => if y < x then kt ls r σ else kf ls r σ
  | _ => none := rfl
theorem e_icmp_le {α : Type} (kt kf : zK α) (ls : zL) (st : List Value) (σ : zS) : q_icmp_le kt kf ls st σ = match st with
  | .int y :: .int x :: r => if x ≤ y then kt ls r σ else kf ls r σ
  | _ => none := rfl
theorem e_if_eq {α : Type} (kt kf : zK α) (ls : zL) (st : List Value) (σ : zS) : q_if_eq kt kf ls st σ = match st with
  | .int x :: r => if x = 0 then kt ls r σ else kf ls r σ
  | _ => none := rfl
theorem e_if_ne {α : Type} (kt kf : zK α) (ls : zL) (st : List Value) (σ : zS) : q_if_ne kt kf ls st σ = match st with
  | .int x :: r => if ¬ x = 0 then kt ls r σ else kf ls r σ
  | _ => none := rfl
theorem e_if_lt {α : Type} (kt kf : zK α) (ls : zL) (st : List Value) (σ : zS) : q_if_lt kt kf ls st σ = match st with
  | .int x :: r => if x < 0 then kt ls r σ else kf ls r σ
  | _ => none := rfl
theorem e_if_ge {α : Type} (kt kf : zK α) (ls : zL) (st : List Value) (σ : zS) : q_if_ge kt kf ls st σ = match st with
  | .int x :: r => if 0 ≤ x then kt ls r σ else kf ls r σ
  | _ => none := rfl
theorem e_if_gt {α : Type} (kt kf : zK α) (ls : zL) (st : List Value) (σ : zS) : q_if_gt kt kf ls st σ = match st with
  | .int x :: r => if 0 < x then kt ls r σ else kf ls r σ
  | _ => none := rfl
theorem e_if_le {α : Type} (kt kf : zK α) (ls : zL) (st : List Value) (σ : zS) : q_if_le kt kf ls st σ = match st with
  | .int x :: r => if x ≤ 0 then kt ls r σ else kf ls r σ
  | _ => none := rfl
theorem e_getI {α : Type} (ci f : Nat) (k : zK α) (ls : zL) (st : List Value) (σ : zS) : q_getI ci f k ls st σ = match st with
  | .ref a :: r => if z_lay σ a = some (.inr ci) then k ls (.int (σ.1 a f) :: r) σ else none
  | _ => none := rfl
theorem e_getR {α : Type} (ci f : Nat) (k : zK α) (ls : zL) (st : List Value) (σ : zS) : q_getR ci f k ls st σ = match st with
  | .ref a :: r => if z_lay σ a = some (.inr ci) then match σ.2.2.1 a f with
    | some b => k ls (.ref b :: r) σ
    | none => none else none
  | _ => none := rfl
theorem e_putI {α : Type} (ci f : Nat) (k : zK α) (ls : zL) (st : List Value) (σ : zS) : q_putI ci f k ls st σ = match st with
  | .int v :: .ref a :: r => if z_lay σ a = some (.inr ci) then k ls r (z_stI σ a f v) else none
  | _ => none := rfl
theorem e_putZ {α : Type} (ci f : Nat) (k : zK α) (ls : zL) (st : List Value) (σ : zS) : q_putZ ci f k ls st σ = match st with
  | .int v :: .ref a :: r => if z_lay σ a = some (.inr ci) ∧ (v = 0 ∨ v = 1) then k ls r (z_stI σ a f v) else none
  | _ => none := rfl
theorem e_putR {α : Type} (ci f : Nat) (k : zK α) (ls : zL) (st : List Value) (σ : zS) : q_putR ci f k ls st σ = match st with
  | .ref v :: .ref a :: r => if z_lay σ a = some (.inr ci) then k ls r (z_stR σ a f (some v)) else none
  | _ => none := rfl
theorem e_iald {α : Type} (k : zK α) (ls : zL) (st : List Value) (σ : zS) : q_iald k ls st σ = match st with
  | .int i :: .ref a :: r => match z_lay σ a with
    | some (.inl (0, n)) => if i < 0 ∨ n ≤ i.toNatClampNeg then none else k ls (.int (σ.1 a i.toNatClampNeg) :: r) σ
    | _ => none
  | _ => none := rfl
theorem e_bald {α : Type} (k : zK α) (ls : zL) (st : List Value) (σ : zS) : q_bald k ls st σ = match st with
  | .int i :: .ref a :: r => match z_lay σ a with
    | some (.inl (1, n)) => if i < 0 ∨ n ≤ i.toNatClampNeg then none else k ls (.int (σ.1 a i.toNatClampNeg) :: r) σ
    | _ => none
  | _ => none := rfl
theorem e_zald {α : Type} (k : zK α) (ls : zL) (st : List Value) (σ : zS) : q_zald k ls st σ = match st with
  | .int i :: .ref a :: r => match z_lay σ a with
    | some (.inl (2, n)) => if i < 0 ∨ n ≤ i.toNatClampNeg then none else k ls (.int (σ.1 a i.toNatClampNeg) :: r) σ
    | _ => none
  | _ => none := rfl
theorem e_lald {α : Type} (k : zK α) (ls : zL) (st : List Value) (σ : zS) : q_lald k ls st σ = match st with
  | .int i :: .ref a :: r => match z_lay σ a with
    | some (.inl (3, n)) => if i < 0 ∨ n ≤ i.toNatClampNeg then none else k ls (.long (σ.2.1 a i.toNatClampNeg) :: r) σ
    | _ => none
  | _ => none := rfl
theorem e_aald {α : Type} (k : zK α) (ls : zL) (st : List Value) (σ : zS) : q_aald k ls st σ = match st with
  | .int i :: .ref a :: r => match z_lay σ a with
    | some (.inl (4, n)) => if i < 0 ∨ n ≤ i.toNatClampNeg then none else match σ.2.2.1 a i.toNatClampNeg with
      | some b => k ls (.ref b :: r) σ
      | none => none
    | _ => none
  | _ => none := rfl
theorem e_alen {α : Type} (k : zK α) (ls : zL) (st : List Value) (σ : zS) : q_alen k ls st σ = match st with
  | .ref a :: r => match z_lay σ a with
    | some (.inl (_, n)) => k ls (.int (Int32.ofNat n) :: r) σ
    | _ => none
  | _ => none := rfl
theorem e_iast {α : Type} (k : zK α) (ls : zL) (st : List Value) (σ : zS) : q_iast k ls st σ = match st with
  | .int x :: .int i :: .ref a :: r => match z_lay σ a with
    | some (.inl (0, n)) => if i < 0 ∨ n ≤ i.toNatClampNeg then none else k ls r (z_stI σ a i.toNatClampNeg x)
    | _ => none
  | _ => none := rfl
theorem e_bast {α : Type} (k : zK α) (ls : zL) (st : List Value) (σ : zS) : q_bast k ls st σ = match st with
  | .int x :: .int i :: .ref a :: r => match z_lay σ a with
    | some (.inl (1, n)) => if i < 0 ∨ n ≤ i.toNatClampNeg then none else k ls r (z_stI σ a i.toNatClampNeg (vp_nar .byte x))
    | _ => none
  | _ => none := rfl
theorem e_zast {α : Type} (k : zK α) (ls : zL) (st : List Value) (σ : zS) : q_zast k ls st σ = match st with
  | .int x :: .int i :: .ref a :: r => match z_lay σ a with
    | some (.inl (2, n)) => if i < 0 ∨ n ≤ i.toNatClampNeg then none else if x = 0 ∨ x = 1 then k ls r (z_stI σ a i.toNatClampNeg x) else none
    | _ => none
  | _ => none := rfl
theorem e_last {α : Type} (k : zK α) (ls : zL) (st : List Value) (σ : zS) : q_last k ls st σ = match st with
  | .long x :: .int i :: .ref a :: r => match z_lay σ a with
    | some (.inl (3, n)) => if i < 0 ∨ n ≤ i.toNatClampNeg then none else k ls r (z_stL σ a i.toNatClampNeg x)
    | _ => none
  | _ => none := rfl
theorem e_aast {α : Type} (k : zK α) (ls : zL) (st : List Value) (σ : zS) : q_aast k ls st σ = match st with
  | .ref x :: .int i :: .ref a :: r => match z_lay σ a with
    | some (.inl (4, n)) => if i < 0 ∨ n ≤ i.toNatClampNeg then none else if z_lay σ x = some (.inr 1) then k ls r (z_stR σ a i.toNatClampNeg (some x)) else none
    | _ => none
  | _ => none := rfl
theorem e_iret (w0 : zL) (st : List Value) (σ : zS) : q_iret w0 st σ = match st with
  | [.int v] => some (some (.int v), σ)
  | _ => none := rfl
theorem e_zret (w0 : zL) (st : List Value) (σ : zS) : q_zret w0 st σ = match st with
  | [.int v] => if v = 0 ∨ v = 1 then some (some (.int v), σ) else none
  | _ => none := rfl
theorem e_lret (w0 : zL) (st : List Value) (σ : zS) : q_lret w0 st σ = match st with
  | [.long v] => some (some (.long v), σ)
  | _ => none := rfl
theorem e_vret (w0 : zL) (st : List Value) (σ : zS) : q_vret w0 st σ = match st with
  | [] => some (none, σ)
  | _ => none := rfl
theorem e_obj {α : Type} (k : zK α) (ls : zL) (st : List Value) (σ : zS) : q_obj k ls st σ = match st with
  | .ref _ :: r => if r.length ≤ 4 then k ls r σ else none
  | _ => none := rfl
theorem e_callV {α : Type} (ci : Nat) (G : zF) (n : Nat) (k : zK α) (ls : zL) (st : List Value) (σ : zS) : q_callV ci G n k ls st σ = match z_pop n [] st with
  | some (as, .ref b :: r) => if z_lay σ b = some (.inr ci) ∧ r.length ≤ 4 then match G (.ref b :: as) σ with
      | some q => if z_sz q.2 = z_sz σ then k ls (q.1.toList ++ r) q.2 else none
      | none => none
    else none
  | _ => none := rfl
theorem e_callS {α : Type} (G : zF) (n : Nat) (k : zK α) (ls : zL) (st : List Value) (σ : zS) : q_callS G n k ls st σ = match z_pop n [] st with
  | some (as, r) => if r.length ≤ 4 then match G as σ with
      | some q => if z_sz q.2 = z_sz σ then k ls (q.1.toList ++ r) q.2 else none
      | none => none
    else none
  | none => none := rfl
theorem e_callT {α : Type} (G : zF) (n : Nat) (k : zK α) (ls : zL) (st : List Value) (σ : zS) : q_callT G n k ls st σ = match z_pop n [] st with
  | some (as, .ref b :: r) => if (b = z_str σ 0 ∨ b = z_str σ 1) ∧ r.length ≤ 4 then match G (.ref b :: as) σ with
      | some q => if z_sz q.2 = z_sz σ then k ls (q.1.toList ++ r) q.2 else none
      | none => none
    else none
  | _ => none := rfl
theorem e_acpy {α : Type} (k : zK α) (ls : zL) (st : List Value) (σ : zS) : q_acpy k ls st σ = match st with
  | .int n :: .int dp :: .ref a :: .int sp :: .ref a0 :: r => match z_lay σ a0, z_lay σ a with
    | some (.inl (0, n0)), some (.inl (0, n1)) => if ¬ sp < 0 ∧ ¬ dp < 0 ∧ ¬ n < 0 ∧ sp.toNatClampNeg + n.toNatClampNeg ≤ n0 ∧ dp.toNatClampNeg + n.toNatClampNeg ≤ n1 ∧ r.length ≤ 4 then k ls r (z_cpyS σ a0 a sp.toNatClampNeg dp.toNatClampNeg n.toNatClampNeg) else none
    | _, _ => none
  | _ => none := rfl
theorem e_ldcS {α : Type} (i : Nat) (k : zK α) (ls : zL) (st : List Value) (σ : zS) : q_ldcS i k ls st σ = k ls (.ref (z_str σ i) :: st) σ := rfl
theorem e_dn {α β : Type} (k : zK α) (ls : zL) (st : List Value) (σ : zS) : q_dn (β := β) k ls st σ = (k ls st σ).map .inr := rfl
theorem e_ag {α : Type} (ls : zL) (st : List Value) (σ : zS) : q_ag (α := α) ls st σ = match st with
  | [] => some (.inl (ls, σ))
  | _ => none := rfl
