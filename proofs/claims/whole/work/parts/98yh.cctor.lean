/-! the constructor of the class -/
theorem c_mem {I J : Nat → Nat → Int32} {L : Nat → Nat → Int64} {B n m s : Nat} {l l' : Nat → Option zT} {r r' : Nat → Nat → Option Nat} {sA : Nat → Nat} {G : zF} {c f lim : Nat} {k : zK zR} (hI : frI I s) (hL : frL L s) (hs : s ≤ B + n) (hl : B + (n + 1 + m) ≤ lim) (hG : G [.ref (B + n)] (I, L, zz B (n + 1) (lzN l n (.inr c)) (rzN r n) sA) = some (none, (J, L, zz B (n + 1 + m) l' r' sA))) (h0 : l' 0 = some (.inr 11)) : q_new c lim (q_dup (q_ctor G 0 m lim (q_putR 11 f k))) [some (Value.ref ((B + 0)))] [.ref (B + 0)] (I, L, zz B n l r sA) = k [some (Value.ref ((B + 0)))] [] (J, L, zz B (n + 1 + m) l' (rzU r' 0 f n) sA) := by
  have e : B + n + 1 + m ≤ lim := by omega
  have e2 : B + n + 1 + m = B + (n + 1 + m) := by omega
  have e3 : B + n + 1 ≤ lim := by omega
  rw [c_new hI hL c lim _ _ _ hs e3]
  show q_ctor G 0 m lim (q_putR 11 f k) [some (Value.ref ((B + 0)))] [.ref (B + n), .ref (B + n), .ref (B + 0)] _ = _
  rw [e_ctor]
  show (if B + (n + 1) + m ≤ lim ∧ ([Value.ref (B + n), .ref (B + 0)] : List Value).length ≤ 4 then (match G [.ref (B + n)] (I, L, zz B (n + 1) (lzN l n (.inr c)) (rzN r n) sA) with
      | some q => if z_sz q.2 = B + (n + 1) + m then q_putR 11 f k [some (Value.ref ((B + 0)))] (q.1.toList ++ [.ref (B + n), .ref (B + 0)]) q.2 else none
      | none => none) else none) = _
  rw [if_pos ⟨by omega, (by show 2 ≤ 4; decide)⟩, hG]
  show (if B + (n + 1 + m) = B + (n + 1) + m then q_putR 11 f k [some (Value.ref ((B + 0)))] [.ref (B + n), .ref (B + 0)] (J, L, zz B (n + 1 + m) l' r' sA) else none) = _
  rw [if_pos (by omega), c_putR, if_pos h0]
theorem c_arr {I : Nat → Nat → Int32} {L : Nat → Nat → Int64} {B n m s a ci : Nat} {l : Nat → Option zT} {r : Nat → Nat → Option Nat} {sA : Nat → Nat} {t f lim mx : Nat} {k : zK zR} (hI : frI I s) (hL : frL L s) (hs : s ≤ B + n) (hl : B + (n + 1) ≤ lim) (hm : m ≤ mx) (hm2 : m < 100000) (ha : a < n) (h0 : l a = some (.inr ci)) : q_newa t mx lim (q_putR ci f k) [some (Value.ref ((B + a)))] [.int (nI m), .ref (B + a)] (I, L, zz B n l r sA) = k [some (Value.ref ((B + a)))] [] (I, L, zz B (n + 1) (lzN l n (.inl (t, m))) (rzU (rzN r n) a f n) sA) := by
  rw [c_newa hI hL t mx lim m _ _ _ hs hl hm hm2, c_putR, if_pos (by rw [lzN_ne (by omega)]; exact h0)]
def oL0 : Nat → Option zT := lzN (fun _ => none) 0 (.inr 11)
def oR0 : Nat → Nat → Option Nat := rzN (fun _ _ => none) 0
def oL1 : Nat → Option zT := (lzN (lzN oL0 1 (.inr 6)) 2 (.inl (1, 2000)))
def oS1 : Nat → Nat → Option Nat := (rzU (rzN (rzN oR0 1) 2) 1 0 2)
def oR1 : Nat → Nat → Option Nat := rzU oS1 0 0 1
def oL2 : Nat → Option zT := tL (lzN oL1 3 (.inr 7)) 3
def oS2 : Nat → Nat → Option Nat := tR (rzN oR1 3) 3
def oR2 : Nat → Nat → Option Nat := rzU oS2 0 1 3
def oL3 : Nat → Option zT := tL (lzN oL2 18 (.inr 7)) 18
def oS3 : Nat → Nat → Option Nat := tR (rzN oR2 18) 18
def oR3 : Nat → Nat → Option Nat := rzU oS3 0 2 18
def oL4 : Nat → Option zT := (lzN (lzN (lzN oL3 33 (.inr 1)) 34 (.inl (0, 4))) 35 (.inl (0, 32)))
def oS4 : Nat → Nat → Option Nat := (rzU (rzN (rzU (rzN (rzN oR3 33) 34) 33 3 34) 35) 33 4 35)
def oR4 : Nat → Nat → Option Nat := rzU oS4 0 4 33
def oL5 : Nat → Option zT := (lzN (lzN (lzN oL4 36 (.inr 1)) 37 (.inl (0, 4))) 38 (.inl (0, 32)))
def oS5 : Nat → Nat → Option Nat := (rzU (rzN (rzU (rzN (rzN oR4 36) 37) 36 3 37) 38) 36 4 38)
def oR5 : Nat → Nat → Option Nat := rzU oS5 0 5 36
def oL6 : Nat → Option zT := lzN oL5 39 (.inl (0, 8))
def oR6 : Nat → Nat → Option Nat := rzU (rzN oR5 39) 0 6 39
def oL7 : Nat → Option zT := (lzN (lzN oL6 40 (.inr 2)) 41 (.inl (0, 9)))
def oS7 : Nat → Nat → Option Nat := (rzU (rzN (rzN oR6 40) 41) 40 0 41)
def oR7 : Nat → Nat → Option Nat := rzU oS7 0 7 40
def oL8 : Nat → Option zT := (lzN (lzN (lzN oL7 42 (.inr 10)) 43 (.inl (0, 64))) 44 (.inl (0, 36)))
def oS8 : Nat → Nat → Option Nat := (rzU (rzN (rzU (rzN (rzN oR7 42) 43) 42 1 43) 44) 42 2 44)
def oR8 : Nat → Nat → Option Nat := rzU oS8 0 8 42
def oL9 : Nat → Option zT := (mL (mL (lzN (lzN (lzN (lzN oL8 45 (.inr 3)) 46 (.inl (4, 40))) 47 (.inl (4, 3))) 48 (.inl (2, 3))) 49 40) 169 3)
def oS9 : Nat → Nat → Option Nat := (mR (mR (rzU (rzN (rzU (rzN (rzU (rzN (rzN oR8 45) 46) 45 2 46) 47) 45 3 47) 48) 45 4 48) 49 46 40) 169 47 3)
def oR9 : Nat → Nat → Option Nat := rzU oS9 0 9 45
def oL10 : Nat → Option zT := (lzN (lzN (lzN (lzN (lzN (lzN (lzN (lzN oL9 178 (.inr 0)) 179 (.inr 10)) 180 (.inl (0, 64))) 181 (.inl (0, 36))) 182 (.inl (2, 9))) 183 (.inl (0, 36))) 184 (.inl (0, 36))) 185 (.inl (0, 36)))
def oS10 : Nat → Nat → Option Nat := (rzU (rzN (rzU (rzN (rzU (rzN (rzU (rzN (rzU (rzU (rzN (rzU (rzN (rzN (rzN oR9 178) 179) 180) 179 1 180) 181) 179 2 181) 178 0 179) 182) 178 1 182) 183) 178 2 183) 184) 178 3 184) 185) 178 4 185)
def oR10 : Nat → Nat → Option Nat := rzU oS10 0 10 178
def oL11 : Nat → Option zT := (lzN (lzN (lzN (lzN (lzN oL10 186 (.inr 4)) 187 (.inr 10)) 188 (.inl (0, 64))) 189 (.inl (0, 36))) 190 (.inl (0, 32)))
def oS11 : Nat → Nat → Option Nat := (rzU (rzN (rzU (rzU (rzN (rzU (rzN (rzN (rzN oR10 186) 187) 188) 187 1 188) 189) 187 2 189) 186 0 187) 190) 186 1 190)
def oR11 : Nat → Nat → Option Nat := rzU oS11 0 11 186
def oL12 : Nat → Option zT := (lzN (lzN (lzN (lzN (lzN (lzN (lzN (lzN (lzN oL11 191 (.inr 9)) 192 (.inl (0, 20))) 193 (.inl (0, 20))) 194 (.inl (0, 20))) 195 (.inl (2, 20))) 196 (.inr 10)) 197 (.inl (0, 64))) 198 (.inl (0, 36))) 199 (.inl (0, 144)))
def oS12 : Nat → Nat → Option Nat := (rzU (rzN (rzU (rzU (rzN (rzU (rzN (rzN (rzU (rzN (rzU (rzN (rzU (rzN (rzU (rzN (rzN oR11 191) 192) 191 3 192) 193) 191 4 193) 194) 191 5 194) 195) 191 6 195) 196) 197) 196 1 197) 198) 196 2 198) 191 7 196) 199) 191 8 199)
def oR12 : Nat → Nat → Option Nat := rzU oS12 0 12 191
def oLF : Nat → Option zT := oL12
def oRF : Nat → Nat → Option Nat := oR12
def c11J (J : Nat → Nat → Int32) (B : Nat) : Prop := J B 3 = nM1 ∧ J (B + 3) 5 = nI 0 ∧ J (B + 8) 0 = nI 2 ∧ (∀ k, k < 16 → J (B + 9) k = nI (gpV (fun _ => 0) 2 k)) ∧ (∀ k, k < 4 → J (B + 16) k = nM1) ∧ (∀ q k, (q = B + 1 ∨ q = B + 2 ∨ q = B + 4 ∨ B + 33 ≤ q) → J q k = 0)
theorem c_pI {I : Nat → Nat → Int32} {L : Nat → Nat → Int64} {B n a ci f : Nat} {l : Nat → Option zT} {r : Nat → Nat → Option Nat} {sA : Nat → Nat} {k : zK zR} {ls : zL} {v : Int32} (h0 : l a = some (.inr ci)) : q_putI ci f k ls [.int v, .ref (B + a)] (I, L, zz B n l r sA) = k ls [] (z_up I (B + a) f v, L, zz B n l r sA) := by
  show (if z_lay (I, L, zz B n l r sA) (B + a) = some (.inr ci) then k ls [] (z_stI (I, L, zz B n l r sA) (B + a) f v) else none) = _
  rw [if_pos (show z_lay (I, L, zz B n l r sA) (B + a) = _ from zz_l.trans h0)]
  rfl
theorem c11C {I J1 J2 : Nat → Nat → Int32} {L : Nat → Nat → Int64} {B : Nat} {sA : Nat → Nat} (f0 : frI I (B + 1)) (g0 : frL L (B + 1)) (f1 : frI J1 (B + 18)) (g1 : frL L (B + 18)) (f3 : frI (z_up J2 (B + 0) 3 nM1) (B + 33)) (g2 : frL L (B + 33)) (h1 : fX6_init [.ref (B + 1)] (I, L, zz B 2 (lzN oL0 1 (.inr 6)) (rzN oR0 1) sA) = some (none, (I, L, zz B 3 oL1 oS1 sA))) (h2 : fX7_init [.ref (B + 3)] (I, L, zz B 4 (lzN oL1 3 (.inr 7)) (rzN oR1 3) sA) = some (none, (J1, L, zz B 18 oL2 oS2 sA))) (h3 : fX7_init [.ref (B + 18)] (J1, L, zz B 19 (lzN oL2 18 (.inr 7)) (rzN oR2 18) sA) = some (none, (J2, L, zz B 33 oL3 oS3 sA))) (h4 : fX1_init [.ref (B + 33)] ((z_up J2 (B + 0) 3 nM1), L, zz B 34 (lzN oL3 33 (.inr 1)) (rzN oR3 33) sA) = some (none, ((z_up J2 (B + 0) 3 nM1), L, zz B 36 oL4 oS4 sA))) (h5 : fX1_init [.ref (B + 36)] ((z_up J2 (B + 0) 3 nM1), L, zz B 37 (lzN oL4 36 (.inr 1)) (rzN oR4 36) sA) = some (none, ((z_up J2 (B + 0) 3 nM1), L, zz B 39 oL5 oS5 sA))) (h7 : fX2_init [.ref (B + 40)] ((z_up J2 (B + 0) 3 nM1), L, zz B 41 (lzN oL6 40 (.inr 2)) (rzN oR6 40) sA) = some (none, ((z_up J2 (B + 0) 3 nM1), L, zz B 42 oL7 oS7 sA))) (h8 : fX10_init [.ref (B + 42)] ((z_up J2 (B + 0) 3 nM1), L, zz B 43 (lzN oL7 42 (.inr 10)) (rzN oR7 42) sA) = some (none, ((z_up J2 (B + 0) 3 nM1), L, zz B 45 oL8 oS8 sA))) (h9 : fX3_init [.ref (B + 45)] ((z_up J2 (B + 0) 3 nM1), L, zz B 46 (lzN oL8 45 (.inr 3)) (rzN oR8 45) sA) = some (none, ((z_up J2 (B + 0) 3 nM1), L, zz B 178 oL9 oS9 sA))) (h10 : fX0_init [.ref (B + 178)] ((z_up J2 (B + 0) 3 nM1), L, zz B 179 (lzN oL9 178 (.inr 0)) (rzN oR9 178) sA) = some (none, ((z_up J2 (B + 0) 3 nM1), L, zz B 186 oL10 oS10 sA))) (h11 : fX4_init [.ref (B + 186)] ((z_up J2 (B + 0) 3 nM1), L, zz B 187 (lzN oL10 186 (.inr 4)) (rzN oR10 186) sA) = some (none, ((z_up J2 (B + 0) 3 nM1), L, zz B 191 oL11 oS11 sA))) (h12 : fX9_init [.ref (B + 191)] ((z_up J2 (B + 0) 3 nM1), L, zz B 192 (lzN oL11 191 (.inr 9)) (rzN oR11 191) sA) = some (none, ((z_up J2 (B + 0) 3 nM1), L, zz B 200 oL12 oS12 sA))) : fX11_init [.ref (B + 0)] (I, L, zz B 1 oL0 oR0 sA) = some (none, ((z_up J2 (B + 0) 3 nM1), L, zz B 200 oLF oRF sA)) := by
  show kX11_init_0 (B + 1 + 199) [some (Value.ref ((B + 0)))] [] (I, L, zz B 1 oL0 oR0 sA) = _
  unfold kX11_init_0
  refine (c_mem (n := 1) (m := 1) (l := oL0) (r := oR0) (l' := oL1) (r' := oS1) (sA := sA) f0 g0 (by omega) (by omega) h1 (by decide +kernel)).trans ?_
  refine (c_mem (n := 3) (m := 14) (l := oL1) (r := oR1) (l' := oL2) (r' := oS2) (sA := sA) f0 g0 (by omega) (by omega) h2 (by decide +kernel)).trans ?_
  refine (c_mem (n := 18) (m := 14) (l := oL2) (r := oR2) (l' := oL3) (r' := oS3) (sA := sA) f1 g1 (by omega) (by omega) h3 (by decide +kernel)).trans ?_
  refine (c_pI (n := 33) (a := 0) (ci := 11) (v := nM1) (l := oL3) (r := oR3) (sA := sA) (by decide +kernel)).trans ?_
  refine (c_mem (n := 33) (m := 2) (l := oL3) (r := oR3) (l' := oL4) (r' := oS4) (sA := sA) f3 g2 (by omega) (by omega) h4 (by decide +kernel)).trans ?_
  refine (c_mem (n := 36) (m := 2) (l := oL4) (r := oR4) (l' := oL5) (r' := oS5) (sA := sA) f3 g2 (by omega) (by omega) h5 (by decide +kernel)).trans ?_
  refine (c_arr (n := 39) (m := 8) (a := 0) (ci := 11) (l := oL5) (r := oR5) (sA := sA) f3 g2 (by omega) (by omega) (by decide) (by decide) (by decide) (by decide +kernel)).trans ?_
  refine (c_mem (n := 40) (m := 1) (l := oL6) (r := oR6) (l' := oL7) (r' := oS7) (sA := sA) f3 g2 (by omega) (by omega) h7 (by decide +kernel)).trans ?_
  refine (c_mem (n := 42) (m := 2) (l := oL7) (r := oR7) (l' := oL8) (r' := oS8) (sA := sA) f3 g2 (by omega) (by omega) h8 (by decide +kernel)).trans ?_
  unfold kX11_init_95
  refine (c_mem (n := 45) (m := 132) (l := oL8) (r := oR8) (l' := oL9) (r' := oS9) (sA := sA) f3 g2 (by omega) (by omega) h9 (by decide +kernel)).trans ?_
  refine (c_mem (n := 178) (m := 7) (l := oL9) (r := oR9) (l' := oL10) (r' := oS10) (sA := sA) f3 g2 (by omega) (by omega) h10 (by decide +kernel)).trans ?_
  refine (c_mem (n := 186) (m := 4) (l := oL10) (r := oR10) (l' := oL11) (r' := oS11) (sA := sA) f3 g2 (by omega) (by omega) h11 (by decide +kernel)).trans ?_
  refine (c_mem (n := 191) (m := 8) (l := oL11) (r := oR11) (l' := oL12) (r' := oS12) (sA := sA) f3 g2 (by omega) (by omega) h12 (by decide +kernel)).trans ?_
  rfl
theorem p_init11 {I : Nat → Nat → Int32} {L : Nat → Nat → Int64} {B : Nat} {sA : Nat → Nat} (z0 : ∀ a k, I a k = 0) (g0 : frL L (B + 1)) : ∃ J, fX11_init [.ref (B + 0)] (I, L, zz B 1 oL0 oR0 sA) = some (none, (J, L, zz B 200 oLF oRF sA)) ∧ c11J J B := by
  have f0 : frI I (B + 1) := fun a k _ => z0 a k
  have h1 : fX6_init [.ref (B + 1)] (I, L, zz B 2 (lzN oL0 1 (.inr 6)) (rzN oR0 1) sA) = some (none, (I, L, zz B 3 oL1 oS1 sA)) := p_init6 (sA := sA) (B := B) (a := 1) (n := 2) (l := lzN oL0 1 (.inr 6)) (r := rzN oR0 1) f0 g0 (by omega) (by omega) (by decide +kernel)
  obtain ⟨J1, h2, j11, j12, j13, j14, j15, j16⟩ := p_init7 (sA := sA) (B := B) (a := 3) (l := lzN oL1 3 (.inr 7)) (r := rzN oR1 3) f0 g0 (by omega) (by decide +kernel)
  have f1 : frI J1 (B + 18) := fun a k ha => by rw [j16 a (by omega) (by omega) (by omega) (by omega) (by omega) (by omega)]; exact f0 a k (by omega)
  have g1 : frL L (B + 18) := fun a k ha => g0 a k (by omega)
  obtain ⟨J2, h3, j21, j22, j23, j24, j25, j26⟩ := p_init7 (sA := sA) (B := B) (a := 18) (l := lzN oL2 18 (.inr 7)) (r := rzN oR2 18) f1 g1 (by omega) (by decide +kernel)
  have f2 : frI J2 (B + 33) := fun a k ha => by rw [j26 a (by omega) (by omega) (by omega) (by omega) (by omega) (by omega)]; exact f1 a k (by omega)
  have g2 : frL L (B + 33) := fun a k ha => g1 a k (by omega)
  have f3 : frI (z_up J2 (B + 0) 3 nM1) (B + 33) := fun a k ha => by rw [show z_up J2 (B + 0) 3 nM1 a k = J2 a k from if_neg (fun z => by omega)]; exact f2 a k ha
  have h4 : fX1_init [.ref (B + 33)] ((z_up J2 (B + 0) 3 nM1), L, zz B 34 (lzN oL3 33 (.inr 1)) (rzN oR3 33) sA) = some (none, ((z_up J2 (B + 0) 3 nM1), L, zz B 36 oL4 oS4 sA)) := p_init1 (sA := sA) (B := B) (a := 33) (n := 34) (l := lzN oL3 33 (.inr 1)) (r := rzN oR3 33) f3 g2 (by omega) (by omega) (by decide +kernel)
  have h5 : fX1_init [.ref (B + 36)] ((z_up J2 (B + 0) 3 nM1), L, zz B 37 (lzN oL4 36 (.inr 1)) (rzN oR4 36) sA) = some (none, ((z_up J2 (B + 0) 3 nM1), L, zz B 39 oL5 oS5 sA)) := p_init1 (sA := sA) (B := B) (a := 36) (n := 37) (l := lzN oL4 36 (.inr 1)) (r := rzN oR4 36) f3 g2 (by omega) (by omega) (by decide +kernel)
  have h7 : fX2_init [.ref (B + 40)] ((z_up J2 (B + 0) 3 nM1), L, zz B 41 (lzN oL6 40 (.inr 2)) (rzN oR6 40) sA) = some (none, ((z_up J2 (B + 0) 3 nM1), L, zz B 42 oL7 oS7 sA)) := p_init2 (sA := sA) (B := B) (a := 40) (n := 41) (l := lzN oL6 40 (.inr 2)) (r := rzN oR6 40) f3 g2 (by omega) (by omega) (by decide +kernel)
  have h8 : fX10_init [.ref (B + 42)] ((z_up J2 (B + 0) 3 nM1), L, zz B 43 (lzN oL7 42 (.inr 10)) (rzN oR7 42) sA) = some (none, ((z_up J2 (B + 0) 3 nM1), L, zz B 45 oL8 oS8 sA)) := p_init10 (sA := sA) (B := B) (a := 42) (n := 43) (l := lzN oL7 42 (.inr 10)) (r := rzN oR7 42) f3 g2 (by omega) (by omega) (by decide +kernel)
  have h9 : fX3_init [.ref (B + 45)] ((z_up J2 (B + 0) 3 nM1), L, zz B 46 (lzN oL8 45 (.inr 3)) (rzN oR8 45) sA) = some (none, ((z_up J2 (B + 0) 3 nM1), L, zz B 178 oL9 oS9 sA)) := p_init3 (sA := sA) (B := B) (a := 45) (n := 46) (l := lzN oL8 45 (.inr 3)) (r := rzN oR8 45) f3 g2 (by omega) (by omega) (by decide +kernel)
  have h10 : fX0_init [.ref (B + 178)] ((z_up J2 (B + 0) 3 nM1), L, zz B 179 (lzN oL9 178 (.inr 0)) (rzN oR9 178) sA) = some (none, ((z_up J2 (B + 0) 3 nM1), L, zz B 186 oL10 oS10 sA)) := p_init0 (sA := sA) (B := B) (a := 178) (n := 179) (l := lzN oL9 178 (.inr 0)) (r := rzN oR9 178) f3 g2 (by omega) (by omega) (by decide +kernel)
  have h11 : fX4_init [.ref (B + 186)] ((z_up J2 (B + 0) 3 nM1), L, zz B 187 (lzN oL10 186 (.inr 4)) (rzN oR10 186) sA) = some (none, ((z_up J2 (B + 0) 3 nM1), L, zz B 191 oL11 oS11 sA)) := p_init4 (sA := sA) (B := B) (a := 186) (n := 187) (l := lzN oL10 186 (.inr 4)) (r := rzN oR10 186) f3 g2 (by omega) (by omega) (by decide +kernel)
  have h12 : fX9_init [.ref (B + 191)] ((z_up J2 (B + 0) 3 nM1), L, zz B 192 (lzN oL11 191 (.inr 9)) (rzN oR11 191) sA) = some (none, ((z_up J2 (B + 0) 3 nM1), L, zz B 200 oL12 oS12 sA)) := p_init9 (sA := sA) (B := B) (a := 191) (n := 192) (l := lzN oL11 191 (.inr 9)) (r := rzN oR11 191) f3 g2 (by omega) (by omega) (by decide +kernel)
  refine ⟨z_up J2 (B + 0) 3 nM1, ?_, if_pos ⟨rfl, rfl⟩, ?_, ?_, fun k hk => ?_, fun k hk => ?_, fun q k hq => ?_⟩
  · exact c11C f0 g0 f1 g1 f3 g2 h1 h2 h3 h4 h5 h7 h8 h9 h10 h11 h12
  · rw [show z_up J2 (B + 0) 3 nM1 (B + 3) 5 = J2 (B + 3) 5 from if_neg (fun z => by omega), j26 _ (by omega) (by omega) (by omega) (by omega) (by omega) (by omega)]; exact j12
  · rw [show z_up J2 (B + 0) 3 nM1 (B + 8) 0 = J2 (B + 8) 0 from if_neg (fun z => by omega), j26 _ (by omega) (by omega) (by omega) (by omega) (by omega) (by omega)]; exact j13
  · rw [show z_up J2 (B + 0) 3 nM1 (B + 9) k = J2 (B + 9) k from if_neg (fun z => by omega), j26 _ (by omega) (by omega) (by omega) (by omega) (by omega) (by omega)]; exact j14 k hk
  · rw [show z_up J2 (B + 0) 3 nM1 (B + 16) k = J2 (B + 16) k from if_neg (fun z => by omega), j26 _ (by omega) (by omega) (by omega) (by omega) (by omega) (by omega)]; exact j15 k hk
  · rw [show z_up J2 (B + 0) 3 nM1 q k = J2 q k from if_neg (fun z => by omega), j26 _ (by omega) (by omega) (by omega) (by omega) (by omega) (by omega), j16 _ (by omega) (by omega) (by omega) (by omega) (by omega) (by omega)]; exact z0 q k
