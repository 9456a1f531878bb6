/-! ===== RowChildren$Triangle.<init> ===== -/
theorem dX10_init_0 : decode cX10_init 0 = .ok (.aload_n 0, 1) := by decide +kernel
theorem dX10_init_1 : decode cX10_init 1 = .ok (.invokespecial 3, 3) := by decide +kernel
theorem dX10_init_4 : decode cX10_init 4 = .ok (.aload_n 0, 1) := by decide +kernel
theorem dX10_init_5 : decode cX10_init 5 = .ok (.bipush 64, 2) := by decide +kernel
theorem dX10_init_7 : decode cX10_init 7 = .ok (.newarray .int, 2) := by decide +kernel
theorem dX10_init_9 : decode cX10_init 9 = .ok (.putfield 9, 3) := by decide +kernel
theorem dX10_init_12 : decode cX10_init 12 = .ok (.aload_n 0, 1) := by decide +kernel
theorem dX10_init_13 : decode cX10_init 13 = .ok (.bipush 36, 2) := by decide +kernel
theorem dX10_init_15 : decode cX10_init 15 = .ok (.newarray .int, 2) := by decide +kernel
theorem dX10_init_17 : decode cX10_init 17 = .ok (.putfield 15, 3) := by decide +kernel
theorem dX10_init_20 : decode cX10_init 20 = .ok (.return_, 1) := by decide +kernel
def xX10_init : zX := (RX10, cX10_init, 1, none, true, { frames := 1, cells := 2, slots := 4096, locals := 90 }, 2, 2048, 0, 0)
theorem rmX10_init : z_Rm xX10_init := by unfold z_Rm xX10_init; exact ⟨by decide, by decide⟩
theorem reX10_init : z_Re xX10_init := ⟨rfl, rfl⟩
theorem rlX10_init : 1 ≤ xX10_init.2.2.2.2.2.1.frames ∧ 21 ≤ xX10_init.2.2.2.2.2.1.locals := by unfold xX10_init; exact ⟨by decide, by decide⟩
theorem meX10_init : z_Me yX10_init xX10_init 0 := ⟨wd6, wd7, by decide, by decide, by decide +kernel⟩
noncomputable def kX10_init_0 (lim : Nat) : zK zR := (q_aload 0 (q_obj (q_aload 0 (q_push 64 (q_newa 0 2048 lim (q_putR 10 1 (q_aload 0 (q_push 36 (q_newa 0 2048 lim (q_putR 10 2 q_vret))))))))))
set_option maxRecDepth 100000 in
theorem tX10_init_0 {l : Launch} {D : zD} {B sz0 : Nat} {post : Option Value → zS → Prop} : zSnd l D B xX10_init sz0 post 0 (kX10_init_0 (sz0 + 2)) (z_Jr post) := (s_aload_n dX10_init_0 rfl (s_obj dX10_init_1 wd0 wd1 wd2 (by decide) (s_aload_n dX10_init_4 rfl (s_bipush dX10_init_5 (by decide) (s_newa (t := 0) dX10_init_7 (by decide) rfl wd3 rmX10_init rfl (by decide) rfl (s_putRF (f := 1) dX10_init_9 clX10 (by decide) rfl rfl rfl rfl (Or.inr ⟨_, rfl⟩) wd4 (s_aload_n dX10_init_12 rfl (s_bipush dX10_init_13 (by decide) (s_newa (t := 0) dX10_init_15 (by decide) rfl wd3 rmX10_init rfl (by decide) rfl (s_putRF (f := 2) dX10_init_17 clX10 (by decide) rfl rfl rfl rfl (Or.inr ⟨_, rfl⟩) wd5 (s_vret dX10_init_20 rfl)))))))))))
noncomputable def fX10_init : zF := fun as σ => z_fn 1 (kX10_init_0 (z_sz σ + 2)) as σ
theorem mX10_init {l : Launch} {D : zD} {B : Nat} : z_MF l D B yX10_init xX10_init fX10_init := z_mf (by decide) rfl (fun _ => rfl) rfl (fun as σ r h => ⟨z_fn_len h, kX10_init_0 (z_sz σ + 2), z_fn_run h, fun _ => tX10_init_0⟩)
/-! ===== RowChildren$Census.<init> ===== -/
theorem dX0_init_0 : decode cX0_init 0 = .ok (.aload_n 0, 1) := by decide +kernel
theorem dX0_init_1 : decode cX0_init 1 = .ok (.invokespecial 3, 3) := by decide +kernel
theorem dX0_init_4 : decode cX0_init 4 = .ok (.aload_n 0, 1) := by decide +kernel
theorem dX0_init_5 : decode cX0_init 5 = .ok (.new 9, 3) := by decide +kernel
theorem dX0_init_8 : decode cX0_init 8 = .ok (.dup, 1) := by decide +kernel
theorem dX0_init_9 : decode cX0_init 9 = .ok (.invokespecial 11, 3) := by decide +kernel
theorem dX0_init_12 : decode cX0_init 12 = .ok (.putfield 12, 3) := by decide +kernel
theorem dX0_init_15 : decode cX0_init 15 = .ok (.aload_n 0, 1) := by decide +kernel
theorem dX0_init_16 : decode cX0_init 16 = .ok (.bipush 9, 2) := by decide +kernel
theorem dX0_init_18 : decode cX0_init 18 = .ok (.newarray .boolean, 2) := by decide +kernel
theorem dX0_init_20 : decode cX0_init 20 = .ok (.putfield 18, 3) := by decide +kernel
theorem dX0_init_23 : decode cX0_init 23 = .ok (.aload_n 0, 1) := by decide +kernel
theorem dX0_init_24 : decode cX0_init 24 = .ok (.bipush 36, 2) := by decide +kernel
theorem dX0_init_26 : decode cX0_init 26 = .ok (.newarray .int, 2) := by decide +kernel
theorem dX0_init_28 : decode cX0_init 28 = .ok (.putfield 22, 3) := by decide +kernel
theorem dX0_init_31 : decode cX0_init 31 = .ok (.aload_n 0, 1) := by decide +kernel
theorem dX0_init_32 : decode cX0_init 32 = .ok (.bipush 36, 2) := by decide +kernel
theorem dX0_init_34 : decode cX0_init 34 = .ok (.newarray .int, 2) := by decide +kernel
theorem dX0_init_36 : decode cX0_init 36 = .ok (.putfield 26, 3) := by decide +kernel
theorem dX0_init_39 : decode cX0_init 39 = .ok (.aload_n 0, 1) := by decide +kernel
theorem dX0_init_40 : decode cX0_init 40 = .ok (.bipush 36, 2) := by decide +kernel
theorem dX0_init_42 : decode cX0_init 42 = .ok (.newarray .int, 2) := by decide +kernel
theorem dX0_init_44 : decode cX0_init 44 = .ok (.putfield 29, 3) := by decide +kernel
theorem dX0_init_47 : decode cX0_init 47 = .ok (.return_, 1) := by decide +kernel
def xX0_init : zX := (RX0, cX0_init, 1, none, true, { frames := 2, cells := 7, slots := 14336, locals := 110 }, 7, 2048, 0, 0)
theorem rmX0_init : z_Rm xX0_init := by unfold z_Rm xX0_init; exact ⟨by decide, by decide⟩
theorem reX0_init : z_Re xX0_init := ⟨rfl, rfl⟩
theorem rlX0_init : 1 ≤ xX0_init.2.2.2.2.2.1.frames ∧ 21 ≤ xX0_init.2.2.2.2.2.1.locals := by unfold xX0_init; exact ⟨by decide, by decide⟩
theorem meX0_init : z_Me yX0_init xX0_init 0 := ⟨wd18, wd19, by decide, by decide, by decide +kernel⟩
theorem fitX0_init_9 : z_Fit xX10_init xX0_init := by unfold z_Fit; simp only [xX10_init, xX0_init]; exact ⟨by decide, by decide⟩
noncomputable def kX0_init_0 (lim : Nat) : zK zR := (q_aload 0 (q_obj (q_aload 0 (q_new 10 lim (q_dup (q_ctor fX10_init 0 2 lim (q_putR 0 0 (q_aload 0 (q_push 9 (q_newa 2 2048 lim (q_putR 0 1 (q_aload 0 (q_push 36 (q_newa 0 2048 lim (q_putR 0 2 (q_aload 0 (q_push 36 (q_newa 0 2048 lim (q_putR 0 3 (q_aload 0 (q_push 36 (q_newa 0 2048 lim (q_putR 0 4 q_vret)))))))))))))))))))))))
set_option maxRecDepth 100000 in
theorem tX0_init_0 {l : Launch} {D : zD} {B sz0 : Nat} {post : Option Value → zS → Prop} : zSnd l D B xX0_init sz0 post 0 (kX0_init_0 (sz0 + 7)) (z_Jr post) := (s_aload_n dX0_init_0 rfl (s_obj dX0_init_1 wd8 wd1 wd2 (by decide) (s_aload_n dX0_init_4 rfl (s_new dX0_init_5 clX10 dfX10 wd9 wd10 wd7 rmX0_init (by decide) rfl (s_dup dX0_init_8 (s_ctorN (host := RX11) dX0_init_9 mX10_init meX10_init wd11 rfl rfl reX10_init rmX0_init (fitX0_init_9) rfl (by decide) rfl neX0_11 (s_putRF (f := 0) dX0_init_12 clX0 (by decide) rfl rfl rfl rfl (Or.inl ⟨_, rfl⟩) wd12 (s_aload_n dX0_init_15 rfl (s_bipush dX0_init_16 (by decide) (s_newa (t := 2) dX0_init_18 (by decide) rfl wd13 rmX0_init rfl (by decide) rfl (s_putRF (f := 1) dX0_init_20 clX0 (by decide) rfl rfl rfl rfl (Or.inr ⟨_, rfl⟩) wd14 (s_aload_n dX0_init_23 rfl (s_bipush dX0_init_24 (by decide) (s_newa (t := 0) dX0_init_26 (by decide) rfl wd3 rmX0_init rfl (by decide) rfl (s_putRF (f := 2) dX0_init_28 clX0 (by decide) rfl rfl rfl rfl (Or.inr ⟨_, rfl⟩) wd15 (s_aload_n dX0_init_31 rfl (s_bipush dX0_init_32 (by decide) (s_newa (t := 0) dX0_init_34 (by decide) rfl wd3 rmX0_init rfl (by decide) rfl (s_putRF (f := 3) dX0_init_36 clX0 (by decide) rfl rfl rfl rfl (Or.inr ⟨_, rfl⟩) wd16 (s_aload_n dX0_init_39 rfl (s_bipush dX0_init_40 (by decide) (s_newa (t := 0) dX0_init_42 (by decide) rfl wd3 rmX0_init rfl (by decide) rfl (s_putRF (f := 4) dX0_init_44 clX0 (by decide) rfl rfl rfl rfl (Or.inr ⟨_, rfl⟩) wd17 (s_vret dX0_init_47 rfl))))))))))))))))))))))))
noncomputable def fX0_init : zF := fun as σ => z_fn 1 (kX0_init_0 (z_sz σ + 7)) as σ
theorem mX0_init {l : Launch} {D : zD} {B : Nat} : z_MF l D B yX0_init xX0_init fX0_init := z_mf (by decide) rfl (fun _ => rfl) rfl (fun as σ r h => ⟨z_fn_len h, kX0_init_0 (z_sz σ + 7), z_fn_run h, fun _ => tX0_init_0⟩)
/-! ===== RowChildren$Census.clear ===== -/
theorem dX0_clear_0 : decode cX0_clear 0 = .ok (.iconst 0, 1) := by decide +kernel
theorem dX0_clear_1 : decode cX0_clear 1 = .ok (.istore_n 1, 1) := by decide +kernel
theorem dX0_clear_2 : decode cX0_clear 2 = .ok (.iload_n 1, 1) := by decide +kernel
theorem dX0_clear_3 : decode cX0_clear 3 = .ok (.bipush 8, 2) := by decide +kernel
theorem dX0_clear_5 : decode cX0_clear 5 = .ok (.if_icmp .gt 16, 3) := by decide +kernel
theorem dX0_clear_8 : decode cX0_clear 8 = .ok (.aload_n 0, 1) := by decide +kernel
theorem dX0_clear_9 : decode cX0_clear 9 = .ok (.getfield 18, 3) := by decide +kernel
theorem dX0_clear_12 : decode cX0_clear 12 = .ok (.iload_n 1, 1) := by decide +kernel
theorem dX0_clear_13 : decode cX0_clear 13 = .ok (.iconst 0, 1) := by decide +kernel
theorem dX0_clear_14 : decode cX0_clear 14 = .ok (.bastore, 1) := by decide +kernel
theorem dX0_clear_15 : decode cX0_clear 15 = .ok (.iinc 1 1, 3) := by decide +kernel
theorem dX0_clear_18 : decode cX0_clear 18 = .ok (.goto (-16), 3) := by decide +kernel
theorem dX0_clear_21 : decode cX0_clear 21 = .ok (.return_, 1) := by decide +kernel
def xX0_clear : zX := (RX0, cX0_clear, 2, none, false, { frames := 1, cells := 0, slots := 0, locals := 90 }, 0, 0, 0, 0)
theorem rmX0_clear : z_Rm xX0_clear := by unfold z_Rm xX0_clear; exact ⟨by decide, by decide⟩
theorem reX0_clear : z_Re xX0_clear := ⟨rfl, rfl⟩
theorem rlX0_clear : 1 ≤ xX0_clear.2.2.2.2.2.1.frames ∧ 21 ≤ xX0_clear.2.2.2.2.2.1.locals := by unfold xX0_clear; exact ⟨by decide, by decide⟩
theorem meX0_clear : z_Me yX0_clear xX0_clear 0 := ⟨wd20, wd19, by decide, by decide, by decide +kernel⟩
noncomputable def kX0_clear_21 : zK zR := q_vret
noncomputable def bX0_clear_2 : zK ((zL × zS) ⊕ zR) := (q_iload 1 (q_push 8 (q_icmp_gt (q_dn kX0_clear_21) (q_aload 0 (q_getR 0 1 (q_iload 1 (q_push 0 (q_zast (q_iinc 1 1 q_ag)))))))))
noncomputable def kX0_clear_2 : zK zR := q_lp (bX0_clear_2)
noncomputable def kX0_clear_0 : zK zR := (q_push 0 (q_istore 1 kX0_clear_2))
set_option maxRecDepth 100000 in
theorem tX0_clear_21 {l : Launch} {D : zD} {B sz0 : Nat} {post : Option Value → zS → Prop} : zSnd l D B xX0_clear sz0 post 21 kX0_clear_21 (z_Jr post) := (s_vret dX0_clear_21 rfl)
set_option maxRecDepth 100000 in
theorem tX0_clear_2 {l : Launch} {D : zD} {B sz0 : Nat} {post : Option Value → zS → Prop} : zSnd l D B xX0_clear sz0 post 2 kX0_clear_2 (z_Jr post) := s_lp (body := bX0_clear_2) (s_iload_n dX0_clear_2 rfl (s_bipush dX0_clear_3 (by decide) (s_icmp_gt (tgt := 21) dX0_clear_5 (by decide) (s_dn tX0_clear_21) (s_aload_n dX0_clear_8 rfl (s_getR (f := 1) dX0_clear_9 clX0 (by decide) rfl wd14 (s_iload_n dX0_clear_12 rfl (s_iconst dX0_clear_13 (by decide) (s_zast dX0_clear_14 (s_iinc dX0_clear_15 (by decide) (s_goto (tgt := 2) dX0_clear_18 (by decide) s_ag))))))))))
set_option maxRecDepth 100000 in
theorem tX0_clear_0 {l : Launch} {D : zD} {B sz0 : Nat} {post : Option Value → zS → Prop} : zSnd l D B xX0_clear sz0 post 0 kX0_clear_0 (z_Jr post) := (s_iconst dX0_clear_0 (by decide) (s_istore_n dX0_clear_1 rfl tX0_clear_2))
noncomputable def fX0_clear : zF := z_fn 2 kX0_clear_0
theorem mX0_clear {l : Launch} {D : zD} {B : Nat} : z_MF l D B yX0_clear xX0_clear fX0_clear := z_mf (by decide) rfl (fun h => by cases h) rfl (fun as σ r h => ⟨z_fn_len h, kX0_clear_0, z_fn_run h, fun _ => tX0_clear_0⟩)
/-! ===== RowChildren$Triangle.cell ===== -/
theorem dX10_cell_0 : decode cX10_cell 0 = .ok (.aload_n 0, 1) := by decide +kernel
theorem dX10_cell_1 : decode cX10_cell 1 = .ok (.getfield 9, 3) := by decide +kernel
theorem dX10_cell_4 : decode cX10_cell 4 = .ok (.iload_n 1, 1) := by decide +kernel
theorem dX10_cell_5 : decode cX10_cell 5 = .ok (.bipush 7, 2) := by decide +kernel
theorem dX10_cell_7 : decode cX10_cell 7 = .ok (.iand, 1) := by decide +kernel
theorem dX10_cell_8 : decode cX10_cell 8 = .ok (.bipush 8, 2) := by decide +kernel
theorem dX10_cell_10 : decode cX10_cell 10 = .ok (.imul, 1) := by decide +kernel
theorem dX10_cell_11 : decode cX10_cell 11 = .ok (.iload_n 2, 1) := by decide +kernel
theorem dX10_cell_12 : decode cX10_cell 12 = .ok (.bipush 7, 2) := by decide +kernel
theorem dX10_cell_14 : decode cX10_cell 14 = .ok (.iand, 1) := by decide +kernel
theorem dX10_cell_15 : decode cX10_cell 15 = .ok (.iadd, 1) := by decide +kernel
theorem dX10_cell_16 : decode cX10_cell 16 = .ok (.iaload, 1) := by decide +kernel
theorem dX10_cell_17 : decode cX10_cell 17 = .ok (.ireturn, 1) := by decide +kernel
def xX10_cell : zX := (RX10, cX10_cell, 3, (some .int), false, { frames := 1, cells := 0, slots := 0, locals := 90 }, 0, 0, 0, 0)
theorem rmX10_cell : z_Rm xX10_cell := by unfold z_Rm xX10_cell; exact ⟨by decide, by decide⟩
theorem reX10_cell : z_Re xX10_cell := ⟨rfl, rfl⟩
theorem rlX10_cell : 1 ≤ xX10_cell.2.2.2.2.2.1.frames ∧ 21 ≤ xX10_cell.2.2.2.2.2.1.locals := by unfold xX10_cell; exact ⟨by decide, by decide⟩
theorem meX10_cell : z_Me yX10_cell xX10_cell 2 := ⟨wd21, wd7, by decide, by decide, by decide +kernel⟩
noncomputable def kX10_cell_0 : zK zR := (q_aload 0 (q_getR 10 1 (q_iload 1 (q_push 7 (q_iand (q_push 8 (q_imul (q_iload 2 (q_push 7 (q_iand (q_iadd (q_iald q_iret))))))))))))
set_option maxRecDepth 100000 in
theorem tX10_cell_0 {l : Launch} {D : zD} {B sz0 : Nat} {post : Option Value → zS → Prop} : zSnd l D B xX10_cell sz0 post 0 kX10_cell_0 (z_Jr post) := (s_aload_n dX10_cell_0 rfl (s_getR (f := 1) dX10_cell_1 clX10 (by decide) rfl wd4 (s_iload_n dX10_cell_4 rfl (s_bipush dX10_cell_5 (by decide) (s_iand dX10_cell_7 (s_bipush dX10_cell_8 (by decide) (s_imul dX10_cell_10 (s_iload_n dX10_cell_11 rfl (s_bipush dX10_cell_12 (by decide) (s_iand dX10_cell_14 (s_iadd dX10_cell_15 (s_iald dX10_cell_16 (s_iret dX10_cell_17 rfl)))))))))))))
noncomputable def fX10_cell : zF := z_fn 3 kX10_cell_0
theorem mX10_cell {l : Launch} {D : zD} {B : Nat} : z_MF l D B yX10_cell xX10_cell fX10_cell := z_mf (by decide) rfl (fun h => by cases h) rfl (fun as σ r h => ⟨z_fn_len h, kX10_cell_0, z_fn_run h, fun _ => tX10_cell_0⟩)
/-! ===== RowChildren$Triangle.lastChild ===== -/
theorem dX10_lastChild_0 : decode cX10_lastChild 0 = .ok (.aload_n 0, 1) := by decide +kernel
theorem dX10_lastChild_1 : decode cX10_lastChild 1 = .ok (.aload_n 0, 1) := by decide +kernel
theorem dX10_lastChild_2 : decode cX10_lastChild 2 = .ok (.getfield 18, 3) := by decide +kernel
theorem dX10_lastChild_5 : decode cX10_lastChild 5 = .ok (.iconst 1, 1) := by decide +kernel
theorem dX10_lastChild_6 : decode cX10_lastChild 6 = .ok (.isub, 1) := by decide +kernel
theorem dX10_lastChild_7 : decode cX10_lastChild 7 = .ok (.iconst 0, 1) := by decide +kernel
theorem dX10_lastChild_8 : decode cX10_lastChild 8 = .ok (.invokevirtual 45, 3) := by decide +kernel
theorem dX10_lastChild_11 : decode cX10_lastChild 11 = .ok (.ireturn, 1) := by decide +kernel
def xX10_lastChild : zX := (RX10, cX10_lastChild, 1, (some .int), false, { frames := 2, cells := 0, slots := 0, locals := 112 }, 0, 0, 0, 0)
theorem rmX10_lastChild : z_Rm xX10_lastChild := by unfold z_Rm xX10_lastChild; exact ⟨by decide, by decide⟩
theorem reX10_lastChild : z_Re xX10_lastChild := ⟨rfl, rfl⟩
theorem rlX10_lastChild : 1 ≤ xX10_lastChild.2.2.2.2.2.1.frames ∧ 21 ≤ xX10_lastChild.2.2.2.2.2.1.locals := by unfold xX10_lastChild; exact ⟨by decide, by decide⟩
theorem meX10_lastChild : z_Me yX10_lastChild xX10_lastChild 0 := ⟨wd26, wd7, by decide, by decide, by decide +kernel⟩
theorem fitX10_lastChild_8 : z_Fit xX10_cell xX10_lastChild := by unfold z_Fit; simp only [xX10_cell, xX10_lastChild]; exact ⟨by decide, by decide⟩
noncomputable def kX10_lastChild_0 : zK zR := (q_aload 0 (q_aload 0 (q_getI 10 0 (q_push 1 (q_isub (q_push 0 (q_callV 10 fX10_cell 2 q_iret)))))))
set_option maxRecDepth 100000 in
theorem tX10_lastChild_0 {l : Launch} {D : zD} {B sz0 : Nat} {post : Option Value → zS → Prop} : zSnd l D B xX10_lastChild sz0 post 0 kX10_lastChild_0 (z_Jr post) := (s_aload_n dX10_lastChild_0 rfl (s_aload_n dX10_lastChild_1 rfl (s_getI (f := 0) dX10_lastChild_2 clX10 (by decide) rfl wd22 (s_iconst dX10_lastChild_5 (by decide) (s_isub dX10_lastChild_6 (s_iconst dX10_lastChild_7 (by decide) (s_callV (r := (RX10, TX10, 3)) dX10_lastChild_8 mX10_cell meX10_cell wd23 wd24 rfl rfl reX10_cell rmX10_lastChild (fitX10_lastChild_8) wd25 (s_iret dX10_lastChild_11 rfl))))))))
noncomputable def fX10_lastChild : zF := z_fn 1 kX10_lastChild_0
theorem mX10_lastChild {l : Launch} {D : zD} {B : Nat} : z_MF l D B yX10_lastChild xX10_lastChild fX10_lastChild := z_mf (by decide) rfl (fun h => by cases h) rfl (fun as σ r h => ⟨z_fn_len h, kX10_lastChild_0, z_fn_run h, fun _ => tX10_lastChild_0⟩)
/-! ===== RowChildren$Census.noteRow ===== -/
theorem dX0_noteRow_0 : decode cX0_noteRow 0 = .ok (.aload_n 0, 1) := by decide +kernel
theorem dX0_noteRow_1 : decode cX0_noteRow 1 = .ok (.getfield 12, 3) := by decide +kernel
theorem dX0_noteRow_4 : decode cX0_noteRow 4 = .ok (.invokevirtual 50, 3) := by decide +kernel
theorem dX0_noteRow_7 : decode cX0_noteRow 7 = .ok (.istore_n 3, 1) := by decide +kernel
theorem dX0_noteRow_8 : decode cX0_noteRow 8 = .ok (.iload_n 1, 1) := by decide +kernel
theorem dX0_noteRow_9 : decode cX0_noteRow 9 = .ok (.iconst 4, 1) := by decide +kernel
theorem dX0_noteRow_10 : decode cX0_noteRow 10 = .ok (.imul, 1) := by decide +kernel
theorem dX0_noteRow_11 : decode cX0_noteRow 11 = .ok (.iload_n 3, 1) := by decide +kernel
theorem dX0_noteRow_12 : decode cX0_noteRow 12 = .ok (.iadd, 1) := by decide +kernel
theorem dX0_noteRow_13 : decode cX0_noteRow 13 = .ok (.istore 4, 2) := by decide +kernel
theorem dX0_noteRow_15 : decode cX0_noteRow 15 = .ok (.aload_n 0, 1) := by decide +kernel
theorem dX0_noteRow_16 : decode cX0_noteRow 16 = .ok (.getfield 22, 3) := by decide +kernel
theorem dX0_noteRow_19 : decode cX0_noteRow 19 = .ok (.iload 4, 2) := by decide +kernel
theorem dX0_noteRow_21 : decode cX0_noteRow 21 = .ok (.dup2, 1) := by decide +kernel
theorem dX0_noteRow_22 : decode cX0_noteRow 22 = .ok (.iaload, 1) := by decide +kernel
theorem dX0_noteRow_23 : decode cX0_noteRow 23 = .ok (.iconst 1, 1) := by decide +kernel
theorem dX0_noteRow_24 : decode cX0_noteRow 24 = .ok (.iadd, 1) := by decide +kernel
theorem dX0_noteRow_25 : decode cX0_noteRow 25 = .ok (.iastore, 1) := by decide +kernel
theorem dX0_noteRow_26 : decode cX0_noteRow 26 = .ok (.aload_n 0, 1) := by decide +kernel
theorem dX0_noteRow_27 : decode cX0_noteRow 27 = .ok (.getfield 26, 3) := by decide +kernel
theorem dX0_noteRow_30 : decode cX0_noteRow 30 = .ok (.iload 4, 2) := by decide +kernel
theorem dX0_noteRow_32 : decode cX0_noteRow 32 = .ok (.iaload, 1) := by decide +kernel
theorem dX0_noteRow_33 : decode cX0_noteRow 33 = .ok (.bipush (-2), 2) := by decide +kernel
theorem dX0_noteRow_35 : decode cX0_noteRow 35 = .ok (.if_icmp .ne 11, 3) := by decide +kernel
theorem dX0_noteRow_38 : decode cX0_noteRow 38 = .ok (.aload_n 0, 1) := by decide +kernel
theorem dX0_noteRow_39 : decode cX0_noteRow 39 = .ok (.getfield 26, 3) := by decide +kernel
theorem dX0_noteRow_42 : decode cX0_noteRow 42 = .ok (.iload 4, 2) := by decide +kernel
theorem dX0_noteRow_44 : decode cX0_noteRow 44 = .ok (.iload_n 2, 1) := by decide +kernel
theorem dX0_noteRow_45 : decode cX0_noteRow 45 = .ok (.iastore, 1) := by decide +kernel
theorem dX0_noteRow_46 : decode cX0_noteRow 46 = .ok (.iconst 1, 1) := by decide +kernel
theorem dX0_noteRow_47 : decode cX0_noteRow 47 = .ok (.iload_n 3, 1) := by decide +kernel
theorem dX0_noteRow_48 : decode cX0_noteRow 48 = .ok (.ishl, 1) := by decide +kernel
theorem dX0_noteRow_49 : decode cX0_noteRow 49 = .ok (.ireturn, 1) := by decide +kernel
def xX0_noteRow : zX := (RX0, cX0_noteRow, 5, (some .int), false, { frames := 3, cells := 0, slots := 0, locals := 132 }, 0, 0, 0, 0)
theorem rmX0_noteRow : z_Rm xX0_noteRow := by unfold z_Rm xX0_noteRow; exact ⟨by decide, by decide⟩
theorem reX0_noteRow : z_Re xX0_noteRow := ⟨rfl, rfl⟩
theorem rlX0_noteRow : 1 ≤ xX0_noteRow.2.2.2.2.2.1.frames ∧ 21 ≤ xX0_noteRow.2.2.2.2.2.1.locals := by unfold xX0_noteRow; exact ⟨by decide, by decide⟩
theorem meX0_noteRow : z_Me yX0_noteRow xX0_noteRow 2 := ⟨wd30, wd19, by decide, by decide, by decide +kernel⟩
theorem fitX0_noteRow_4 : z_Fit xX10_lastChild xX0_noteRow := by unfold z_Fit; simp only [xX10_lastChild, xX0_noteRow]; exact ⟨by decide, by decide⟩
noncomputable def kX0_noteRow_46 : zK zR := (q_push 1 (q_iload 3 (q_ishl q_iret)))
noncomputable def kX0_noteRow_0 : zK zR := (q_aload 0 (q_getR 0 0 (q_callV 10 fX10_lastChild 0 (q_istore 3 (q_iload 1 (q_push 4 (q_imul (q_iload 3 (q_iadd (q_istore 4 (q_aload 0 (q_getR 0 2 (q_iload 4 (q_dup2 (q_iald (q_push 1 (q_iadd (q_iast (q_aload 0 (q_getR 0 3 (q_iload 4 (q_iald (q_push (-2) (q_icmp_ne kX0_noteRow_46 (q_aload 0 (q_getR 0 3 (q_iload 4 (q_iload 2 (q_iast kX0_noteRow_46)))))))))))))))))))))))))))))
set_option maxRecDepth 100000 in
theorem tX0_noteRow_46 {l : Launch} {D : zD} {B sz0 : Nat} {post : Option Value → zS → Prop} : zSnd l D B xX0_noteRow sz0 post 46 kX0_noteRow_46 (z_Jr post) := (s_iconst dX0_noteRow_46 (by decide) (s_iload_n dX0_noteRow_47 rfl (s_ishl dX0_noteRow_48 (s_iret dX0_noteRow_49 rfl))))
set_option maxRecDepth 100000 in
theorem tX0_noteRow_0 {l : Launch} {D : zD} {B sz0 : Nat} {post : Option Value → zS → Prop} : zSnd l D B xX0_noteRow sz0 post 0 kX0_noteRow_0 (z_Jr post) := (s_aload_n dX0_noteRow_0 rfl (s_getR (f := 0) dX0_noteRow_1 clX0 (by decide) rfl wd12 (s_callV (r := (RX10, TX10, 3)) dX0_noteRow_4 mX10_lastChild meX10_lastChild wd27 wd28 rfl rfl reX10_lastChild rmX0_noteRow (fitX0_noteRow_4) wd29 (s_istore_n dX0_noteRow_7 rfl (s_iload_n dX0_noteRow_8 rfl (s_iconst dX0_noteRow_9 (by decide) (s_imul dX0_noteRow_10 (s_iload_n dX0_noteRow_11 rfl (s_iadd dX0_noteRow_12 (s_istore dX0_noteRow_13 (s_aload_n dX0_noteRow_15 rfl (s_getR (f := 2) dX0_noteRow_16 clX0 (by decide) rfl wd15 (s_iload dX0_noteRow_19 (s_dup2 dX0_noteRow_21 (s_iald dX0_noteRow_22 (s_iconst dX0_noteRow_23 (by decide) (s_iadd dX0_noteRow_24 (s_iast dX0_noteRow_25 (s_aload_n dX0_noteRow_26 rfl (s_getR (f := 3) dX0_noteRow_27 clX0 (by decide) rfl wd16 (s_iload dX0_noteRow_30 (s_iald dX0_noteRow_32 (s_bipush dX0_noteRow_33 (by decide) (s_icmp_ne (tgt := 46) dX0_noteRow_35 (by decide) tX0_noteRow_46 (s_aload_n dX0_noteRow_38 rfl (s_getR (f := 3) dX0_noteRow_39 clX0 (by decide) rfl wd16 (s_iload dX0_noteRow_42 (s_iload_n dX0_noteRow_44 rfl (s_iast dX0_noteRow_45 tX0_noteRow_46)))))))))))))))))))))))))))))
noncomputable def fX0_noteRow : zF := z_fn 5 kX0_noteRow_0
theorem mX0_noteRow {l : Launch} {D : zD} {B : Nat} : z_MF l D B yX0_noteRow xX0_noteRow fX0_noteRow := z_mf (by decide) rfl (fun h => by cases h) rfl (fun as σ r h => ⟨z_fn_len h, kX0_noteRow_0, z_fn_run h, fun _ => tX0_noteRow_0⟩)
/-! ===== RowChildren$Triangle.put ===== -/
theorem dX10_put_0 : decode cX10_put 0 = .ok (.iload_n 2, 1) := by decide +kernel
theorem dX10_put_1 : decode cX10_put 1 = .ok (.ifCond .lt 9, 3) := by decide +kernel
theorem dX10_put_4 : decode cX10_put 4 = .ok (.iload_n 2, 1) := by decide +kernel
theorem dX10_put_5 : decode cX10_put 5 = .ok (.bipush 8, 2) := by decide +kernel
theorem dX10_put_7 : decode cX10_put 7 = .ok (.if_icmp .lt 4, 3) := by decide +kernel
theorem dX10_put_10 : decode cX10_put 10 = .ok (.return_, 1) := by decide +kernel
theorem dX10_put_11 : decode cX10_put 11 = .ok (.iload_n 3, 1) := by decide +kernel
theorem dX10_put_12 : decode cX10_put 12 = .ok (.iconst 3, 1) := by decide +kernel
theorem dX10_put_13 : decode cX10_put 13 = .ok (.iand, 1) := by decide +kernel
theorem dX10_put_14 : decode cX10_put 14 = .ok (.istore 4, 2) := by decide +kernel
theorem dX10_put_16 : decode cX10_put 16 = .ok (.iload_n 2, 1) := by decide +kernel
theorem dX10_put_17 : decode cX10_put 17 = .ok (.istore 5, 2) := by decide +kernel
theorem dX10_put_19 : decode cX10_put 19 = .ok (.aload_n 0, 1) := by decide +kernel
theorem dX10_put_20 : decode cX10_put 20 = .ok (.getfield 9, 3) := by decide +kernel
theorem dX10_put_23 : decode cX10_put 23 = .ok (.iload 5, 2) := by decide +kernel
theorem dX10_put_25 : decode cX10_put 25 = .ok (.iload 4, 2) := by decide +kernel
theorem dX10_put_27 : decode cX10_put 27 = .ok (.iastore, 1) := by decide +kernel
theorem dX10_put_28 : decode cX10_put 28 = .ok (.iconst 1, 1) := by decide +kernel
theorem dX10_put_29 : decode cX10_put 29 = .ok (.istore 6, 2) := by decide +kernel
theorem dX10_put_31 : decode cX10_put 31 = .ok (.iload 6, 2) := by decide +kernel
theorem dX10_put_33 : decode cX10_put 33 = .ok (.iload_n 2, 1) := by decide +kernel
theorem dX10_put_34 : decode cX10_put 34 = .ok (.if_icmp .gt 42, 3) := by decide +kernel
theorem dX10_put_37 : decode cX10_put 37 = .ok (.aload_n 1, 1) := by decide +kernel
theorem dX10_put_38 : decode cX10_put 38 = .ok (.getfield 40, 3) := by decide +kernel
theorem dX10_put_41 : decode cX10_put 41 = .ok (.aload_n 0, 1) := by decide +kernel
theorem dX10_put_42 : decode cX10_put 42 = .ok (.getfield 9, 3) := by decide +kernel
theorem dX10_put_45 : decode cX10_put 45 = .ok (.iload 5, 2) := by decide +kernel
theorem dX10_put_47 : decode cX10_put 47 = .ok (.iconst 1, 1) := by decide +kernel
theorem dX10_put_48 : decode cX10_put 48 = .ok (.isub, 1) := by decide +kernel
theorem dX10_put_49 : decode cX10_put 49 = .ok (.iaload, 1) := by decide +kernel
theorem dX10_put_50 : decode cX10_put 50 = .ok (.iconst 4, 1) := by decide +kernel
theorem dX10_put_51 : decode cX10_put 51 = .ok (.imul, 1) := by decide +kernel
theorem dX10_put_52 : decode cX10_put 52 = .ok (.iload 4, 2) := by decide +kernel
theorem dX10_put_54 : decode cX10_put 54 = .ok (.iadd, 1) := by decide +kernel
theorem dX10_put_55 : decode cX10_put 55 = .ok (.iaload, 1) := by decide +kernel
theorem dX10_put_56 : decode cX10_put 56 = .ok (.istore 4, 2) := by decide +kernel
theorem dX10_put_58 : decode cX10_put 58 = .ok (.iinc 5 7, 3) := by decide +kernel
theorem dX10_put_61 : decode cX10_put 61 = .ok (.aload_n 0, 1) := by decide +kernel
theorem dX10_put_62 : decode cX10_put 62 = .ok (.getfield 9, 3) := by decide +kernel
theorem dX10_put_65 : decode cX10_put 65 = .ok (.iload 5, 2) := by decide +kernel
theorem dX10_put_67 : decode cX10_put 67 = .ok (.iload 4, 2) := by decide +kernel
theorem dX10_put_69 : decode cX10_put 69 = .ok (.iastore, 1) := by decide +kernel
theorem dX10_put_70 : decode cX10_put 70 = .ok (.iinc 6 1, 3) := by decide +kernel
theorem dX10_put_73 : decode cX10_put 73 = .ok (.goto (-42), 3) := by decide +kernel
theorem dX10_put_76 : decode cX10_put 76 = .ok (.aload_n 0, 1) := by decide +kernel
theorem dX10_put_77 : decode cX10_put 77 = .ok (.iload_n 2, 1) := by decide +kernel
theorem dX10_put_78 : decode cX10_put 78 = .ok (.iconst 1, 1) := by decide +kernel
theorem dX10_put_79 : decode cX10_put 79 = .ok (.iadd, 1) := by decide +kernel
theorem dX10_put_80 : decode cX10_put 80 = .ok (.putfield 18, 3) := by decide +kernel
theorem dX10_put_83 : decode cX10_put 83 = .ok (.return_, 1) := by decide +kernel
def xX10_put : zX := (RX10, cX10_put, 7, none, false, { frames := 1, cells := 0, slots := 0, locals := 90 }, 0, 0, 0, 0)
theorem rmX10_put : z_Rm xX10_put := by unfold z_Rm xX10_put; exact ⟨by decide, by decide⟩
theorem reX10_put : z_Re xX10_put := ⟨rfl, rfl⟩
theorem rlX10_put : 1 ≤ xX10_put.2.2.2.2.2.1.frames ∧ 21 ≤ xX10_put.2.2.2.2.2.1.locals := by unfold xX10_put; exact ⟨by decide, by decide⟩
theorem meX10_put : z_Me yX10_put xX10_put 3 := ⟨wd32, wd7, by decide, by decide, by decide +kernel⟩
noncomputable def kX10_put_10 : zK zR := q_vret
noncomputable def kX10_put_76 : zK zR := (q_aload 0 (q_iload 2 (q_push 1 (q_iadd (q_putI 10 0 q_vret)))))
noncomputable def bX10_put_31 : zK ((zL × zS) ⊕ zR) := (q_iload 6 (q_iload 2 (q_icmp_gt (q_dn kX10_put_76) (q_aload 1 (q_getR 5 3 (q_aload 0 (q_getR 10 1 (q_iload 5 (q_push 1 (q_isub (q_iald (q_push 4 (q_imul (q_iload 4 (q_iadd (q_iald (q_istore 4 (q_iinc 5 7 (q_aload 0 (q_getR 10 1 (q_iload 5 (q_iload 4 (q_iast (q_iinc 6 1 q_ag))))))))))))))))))))))))
noncomputable def kX10_put_31 : zK zR := q_lp (bX10_put_31)
noncomputable def kX10_put_0 : zK zR := (q_iload 2 (q_if_lt kX10_put_10 (q_iload 2 (q_push 8 (q_icmp_lt (q_iload 3 (q_push 3 (q_iand (q_istore 4 (q_iload 2 (q_istore 5 (q_aload 0 (q_getR 10 1 (q_iload 5 (q_iload 4 (q_iast (q_push 1 (q_istore 6 kX10_put_31))))))))))))) kX10_put_10)))))
set_option maxRecDepth 100000 in
theorem tX10_put_10 {l : Launch} {D : zD} {B sz0 : Nat} {post : Option Value → zS → Prop} : zSnd l D B xX10_put sz0 post 10 kX10_put_10 (z_Jr post) := (s_vret dX10_put_10 rfl)
set_option maxRecDepth 100000 in
theorem tX10_put_76 {l : Launch} {D : zD} {B sz0 : Nat} {post : Option Value → zS → Prop} : zSnd l D B xX10_put sz0 post 76 kX10_put_76 (z_Jr post) := (s_aload_n dX10_put_76 rfl (s_iload_n dX10_put_77 rfl (s_iconst dX10_put_78 (by decide) (s_iadd dX10_put_79 (s_putI (f := 0) dX10_put_80 clX10 (by decide) rfl rfl rfl wd22 (s_vret dX10_put_83 rfl))))))
set_option maxRecDepth 100000 in
theorem tX10_put_31 {l : Launch} {D : zD} {B sz0 : Nat} {post : Option Value → zS → Prop} : zSnd l D B xX10_put sz0 post 31 kX10_put_31 (z_Jr post) := s_lp (body := bX10_put_31) (s_iload dX10_put_31 (s_iload_n dX10_put_33 rfl (s_icmp_gt (tgt := 76) dX10_put_34 (by decide) (s_dn tX10_put_76) (s_aload_n dX10_put_37 rfl (s_getR (f := 3) dX10_put_38 clX5 (by decide) rfl wd31 (s_aload_n dX10_put_41 rfl (s_getR (f := 1) dX10_put_42 clX10 (by decide) rfl wd4 (s_iload dX10_put_45 (s_iconst dX10_put_47 (by decide) (s_isub dX10_put_48 (s_iald dX10_put_49 (s_iconst dX10_put_50 (by decide) (s_imul dX10_put_51 (s_iload dX10_put_52 (s_iadd dX10_put_54 (s_iald dX10_put_55 (s_istore dX10_put_56 (s_iinc dX10_put_58 (by decide) (s_aload_n dX10_put_61 rfl (s_getR (f := 1) dX10_put_62 clX10 (by decide) rfl wd4 (s_iload dX10_put_65 (s_iload dX10_put_67 (s_iast dX10_put_69 (s_iinc dX10_put_70 (by decide) (s_goto (tgt := 31) dX10_put_73 (by decide) s_ag)))))))))))))))))))))))))
set_option maxRecDepth 100000 in
theorem tX10_put_0 {l : Launch} {D : zD} {B sz0 : Nat} {post : Option Value → zS → Prop} : zSnd l D B xX10_put sz0 post 0 kX10_put_0 (z_Jr post) := (s_iload_n dX10_put_0 rfl (s_if_lt (tgt := 10) dX10_put_1 (by decide) tX10_put_10 (s_iload_n dX10_put_4 rfl (s_bipush dX10_put_5 (by decide) (s_icmp_lt (tgt := 11) dX10_put_7 (by decide) (s_iload_n dX10_put_11 rfl (s_iconst dX10_put_12 (by decide) (s_iand dX10_put_13 (s_istore dX10_put_14 (s_iload_n dX10_put_16 rfl (s_istore dX10_put_17 (s_aload_n dX10_put_19 rfl (s_getR (f := 1) dX10_put_20 clX10 (by decide) rfl wd4 (s_iload dX10_put_23 (s_iload dX10_put_25 (s_iast dX10_put_27 (s_iconst dX10_put_28 (by decide) (s_istore dX10_put_29 tX10_put_31))))))))))))) tX10_put_10)))))
noncomputable def fX10_put : zF := z_fn 7 kX10_put_0
theorem mX10_put {l : Launch} {D : zD} {B : Nat} : z_MF l D B yX10_put xX10_put fX10_put := z_mf (by decide) rfl (fun h => by cases h) rfl (fun as σ r h => ⟨z_fn_len h, kX10_put_0, z_fn_run h, fun _ => tX10_put_0⟩)
/-! ===== RowChildren$Census.goThrough ===== -/
theorem dX0_goThrough_0 : decode cX0_goThrough 0 = .ok (.iload_n 3, 1) := by decide +kernel
theorem dX0_goThrough_1 : decode cX0_goThrough 1 = .ok (.iload_n 2, 1) := by decide +kernel
theorem dX0_goThrough_2 : decode cX0_goThrough 2 = .ok (.if_icmp .lt 11, 3) := by decide +kernel
theorem dX0_goThrough_5 : decode cX0_goThrough 5 = .ok (.aload_n 0, 1) := by decide +kernel
theorem dX0_goThrough_6 : decode cX0_goThrough 6 = .ok (.iload_n 2, 1) := by decide +kernel
theorem dX0_goThrough_7 : decode cX0_goThrough 7 = .ok (.iload 4, 2) := by decide +kernel
theorem dX0_goThrough_9 : decode cX0_goThrough 9 = .ok (.invokevirtual 36, 3) := by decide +kernel
theorem dX0_goThrough_12 : decode cX0_goThrough 12 = .ok (.ireturn, 1) := by decide +kernel
theorem dX0_goThrough_13 : decode cX0_goThrough 13 = .ok (.iload_n 3, 1) := by decide +kernel
theorem dX0_goThrough_14 : decode cX0_goThrough 14 = .ok (.iconst 2, 1) := by decide +kernel
theorem dX0_goThrough_15 : decode cX0_goThrough 15 = .ok (.irem, 1) := by decide +kernel
theorem dX0_goThrough_16 : decode cX0_goThrough 16 = .ok (.ifCond .ne 7, 3) := by decide +kernel
theorem dX0_goThrough_19 : decode cX0_goThrough 19 = .ok (.iconst 1, 1) := by decide +kernel
theorem dX0_goThrough_20 : decode cX0_goThrough 20 = .ok (.goto 4, 3) := by decide +kernel
theorem dX0_goThrough_23 : decode cX0_goThrough 23 = .ok (.iconst 0, 1) := by decide +kernel
theorem dX0_goThrough_24 : decode cX0_goThrough 24 = .ok (.istore 5, 2) := by decide +kernel
theorem dX0_goThrough_26 : decode cX0_goThrough 26 = .ok (.iload 5, 2) := by decide +kernel
theorem dX0_goThrough_28 : decode cX0_goThrough 28 = .ok (.ifCond .eq 7, 3) := by decide +kernel
theorem dX0_goThrough_31 : decode cX0_goThrough 31 = .ok (.iconst 0, 1) := by decide +kernel
theorem dX0_goThrough_32 : decode cX0_goThrough 32 = .ok (.goto 5, 3) := by decide +kernel
theorem dX0_goThrough_35 : decode cX0_goThrough 35 = .ok (.bipush 15, 2) := by decide +kernel
theorem dX0_goThrough_37 : decode cX0_goThrough 37 = .ok (.istore 6, 2) := by decide +kernel
theorem dX0_goThrough_39 : decode cX0_goThrough 39 = .ok (.iconst 0, 1) := by decide +kernel
theorem dX0_goThrough_40 : decode cX0_goThrough 40 = .ok (.istore 7, 2) := by decide +kernel
theorem dX0_goThrough_42 : decode cX0_goThrough 42 = .ok (.iload 7, 2) := by decide +kernel
theorem dX0_goThrough_44 : decode cX0_goThrough 44 = .ok (.aload_n 1, 1) := by decide +kernel
theorem dX0_goThrough_45 : decode cX0_goThrough 45 = .ok (.getfield 40, 3) := by decide +kernel
theorem dX0_goThrough_48 : decode cX0_goThrough 48 = .ok (.if_icmp .ge 78, 3) := by decide +kernel
theorem dX0_goThrough_51 : decode cX0_goThrough 51 = .ok (.aload_n 0, 1) := by decide +kernel
theorem dX0_goThrough_52 : decode cX0_goThrough 52 = .ok (.getfield 12, 3) := by decide +kernel
theorem dX0_goThrough_55 : decode cX0_goThrough 55 = .ok (.aload_n 1, 1) := by decide +kernel
theorem dX0_goThrough_56 : decode cX0_goThrough 56 = .ok (.iload_n 3, 1) := by decide +kernel
theorem dX0_goThrough_57 : decode cX0_goThrough 57 = .ok (.iload 7, 2) := by decide +kernel
theorem dX0_goThrough_59 : decode cX0_goThrough 59 = .ok (.invokevirtual 46, 3) := by decide +kernel
theorem dX0_goThrough_62 : decode cX0_goThrough 62 = .ok (.aload_n 0, 1) := by decide +kernel
theorem dX0_goThrough_63 : decode cX0_goThrough 63 = .ok (.aload_n 1, 1) := by decide +kernel
theorem dX0_goThrough_64 : decode cX0_goThrough 64 = .ok (.iload_n 2, 1) := by decide +kernel
theorem dX0_goThrough_65 : decode cX0_goThrough 65 = .ok (.iload_n 3, 1) := by decide +kernel
theorem dX0_goThrough_66 : decode cX0_goThrough 66 = .ok (.iconst 1, 1) := by decide +kernel
theorem dX0_goThrough_67 : decode cX0_goThrough 67 = .ok (.iadd, 1) := by decide +kernel
theorem dX0_goThrough_68 : decode cX0_goThrough 68 = .ok (.iload 4, 2) := by decide +kernel
theorem dX0_goThrough_70 : decode cX0_goThrough 70 = .ok (.aload_n 1, 1) := by decide +kernel
theorem dX0_goThrough_71 : decode cX0_goThrough 71 = .ok (.getfield 40, 3) := by decide +kernel
theorem dX0_goThrough_74 : decode cX0_goThrough 74 = .ok (.imul, 1) := by decide +kernel
theorem dX0_goThrough_75 : decode cX0_goThrough 75 = .ok (.iload 7, 2) := by decide +kernel
theorem dX0_goThrough_77 : decode cX0_goThrough 77 = .ok (.iadd, 1) := by decide +kernel
theorem dX0_goThrough_78 : decode cX0_goThrough 78 = .ok (.invokestatic 32, 3) := by decide +kernel
theorem dX0_goThrough_81 : decode cX0_goThrough 81 = .ok (.istore 8, 2) := by decide +kernel
theorem dX0_goThrough_83 : decode cX0_goThrough 83 = .ok (.iload 5, 2) := by decide +kernel
theorem dX0_goThrough_85 : decode cX0_goThrough 85 = .ok (.ifCond .eq 11, 3) := by decide +kernel
theorem dX0_goThrough_88 : decode cX0_goThrough 88 = .ok (.iload 6, 2) := by decide +kernel
theorem dX0_goThrough_90 : decode cX0_goThrough 90 = .ok (.iload 8, 2) := by decide +kernel
theorem dX0_goThrough_92 : decode cX0_goThrough 92 = .ok (.ior, 1) := by decide +kernel
theorem dX0_goThrough_93 : decode cX0_goThrough 93 = .ok (.goto 8, 3) := by decide +kernel
theorem dX0_goThrough_96 : decode cX0_goThrough 96 = .ok (.iload 6, 2) := by decide +kernel
theorem dX0_goThrough_98 : decode cX0_goThrough 98 = .ok (.iload 8, 2) := by decide +kernel
theorem dX0_goThrough_100 : decode cX0_goThrough 100 = .ok (.iand, 1) := by decide +kernel
theorem dX0_goThrough_101 : decode cX0_goThrough 101 = .ok (.istore 6, 2) := by decide +kernel
theorem dX0_goThrough_103 : decode cX0_goThrough 103 = .ok (.iload_n 3, 1) := by decide +kernel
theorem dX0_goThrough_104 : decode cX0_goThrough 104 = .ok (.ifCond .ne 16, 3) := by decide +kernel
theorem dX0_goThrough_107 : decode cX0_goThrough 107 = .ok (.aload_n 0, 1) := by decide +kernel
theorem dX0_goThrough_108 : decode cX0_goThrough 108 = .ok (.getfield 29, 3) := by decide +kernel
theorem dX0_goThrough_111 : decode cX0_goThrough 111 = .ok (.iload_n 2, 1) := by decide +kernel
theorem dX0_goThrough_112 : decode cX0_goThrough 112 = .ok (.iconst 4, 1) := by decide +kernel
theorem dX0_goThrough_113 : decode cX0_goThrough 113 = .ok (.imul, 1) := by decide +kernel
theorem dX0_goThrough_114 : decode cX0_goThrough 114 = .ok (.iload 7, 2) := by decide +kernel
theorem dX0_goThrough_116 : decode cX0_goThrough 116 = .ok (.iadd, 1) := by decide +kernel
theorem dX0_goThrough_117 : decode cX0_goThrough 117 = .ok (.iload 8, 2) := by decide +kernel
theorem dX0_goThrough_119 : decode cX0_goThrough 119 = .ok (.iastore, 1) := by decide +kernel
theorem dX0_goThrough_120 : decode cX0_goThrough 120 = .ok (.iinc 7 1, 3) := by decide +kernel
theorem dX0_goThrough_123 : decode cX0_goThrough 123 = .ok (.goto (-81), 3) := by decide +kernel
theorem dX0_goThrough_126 : decode cX0_goThrough 126 = .ok (.iload 6, 2) := by decide +kernel
theorem dX0_goThrough_128 : decode cX0_goThrough 128 = .ok (.ireturn, 1) := by decide +kernel
def xX0_goThrough (d : Nat) : zX := (RX0, cX0_goThrough, 9, (some .int), false, { frames := 4 + 1 * d, cells := 0, slots := 0, locals := 156 + 28 * d }, 0, 0, 0, 0)
theorem rmX0_goThrough (d : Nat) : z_Rm (xX0_goThrough d) := by unfold z_Rm xX0_goThrough; exact ⟨by simp, by simp⟩
theorem reX0_goThrough (d : Nat) : z_Re (xX0_goThrough d) := ⟨rfl, rfl⟩
theorem rlX0_goThrough (d : Nat) : 1 ≤ (xX0_goThrough d).2.2.2.2.2.1.frames ∧ 21 ≤ (xX0_goThrough d).2.2.2.2.2.1.locals := by unfold xX0_goThrough; exact ⟨by simp; try omega, by simp; try omega⟩
theorem meX0_goThrough (d : Nat) : z_Me yX0_goThrough (xX0_goThrough d) 5 := ⟨wd42, wd19, by decide, by decide, by decide +kernel⟩
theorem fitX0_goThrough_59 (d : Nat) : z_Fit xX10_put (xX0_goThrough (d + 1)) := by unfold z_Fit; simp only [xX10_put, xX0_goThrough]; exact ⟨by omega, by omega⟩
theorem fitX0_goThrough_78 (d : Nat) : z_Fit (xX0_goThrough d) (xX0_goThrough (d + 1)) := by unfold z_Fit; simp only [xX0_goThrough, xX0_goThrough]; exact ⟨by omega, by omega⟩
theorem fitX0_goThrough_9 (d : Nat) : z_Fit xX0_noteRow (xX0_goThrough (d + 1)) := by unfold z_Fit; simp only [xX0_noteRow, xX0_goThrough]; exact ⟨by omega, by omega⟩
noncomputable def kX0_goThrough_126 (g : zF) : zK zR := (q_iload 6 q_iret)
noncomputable def kX0_goThrough_120 (g : zF) : zK ((zL × zS) ⊕ zR) := (q_iinc 7 1 q_ag)
noncomputable def kX0_goThrough_101 (g : zF) : zK ((zL × zS) ⊕ zR) := (q_istore 6 (q_iload 3 (q_if_ne (kX0_goThrough_120 g) (q_aload 0 (q_getR 0 4 (q_iload 2 (q_push 4 (q_imul (q_iload 7 (q_iadd (q_iload 8 (q_iast (kX0_goThrough_120 g)))))))))))))
noncomputable def bX0_goThrough_42 (g : zF) : zK ((zL × zS) ⊕ zR) := (q_iload 7 (q_aload 1 (q_getI 5 0 (q_icmp_ge (q_dn (kX0_goThrough_126 g)) (q_aload 0 (q_getR 0 0 (q_aload 1 (q_iload 3 (q_iload 7 (q_callV 10 fX10_put 3 (q_aload 0 (q_aload 1 (q_iload 2 (q_iload 3 (q_push 1 (q_iadd (q_iload 4 (q_aload 1 (q_getI 5 0 (q_imul (q_iload 7 (q_iadd (q_callS g 5 (q_istore 8 (q_iload 5 (q_if_eq (q_iload 6 (q_iload 8 (q_iand (kX0_goThrough_101 g)))) (q_iload 6 (q_iload 8 (q_ior (kX0_goThrough_101 g))))))))))))))))))))))))))))))
noncomputable def kX0_goThrough_42 (g : zF) : zK zR := q_lp (bX0_goThrough_42 g)
noncomputable def kX0_goThrough_37 (g : zF) : zK zR := (q_istore 6 (q_push 0 (q_istore 7 (kX0_goThrough_42 g))))
noncomputable def kX0_goThrough_24 (g : zF) : zK zR := (q_istore 5 (q_iload 5 (q_if_eq (q_push 15 (kX0_goThrough_37 g)) (q_push 0 (kX0_goThrough_37 g)))))
noncomputable def kX0_goThrough_0 (g : zF) : zK zR := (q_iload 3 (q_iload 2 (q_icmp_lt (q_iload 3 (q_push 2 (q_irem (q_if_ne (q_push 0 (kX0_goThrough_24 g)) (q_push 1 (kX0_goThrough_24 g)))))) (q_aload 0 (q_iload 2 (q_iload 4 (q_callV 0 fX0_noteRow 2 q_iret)))))))
set_option maxRecDepth 100000 in
theorem tX0_goThrough_126 (d : Nat) {g : zF} {l : Launch} {D : zD} {B sz0 : Nat} {post : Option Value → zS → Prop} (hg : z_MF l D B yX0_goThrough (xX0_goThrough d) g) : zSnd l D B (xX0_goThrough (d + 1)) sz0 post 126 (kX0_goThrough_126 g) (z_Jr post) := (s_iload dX0_goThrough_126 (s_iret dX0_goThrough_128 rfl))
set_option maxRecDepth 100000 in
theorem tX0_goThrough_120 (d : Nat) {g : zF} {l : Launch} {D : zD} {B sz0 : Nat} {post : Option Value → zS → Prop} (hg : z_MF l D B yX0_goThrough (xX0_goThrough d) g) : zSnd l D B (xX0_goThrough (d + 1)) sz0 post 120 (kX0_goThrough_120 g) (z_Jl l D B (xX0_goThrough (d + 1)) sz0 post 42 (z_Jr post)) := (s_iinc dX0_goThrough_120 (by decide) (s_goto (tgt := 42) dX0_goThrough_123 (by decide) s_ag))
set_option maxRecDepth 100000 in
theorem tX0_goThrough_101 (d : Nat) {g : zF} {l : Launch} {D : zD} {B sz0 : Nat} {post : Option Value → zS → Prop} (hg : z_MF l D B yX0_goThrough (xX0_goThrough d) g) : zSnd l D B (xX0_goThrough (d + 1)) sz0 post 101 (kX0_goThrough_101 g) (z_Jl l D B (xX0_goThrough (d + 1)) sz0 post 42 (z_Jr post)) := (s_istore dX0_goThrough_101 (s_iload_n dX0_goThrough_103 rfl (s_if_ne (tgt := 120) dX0_goThrough_104 (by decide) (tX0_goThrough_120 d hg) (s_aload_n dX0_goThrough_107 rfl (s_getR (f := 4) dX0_goThrough_108 clX0 (by decide) rfl wd17 (s_iload_n dX0_goThrough_111 rfl (s_iconst dX0_goThrough_112 (by decide) (s_imul dX0_goThrough_113 (s_iload dX0_goThrough_114 (s_iadd dX0_goThrough_116 (s_iload dX0_goThrough_117 (s_iast dX0_goThrough_119 (tX0_goThrough_120 d hg)))))))))))))
set_option maxRecDepth 100000 in
theorem tX0_goThrough_42 (d : Nat) {g : zF} {l : Launch} {D : zD} {B sz0 : Nat} {post : Option Value → zS → Prop} (hg : z_MF l D B yX0_goThrough (xX0_goThrough d) g) : zSnd l D B (xX0_goThrough (d + 1)) sz0 post 42 (kX0_goThrough_42 g) (z_Jr post) := s_lp (body := bX0_goThrough_42 g) (s_iload dX0_goThrough_42 (s_aload_n dX0_goThrough_44 rfl (s_getI (f := 0) dX0_goThrough_45 clX5 (by decide) rfl wd33 (s_icmp_ge (tgt := 126) dX0_goThrough_48 (by decide) (s_dn (tX0_goThrough_126 d hg)) (s_aload_n dX0_goThrough_51 rfl (s_getR (f := 0) dX0_goThrough_52 clX0 (by decide) rfl wd12 (s_aload_n dX0_goThrough_55 rfl (s_iload_n dX0_goThrough_56 rfl (s_iload dX0_goThrough_57 (s_callV (r := (RX10, TX10, 3)) dX0_goThrough_59 mX10_put meX10_put wd34 wd35 rfl rfl reX10_put (rmX0_goThrough (d + 1)) (fitX0_goThrough_59 d) wd36 (s_aload_n dX0_goThrough_62 rfl (s_aload_n dX0_goThrough_63 rfl (s_iload_n dX0_goThrough_64 rfl (s_iload_n dX0_goThrough_65 rfl (s_iconst dX0_goThrough_66 (by decide) (s_iadd dX0_goThrough_67 (s_iload dX0_goThrough_68 (s_aload_n dX0_goThrough_70 rfl (s_getI (f := 0) dX0_goThrough_71 clX5 (by decide) rfl wd33 (s_imul dX0_goThrough_74 (s_iload dX0_goThrough_75 (s_iadd dX0_goThrough_77 (s_callS dX0_goThrough_78 hg (meX0_goThrough d) wd37 rfl (reX0_goThrough d) (rmX0_goThrough (d + 1)) (fitX0_goThrough_78 d) wd38 (s_istore dX0_goThrough_81 (s_iload dX0_goThrough_83 (s_if_eq (tgt := 96) dX0_goThrough_85 (by decide) (s_iload dX0_goThrough_96 (s_iload dX0_goThrough_98 (s_iand dX0_goThrough_100 (tX0_goThrough_101 d hg)))) (s_iload dX0_goThrough_88 (s_iload dX0_goThrough_90 (s_ior dX0_goThrough_92 (s_goto (tgt := 101) dX0_goThrough_93 (by decide) (tX0_goThrough_101 d hg)))))))))))))))))))))))))))))))
set_option maxRecDepth 100000 in
theorem tX0_goThrough_37 (d : Nat) {g : zF} {l : Launch} {D : zD} {B sz0 : Nat} {post : Option Value → zS → Prop} (hg : z_MF l D B yX0_goThrough (xX0_goThrough d) g) : zSnd l D B (xX0_goThrough (d + 1)) sz0 post 37 (kX0_goThrough_37 g) (z_Jr post) := (s_istore dX0_goThrough_37 (s_iconst dX0_goThrough_39 (by decide) (s_istore dX0_goThrough_40 (tX0_goThrough_42 d hg))))
set_option maxRecDepth 100000 in
theorem tX0_goThrough_24 (d : Nat) {g : zF} {l : Launch} {D : zD} {B sz0 : Nat} {post : Option Value → zS → Prop} (hg : z_MF l D B yX0_goThrough (xX0_goThrough d) g) : zSnd l D B (xX0_goThrough (d + 1)) sz0 post 24 (kX0_goThrough_24 g) (z_Jr post) := (s_istore dX0_goThrough_24 (s_iload dX0_goThrough_26 (s_if_eq (tgt := 35) dX0_goThrough_28 (by decide) (s_bipush dX0_goThrough_35 (by decide) (tX0_goThrough_37 d hg)) (s_iconst dX0_goThrough_31 (by decide) (s_goto (tgt := 37) dX0_goThrough_32 (by decide) (tX0_goThrough_37 d hg))))))
set_option maxRecDepth 100000 in
theorem tX0_goThrough_0 (d : Nat) {g : zF} {l : Launch} {D : zD} {B sz0 : Nat} {post : Option Value → zS → Prop} (hg : z_MF l D B yX0_goThrough (xX0_goThrough d) g) : zSnd l D B (xX0_goThrough (d + 1)) sz0 post 0 (kX0_goThrough_0 g) (z_Jr post) := (s_iload_n dX0_goThrough_0 rfl (s_iload_n dX0_goThrough_1 rfl (s_icmp_lt (tgt := 13) dX0_goThrough_2 (by decide) (s_iload_n dX0_goThrough_13 rfl (s_iconst dX0_goThrough_14 (by decide) (s_irem dX0_goThrough_15 (s_if_ne (tgt := 23) dX0_goThrough_16 (by decide) (s_iconst dX0_goThrough_23 (by decide) (tX0_goThrough_24 d hg)) (s_iconst dX0_goThrough_19 (by decide) (s_goto (tgt := 24) dX0_goThrough_20 (by decide) (tX0_goThrough_24 d hg))))))) (s_aload_n dX0_goThrough_5 rfl (s_iload_n dX0_goThrough_6 rfl (s_iload dX0_goThrough_7 (s_callV (r := (RX0, TX0, 5)) dX0_goThrough_9 mX0_noteRow meX0_noteRow wd39 wd40 rfl rfl reX0_noteRow (rmX0_goThrough (d + 1)) (fitX0_goThrough_9 d) wd41 (s_iret dX0_goThrough_12 rfl))))))))
noncomputable def fX0_goThrough : Nat → zF
  | 0 => fun _ _ => none
  | d + 1 => z_fn 9 (kX0_goThrough_0 (fX0_goThrough d))
theorem mX0_goThrough {l : Launch} {D : zD} {B : Nat} : ∀ d : Nat, z_MF l D B yX0_goThrough (xX0_goThrough d) (fX0_goThrough d)
  | 0 => fun _ _ _ h => by cases h
  | d + 1 => z_mf (by decide) rfl (fun h => by cases h) rfl (fun as σ r h => ⟨z_fn_len (k := kX0_goThrough_0 (fX0_goThrough d)) h, kX0_goThrough_0 (fX0_goThrough d), z_fn_run (k := kX0_goThrough_0 (fX0_goThrough d)) h, fun _ => tX0_goThrough_0 d (mX0_goThrough d)⟩)
/-! ===== RowChildren$Census.take ===== -/
theorem dX0_take_0 : decode cX0_take 0 = .ok (.iload_n 2, 1) := by decide +kernel
theorem dX0_take_1 : decode cX0_take 1 = .ok (.iconst 1, 1) := by decide +kernel
theorem dX0_take_2 : decode cX0_take 2 = .ok (.if_icmp .lt 18, 3) := by decide +kernel
theorem dX0_take_5 : decode cX0_take 5 = .ok (.iload_n 2, 1) := by decide +kernel
theorem dX0_take_6 : decode cX0_take 6 = .ok (.bipush 8, 2) := by decide +kernel
theorem dX0_take_8 : decode cX0_take 8 = .ok (.if_icmp .gt 12, 3) := by decide +kernel
theorem dX0_take_11 : decode cX0_take 11 = .ok (.aload_n 0, 1) := by decide +kernel
theorem dX0_take_12 : decode cX0_take 12 = .ok (.getfield 18, 3) := by decide +kernel
theorem dX0_take_15 : decode cX0_take 15 = .ok (.iload_n 2, 1) := by decide +kernel
theorem dX0_take_16 : decode cX0_take 16 = .ok (.baload, 1) := by decide +kernel
theorem dX0_take_17 : decode cX0_take 17 = .ok (.ifCond .eq 4, 3) := by decide +kernel
theorem dX0_take_20 : decode cX0_take 20 = .ok (.return_, 1) := by decide +kernel
theorem dX0_take_21 : decode cX0_take 21 = .ok (.iconst 0, 1) := by decide +kernel
theorem dX0_take_22 : decode cX0_take 22 = .ok (.istore_n 3, 1) := by decide +kernel
theorem dX0_take_23 : decode cX0_take 23 = .ok (.iload_n 3, 1) := by decide +kernel
theorem dX0_take_24 : decode cX0_take 24 = .ok (.iconst 4, 1) := by decide +kernel
theorem dX0_take_25 : decode cX0_take 25 = .ok (.if_icmp .ge 43, 3) := by decide +kernel
theorem dX0_take_28 : decode cX0_take 28 = .ok (.aload_n 0, 1) := by decide +kernel
theorem dX0_take_29 : decode cX0_take 29 = .ok (.getfield 22, 3) := by decide +kernel
theorem dX0_take_32 : decode cX0_take 32 = .ok (.iload_n 2, 1) := by decide +kernel
theorem dX0_take_33 : decode cX0_take 33 = .ok (.iconst 4, 1) := by decide +kernel
theorem dX0_take_34 : decode cX0_take 34 = .ok (.imul, 1) := by decide +kernel
theorem dX0_take_35 : decode cX0_take 35 = .ok (.iload_n 3, 1) := by decide +kernel
theorem dX0_take_36 : decode cX0_take 36 = .ok (.iadd, 1) := by decide +kernel
theorem dX0_take_37 : decode cX0_take 37 = .ok (.iconst 0, 1) := by decide +kernel
theorem dX0_take_38 : decode cX0_take 38 = .ok (.iastore, 1) := by decide +kernel
theorem dX0_take_39 : decode cX0_take 39 = .ok (.aload_n 0, 1) := by decide +kernel
theorem dX0_take_40 : decode cX0_take 40 = .ok (.getfield 26, 3) := by decide +kernel
theorem dX0_take_43 : decode cX0_take 43 = .ok (.iload_n 2, 1) := by decide +kernel
theorem dX0_take_44 : decode cX0_take 44 = .ok (.iconst 4, 1) := by decide +kernel
theorem dX0_take_45 : decode cX0_take 45 = .ok (.imul, 1) := by decide +kernel
theorem dX0_take_46 : decode cX0_take 46 = .ok (.iload_n 3, 1) := by decide +kernel
theorem dX0_take_47 : decode cX0_take 47 = .ok (.iadd, 1) := by decide +kernel
theorem dX0_take_48 : decode cX0_take 48 = .ok (.bipush (-2), 2) := by decide +kernel
theorem dX0_take_50 : decode cX0_take 50 = .ok (.iastore, 1) := by decide +kernel
theorem dX0_take_51 : decode cX0_take 51 = .ok (.aload_n 0, 1) := by decide +kernel
theorem dX0_take_52 : decode cX0_take 52 = .ok (.getfield 29, 3) := by decide +kernel
theorem dX0_take_55 : decode cX0_take 55 = .ok (.iload_n 2, 1) := by decide +kernel
theorem dX0_take_56 : decode cX0_take 56 = .ok (.iconst 4, 1) := by decide +kernel
theorem dX0_take_57 : decode cX0_take 57 = .ok (.imul, 1) := by decide +kernel
theorem dX0_take_58 : decode cX0_take 58 = .ok (.iload_n 3, 1) := by decide +kernel
theorem dX0_take_59 : decode cX0_take 59 = .ok (.iadd, 1) := by decide +kernel
theorem dX0_take_60 : decode cX0_take 60 = .ok (.iconst 0, 1) := by decide +kernel
theorem dX0_take_61 : decode cX0_take 61 = .ok (.iastore, 1) := by decide +kernel
theorem dX0_take_62 : decode cX0_take 62 = .ok (.iinc 3 1, 3) := by decide +kernel
theorem dX0_take_65 : decode cX0_take 65 = .ok (.goto (-42), 3) := by decide +kernel
theorem dX0_take_68 : decode cX0_take 68 = .ok (.aload_n 0, 1) := by decide +kernel
theorem dX0_take_69 : decode cX0_take 69 = .ok (.aload_n 1, 1) := by decide +kernel
theorem dX0_take_70 : decode cX0_take 70 = .ok (.iload_n 2, 1) := by decide +kernel
theorem dX0_take_71 : decode cX0_take 71 = .ok (.iconst 0, 1) := by decide +kernel
theorem dX0_take_72 : decode cX0_take 72 = .ok (.iconst 0, 1) := by decide +kernel
theorem dX0_take_73 : decode cX0_take 73 = .ok (.invokestatic 32, 3) := by decide +kernel
theorem dX0_take_76 : decode cX0_take 76 = .ok (.pop, 1) := by decide +kernel
theorem dX0_take_77 : decode cX0_take 77 = .ok (.aload_n 0, 1) := by decide +kernel
theorem dX0_take_78 : decode cX0_take 78 = .ok (.getfield 18, 3) := by decide +kernel
theorem dX0_take_81 : decode cX0_take 81 = .ok (.iload_n 2, 1) := by decide +kernel
theorem dX0_take_82 : decode cX0_take 82 = .ok (.iconst 1, 1) := by decide +kernel
theorem dX0_take_83 : decode cX0_take 83 = .ok (.bastore, 1) := by decide +kernel
theorem dX0_take_84 : decode cX0_take 84 = .ok (.return_, 1) := by decide +kernel
def xX0_take : zX := (RX0, cX0_take, 4, none, false, { frames := 15, cells := 0, slots := 0, locals := 464 }, 0, 0, 0, 0)
theorem rmX0_take : z_Rm xX0_take := by unfold z_Rm xX0_take; exact ⟨by decide, by decide⟩
theorem reX0_take : z_Re xX0_take := ⟨rfl, rfl⟩
theorem rlX0_take : 1 ≤ xX0_take.2.2.2.2.2.1.frames ∧ 21 ≤ xX0_take.2.2.2.2.2.1.locals := by unfold xX0_take; exact ⟨by decide, by decide⟩
theorem meX0_take : z_Me yX0_take xX0_take 2 := ⟨wd43, wd19, by decide, by decide, by decide +kernel⟩
theorem fitX0_take_73 : z_Fit (xX0_goThrough 10) xX0_take := by unfold z_Fit; simp only [xX0_goThrough, xX0_take]; exact ⟨by decide, by decide⟩
noncomputable def kX0_take_20 : zK zR := q_vret
noncomputable def kX0_take_68 : zK zR := (q_aload 0 (q_aload 1 (q_iload 2 (q_push 0 (q_push 0 (q_callS (fX0_goThrough 10) 5 (q_pop (q_aload 0 (q_getR 0 1 (q_iload 2 (q_push 1 (q_zast q_vret))))))))))))
noncomputable def bX0_take_23 : zK ((zL × zS) ⊕ zR) := (q_iload 3 (q_push 4 (q_icmp_ge (q_dn kX0_take_68) (q_aload 0 (q_getR 0 2 (q_iload 2 (q_push 4 (q_imul (q_iload 3 (q_iadd (q_push 0 (q_iast (q_aload 0 (q_getR 0 3 (q_iload 2 (q_push 4 (q_imul (q_iload 3 (q_iadd (q_push (-2) (q_iast (q_aload 0 (q_getR 0 4 (q_iload 2 (q_push 4 (q_imul (q_iload 3 (q_iadd (q_push 0 (q_iast (q_iinc 3 1 q_ag)))))))))))))))))))))))))))))))
noncomputable def kX0_take_23 : zK zR := q_lp (bX0_take_23)
noncomputable def kX0_take_0 : zK zR := (q_iload 2 (q_push 1 (q_icmp_lt kX0_take_20 (q_iload 2 (q_push 8 (q_icmp_gt kX0_take_20 (q_aload 0 (q_getR 0 1 (q_iload 2 (q_zald (q_if_eq (q_push 0 (q_istore 3 kX0_take_23)) kX0_take_20)))))))))))
set_option maxRecDepth 100000 in
theorem tX0_take_20 {l : Launch} {D : zD} {B sz0 : Nat} {post : Option Value → zS → Prop} : zSnd l D B xX0_take sz0 post 20 kX0_take_20 (z_Jr post) := (s_vret dX0_take_20 rfl)
set_option maxRecDepth 100000 in
theorem tX0_take_68 {l : Launch} {D : zD} {B sz0 : Nat} {post : Option Value → zS → Prop} : zSnd l D B xX0_take sz0 post 68 kX0_take_68 (z_Jr post) := (s_aload_n dX0_take_68 rfl (s_aload_n dX0_take_69 rfl (s_iload_n dX0_take_70 rfl (s_iconst dX0_take_71 (by decide) (s_iconst dX0_take_72 (by decide) (s_callS dX0_take_73 (mX0_goThrough 10) (meX0_goThrough 10) wd37 rfl (reX0_goThrough 10) rmX0_take (fitX0_take_73) wd38 (s_pop dX0_take_76 (s_aload_n dX0_take_77 rfl (s_getR (f := 1) dX0_take_78 clX0 (by decide) rfl wd14 (s_iload_n dX0_take_81 rfl (s_iconst dX0_take_82 (by decide) (s_zast dX0_take_83 (s_vret dX0_take_84 rfl)))))))))))))
set_option maxRecDepth 100000 in
theorem tX0_take_23 {l : Launch} {D : zD} {B sz0 : Nat} {post : Option Value → zS → Prop} : zSnd l D B xX0_take sz0 post 23 kX0_take_23 (z_Jr post) := s_lp (body := bX0_take_23) (s_iload_n dX0_take_23 rfl (s_iconst dX0_take_24 (by decide) (s_icmp_ge (tgt := 68) dX0_take_25 (by decide) (s_dn tX0_take_68) (s_aload_n dX0_take_28 rfl (s_getR (f := 2) dX0_take_29 clX0 (by decide) rfl wd15 (s_iload_n dX0_take_32 rfl (s_iconst dX0_take_33 (by decide) (s_imul dX0_take_34 (s_iload_n dX0_take_35 rfl (s_iadd dX0_take_36 (s_iconst dX0_take_37 (by decide) (s_iast dX0_take_38 (s_aload_n dX0_take_39 rfl (s_getR (f := 3) dX0_take_40 clX0 (by decide) rfl wd16 (s_iload_n dX0_take_43 rfl (s_iconst dX0_take_44 (by decide) (s_imul dX0_take_45 (s_iload_n dX0_take_46 rfl (s_iadd dX0_take_47 (s_bipush dX0_take_48 (by decide) (s_iast dX0_take_50 (s_aload_n dX0_take_51 rfl (s_getR (f := 4) dX0_take_52 clX0 (by decide) rfl wd17 (s_iload_n dX0_take_55 rfl (s_iconst dX0_take_56 (by decide) (s_imul dX0_take_57 (s_iload_n dX0_take_58 rfl (s_iadd dX0_take_59 (s_iconst dX0_take_60 (by decide) (s_iast dX0_take_61 (s_iinc dX0_take_62 (by decide) (s_goto (tgt := 23) dX0_take_65 (by decide) s_ag))))))))))))))))))))))))))))))))
set_option maxRecDepth 100000 in
theorem tX0_take_0 {l : Launch} {D : zD} {B sz0 : Nat} {post : Option Value → zS → Prop} : zSnd l D B xX0_take sz0 post 0 kX0_take_0 (z_Jr post) := (s_iload_n dX0_take_0 rfl (s_iconst dX0_take_1 (by decide) (s_icmp_lt (tgt := 20) dX0_take_2 (by decide) tX0_take_20 (s_iload_n dX0_take_5 rfl (s_bipush dX0_take_6 (by decide) (s_icmp_gt (tgt := 20) dX0_take_8 (by decide) tX0_take_20 (s_aload_n dX0_take_11 rfl (s_getR (f := 1) dX0_take_12 clX0 (by decide) rfl wd14 (s_iload_n dX0_take_15 rfl (s_zald dX0_take_16 (s_if_eq (tgt := 21) dX0_take_17 (by decide) (s_iconst dX0_take_21 (by decide) (s_istore_n dX0_take_22 rfl tX0_take_23)) tX0_take_20)))))))))))
noncomputable def fX0_take : zF := z_fn 4 kX0_take_0
theorem mX0_take {l : Launch} {D : zD} {B : Nat} : z_MF l D B yX0_take xX0_take fX0_take := z_mf (by decide) rfl (fun h => by cases h) rfl (fun as σ r h => ⟨z_fn_len h, kX0_take_0, z_fn_run h, fun _ => tX0_take_0⟩)
/-! ===== RowChildren$Census.madeOf ===== -/
theorem dX0_madeOf_0 : decode cX0_madeOf 0 = .ok (.aload_n 0, 1) := by decide +kernel
theorem dX0_madeOf_1 : decode cX0_madeOf 1 = .ok (.getfield 22, 3) := by decide +kernel
theorem dX0_madeOf_4 : decode cX0_madeOf 4 = .ok (.iload_n 1, 1) := by decide +kernel
theorem dX0_madeOf_5 : decode cX0_madeOf 5 = .ok (.iconst 4, 1) := by decide +kernel
theorem dX0_madeOf_6 : decode cX0_madeOf 6 = .ok (.imul, 1) := by decide +kernel
theorem dX0_madeOf_7 : decode cX0_madeOf 7 = .ok (.iload_n 2, 1) := by decide +kernel
theorem dX0_madeOf_8 : decode cX0_madeOf 8 = .ok (.iadd, 1) := by decide +kernel
theorem dX0_madeOf_9 : decode cX0_madeOf 9 = .ok (.iaload, 1) := by decide +kernel
theorem dX0_madeOf_10 : decode cX0_madeOf 10 = .ok (.ireturn, 1) := by decide +kernel
def xX0_madeOf : zX := (RX0, cX0_madeOf, 3, (some .int), false, { frames := 1, cells := 0, slots := 0, locals := 90 }, 0, 0, 0, 0)
theorem rmX0_madeOf : z_Rm xX0_madeOf := by unfold z_Rm xX0_madeOf; exact ⟨by decide, by decide⟩
theorem reX0_madeOf : z_Re xX0_madeOf := ⟨rfl, rfl⟩
theorem rlX0_madeOf : 1 ≤ xX0_madeOf.2.2.2.2.2.1.frames ∧ 21 ≤ xX0_madeOf.2.2.2.2.2.1.locals := by unfold xX0_madeOf; exact ⟨by decide, by decide⟩
theorem meX0_madeOf : z_Me yX0_madeOf xX0_madeOf 2 := ⟨wd44, wd19, by decide, by decide, by decide +kernel⟩
noncomputable def kX0_madeOf_0 : zK zR := (q_aload 0 (q_getR 0 2 (q_iload 1 (q_push 4 (q_imul (q_iload 2 (q_iadd (q_iald q_iret))))))))
set_option maxRecDepth 100000 in
theorem tX0_madeOf_0 {l : Launch} {D : zD} {B sz0 : Nat} {post : Option Value → zS → Prop} : zSnd l D B xX0_madeOf sz0 post 0 kX0_madeOf_0 (z_Jr post) := (s_aload_n dX0_madeOf_0 rfl (s_getR (f := 2) dX0_madeOf_1 clX0 (by decide) rfl wd15 (s_iload_n dX0_madeOf_4 rfl (s_iconst dX0_madeOf_5 (by decide) (s_imul dX0_madeOf_6 (s_iload_n dX0_madeOf_7 rfl (s_iadd dX0_madeOf_8 (s_iald dX0_madeOf_9 (s_iret dX0_madeOf_10 rfl)))))))))
noncomputable def fX0_madeOf : zF := z_fn 3 kX0_madeOf_0
theorem mX0_madeOf {l : Launch} {D : zD} {B : Nat} : z_MF l D B yX0_madeOf xX0_madeOf fX0_madeOf := z_mf (by decide) rfl (fun h => by cases h) rfl (fun as σ r h => ⟨z_fn_len h, kX0_madeOf_0, z_fn_run h, fun _ => tX0_madeOf_0⟩)
/-! ===== RowChildren$Census.leastOf ===== -/
theorem dX0_leastOf_0 : decode cX0_leastOf 0 = .ok (.aload_n 0, 1) := by decide +kernel
theorem dX0_leastOf_1 : decode cX0_leastOf 1 = .ok (.getfield 26, 3) := by decide +kernel
theorem dX0_leastOf_4 : decode cX0_leastOf 4 = .ok (.iload_n 1, 1) := by decide +kernel
theorem dX0_leastOf_5 : decode cX0_leastOf 5 = .ok (.iconst 4, 1) := by decide +kernel
theorem dX0_leastOf_6 : decode cX0_leastOf 6 = .ok (.imul, 1) := by decide +kernel
theorem dX0_leastOf_7 : decode cX0_leastOf 7 = .ok (.iload_n 2, 1) := by decide +kernel
theorem dX0_leastOf_8 : decode cX0_leastOf 8 = .ok (.iadd, 1) := by decide +kernel
theorem dX0_leastOf_9 : decode cX0_leastOf 9 = .ok (.iaload, 1) := by decide +kernel
theorem dX0_leastOf_10 : decode cX0_leastOf 10 = .ok (.ireturn, 1) := by decide +kernel
def xX0_leastOf : zX := (RX0, cX0_leastOf, 3, (some .int), false, { frames := 1, cells := 0, slots := 0, locals := 90 }, 0, 0, 0, 0)
theorem rmX0_leastOf : z_Rm xX0_leastOf := by unfold z_Rm xX0_leastOf; exact ⟨by decide, by decide⟩
theorem reX0_leastOf : z_Re xX0_leastOf := ⟨rfl, rfl⟩
theorem rlX0_leastOf : 1 ≤ xX0_leastOf.2.2.2.2.2.1.frames ∧ 21 ≤ xX0_leastOf.2.2.2.2.2.1.locals := by unfold xX0_leastOf; exact ⟨by decide, by decide⟩
theorem meX0_leastOf : z_Me yX0_leastOf xX0_leastOf 2 := ⟨wd45, wd19, by decide, by decide, by decide +kernel⟩
noncomputable def kX0_leastOf_0 : zK zR := (q_aload 0 (q_getR 0 3 (q_iload 1 (q_push 4 (q_imul (q_iload 2 (q_iadd (q_iald q_iret))))))))
set_option maxRecDepth 100000 in
theorem tX0_leastOf_0 {l : Launch} {D : zD} {B sz0 : Nat} {post : Option Value → zS → Prop} : zSnd l D B xX0_leastOf sz0 post 0 kX0_leastOf_0 (z_Jr post) := (s_aload_n dX0_leastOf_0 rfl (s_getR (f := 3) dX0_leastOf_1 clX0 (by decide) rfl wd16 (s_iload_n dX0_leastOf_4 rfl (s_iconst dX0_leastOf_5 (by decide) (s_imul dX0_leastOf_6 (s_iload_n dX0_leastOf_7 rfl (s_iadd dX0_leastOf_8 (s_iald dX0_leastOf_9 (s_iret dX0_leastOf_10 rfl)))))))))
noncomputable def fX0_leastOf : zF := z_fn 3 kX0_leastOf_0
theorem mX0_leastOf {l : Launch} {D : zD} {B : Nat} : z_MF l D B yX0_leastOf xX0_leastOf fX0_leastOf := z_mf (by decide) rfl (fun h => by cases h) rfl (fun as σ r h => ⟨z_fn_len h, kX0_leastOf_0, z_fn_run h, fun _ => tX0_leastOf_0⟩)
/-! ===== RowChildren$Census.winningStart ===== -/
theorem dX0_winningStart_0 : decode cX0_winningStart 0 = .ok (.iconst 0, 1) := by decide +kernel
theorem dX0_winningStart_1 : decode cX0_winningStart 1 = .ok (.istore 4, 2) := by decide +kernel
theorem dX0_winningStart_3 : decode cX0_winningStart 3 = .ok (.iload 4, 2) := by decide +kernel
theorem dX0_winningStart_5 : decode cX0_winningStart 5 = .ok (.iload_n 3, 1) := by decide +kernel
theorem dX0_winningStart_6 : decode cX0_winningStart 6 = .ok (.if_icmp .ge 30, 3) := by decide +kernel
theorem dX0_winningStart_9 : decode cX0_winningStart 9 = .ok (.aload_n 0, 1) := by decide +kernel
theorem dX0_winningStart_10 : decode cX0_winningStart 10 = .ok (.getfield 29, 3) := by decide +kernel
theorem dX0_winningStart_13 : decode cX0_winningStart 13 = .ok (.iload_n 1, 1) := by decide +kernel
theorem dX0_winningStart_14 : decode cX0_winningStart 14 = .ok (.iconst 4, 1) := by decide +kernel
theorem dX0_winningStart_15 : decode cX0_winningStart 15 = .ok (.imul, 1) := by decide +kernel
theorem dX0_winningStart_16 : decode cX0_winningStart 16 = .ok (.iload 4, 2) := by decide +kernel
theorem dX0_winningStart_18 : decode cX0_winningStart 18 = .ok (.iadd, 1) := by decide +kernel
theorem dX0_winningStart_19 : decode cX0_winningStart 19 = .ok (.iaload, 1) := by decide +kernel
theorem dX0_winningStart_20 : decode cX0_winningStart 20 = .ok (.iload_n 2, 1) := by decide +kernel
theorem dX0_winningStart_21 : decode cX0_winningStart 21 = .ok (.iushr, 1) := by decide +kernel
theorem dX0_winningStart_22 : decode cX0_winningStart 22 = .ok (.iconst 1, 1) := by decide +kernel
theorem dX0_winningStart_23 : decode cX0_winningStart 23 = .ok (.iand, 1) := by decide +kernel
theorem dX0_winningStart_24 : decode cX0_winningStart 24 = .ok (.ifCond .eq 6, 3) := by decide +kernel
theorem dX0_winningStart_27 : decode cX0_winningStart 27 = .ok (.iload 4, 2) := by decide +kernel
theorem dX0_winningStart_29 : decode cX0_winningStart 29 = .ok (.ireturn, 1) := by decide +kernel
theorem dX0_winningStart_30 : decode cX0_winningStart 30 = .ok (.iinc 4 1, 3) := by decide +kernel
theorem dX0_winningStart_33 : decode cX0_winningStart 33 = .ok (.goto (-30), 3) := by decide +kernel
theorem dX0_winningStart_36 : decode cX0_winningStart 36 = .ok (.bipush (-2), 2) := by decide +kernel
theorem dX0_winningStart_38 : decode cX0_winningStart 38 = .ok (.ireturn, 1) := by decide +kernel
def xX0_winningStart : zX := (RX0, cX0_winningStart, 5, (some .int), false, { frames := 1, cells := 0, slots := 0, locals := 90 }, 0, 0, 0, 0)
theorem rmX0_winningStart : z_Rm xX0_winningStart := by unfold z_Rm xX0_winningStart; exact ⟨by decide, by decide⟩
theorem reX0_winningStart : z_Re xX0_winningStart := ⟨rfl, rfl⟩
theorem rlX0_winningStart : 1 ≤ xX0_winningStart.2.2.2.2.2.1.frames ∧ 21 ≤ xX0_winningStart.2.2.2.2.2.1.locals := by unfold xX0_winningStart; exact ⟨by decide, by decide⟩
theorem meX0_winningStart : z_Me yX0_winningStart xX0_winningStart 3 := ⟨wd46, wd19, by decide, by decide, by decide +kernel⟩
noncomputable def kX0_winningStart_36 : zK zR := (q_push (-2) q_iret)
noncomputable def kX0_winningStart_27 : zK zR := (q_iload 4 q_iret)
noncomputable def bX0_winningStart_3 : zK ((zL × zS) ⊕ zR) := (q_iload 4 (q_iload 3 (q_icmp_ge (q_dn kX0_winningStart_36) (q_aload 0 (q_getR 0 4 (q_iload 1 (q_push 4 (q_imul (q_iload 4 (q_iadd (q_iald (q_iload 2 (q_iushr (q_push 1 (q_iand (q_if_eq (q_iinc 4 1 q_ag) (q_dn kX0_winningStart_27)))))))))))))))))
noncomputable def kX0_winningStart_3 : zK zR := q_lp (bX0_winningStart_3)
noncomputable def kX0_winningStart_0 : zK zR := (q_push 0 (q_istore 4 kX0_winningStart_3))
set_option maxRecDepth 100000 in
theorem tX0_winningStart_36 {l : Launch} {D : zD} {B sz0 : Nat} {post : Option Value → zS → Prop} : zSnd l D B xX0_winningStart sz0 post 36 kX0_winningStart_36 (z_Jr post) := (s_bipush dX0_winningStart_36 (by decide) (s_iret dX0_winningStart_38 rfl))
set_option maxRecDepth 100000 in
theorem tX0_winningStart_27 {l : Launch} {D : zD} {B sz0 : Nat} {post : Option Value → zS → Prop} : zSnd l D B xX0_winningStart sz0 post 27 kX0_winningStart_27 (z_Jr post) := (s_iload dX0_winningStart_27 (s_iret dX0_winningStart_29 rfl))
set_option maxRecDepth 100000 in
theorem tX0_winningStart_3 {l : Launch} {D : zD} {B sz0 : Nat} {post : Option Value → zS → Prop} : zSnd l D B xX0_winningStart sz0 post 3 kX0_winningStart_3 (z_Jr post) := s_lp (body := bX0_winningStart_3) (s_iload dX0_winningStart_3 (s_iload_n dX0_winningStart_5 rfl (s_icmp_ge (tgt := 36) dX0_winningStart_6 (by decide) (s_dn tX0_winningStart_36) (s_aload_n dX0_winningStart_9 rfl (s_getR (f := 4) dX0_winningStart_10 clX0 (by decide) rfl wd17 (s_iload_n dX0_winningStart_13 rfl (s_iconst dX0_winningStart_14 (by decide) (s_imul dX0_winningStart_15 (s_iload dX0_winningStart_16 (s_iadd dX0_winningStart_18 (s_iald dX0_winningStart_19 (s_iload_n dX0_winningStart_20 rfl (s_iushr dX0_winningStart_21 (s_iconst dX0_winningStart_22 (by decide) (s_iand dX0_winningStart_23 (s_if_eq (tgt := 30) dX0_winningStart_24 (by decide) (s_iinc dX0_winningStart_30 (by decide) (s_goto (tgt := 3) dX0_winningStart_33 (by decide) s_ag)) (s_dn tX0_winningStart_27)))))))))))))))))
set_option maxRecDepth 100000 in
theorem tX0_winningStart_0 {l : Launch} {D : zD} {B sz0 : Nat} {post : Option Value → zS → Prop} : zSnd l D B xX0_winningStart sz0 post 0 kX0_winningStart_0 (z_Jr post) := (s_iconst dX0_winningStart_0 (by decide) (s_istore dX0_winningStart_1 tX0_winningStart_3))
noncomputable def fX0_winningStart : zF := z_fn 5 kX0_winningStart_0
theorem mX0_winningStart {l : Launch} {D : zD} {B : Nat} : z_MF l D B yX0_winningStart xX0_winningStart fX0_winningStart := z_mf (by decide) rfl (fun h => by cases h) rfl (fun as σ r h => ⟨z_fn_len h, kX0_winningStart_0, z_fn_run h, fun _ => tX0_winningStart_0⟩)
/-! ===== RowChildren$Family.<init> ===== -/
theorem dX1_init_0 : decode cX1_init 0 = .ok (.aload_n 0, 1) := by decide +kernel
theorem dX1_init_1 : decode cX1_init 1 = .ok (.invokespecial 3, 3) := by decide +kernel
theorem dX1_init_4 : decode cX1_init 4 = .ok (.aload_n 0, 1) := by decide +kernel
theorem dX1_init_5 : decode cX1_init 5 = .ok (.iconst 4, 1) := by decide +kernel
theorem dX1_init_6 : decode cX1_init 6 = .ok (.newarray .int, 2) := by decide +kernel
theorem dX1_init_8 : decode cX1_init 8 = .ok (.putfield 9, 3) := by decide +kernel
theorem dX1_init_11 : decode cX1_init 11 = .ok (.aload_n 0, 1) := by decide +kernel
theorem dX1_init_12 : decode cX1_init 12 = .ok (.bipush 32, 2) := by decide +kernel
theorem dX1_init_14 : decode cX1_init 14 = .ok (.newarray .int, 2) := by decide +kernel
theorem dX1_init_16 : decode cX1_init 16 = .ok (.putfield 15, 3) := by decide +kernel
theorem dX1_init_19 : decode cX1_init 19 = .ok (.return_, 1) := by decide +kernel
def xX1_init : zX := (RX1, cX1_init, 1, none, true, { frames := 1, cells := 2, slots := 4096, locals := 90 }, 2, 2048, 0, 0)
theorem rmX1_init : z_Rm xX1_init := by unfold z_Rm xX1_init; exact ⟨by decide, by decide⟩
theorem reX1_init : z_Re xX1_init := ⟨rfl, rfl⟩
theorem rlX1_init : 1 ≤ xX1_init.2.2.2.2.2.1.frames ∧ 21 ≤ xX1_init.2.2.2.2.2.1.locals := by unfold xX1_init; exact ⟨by decide, by decide⟩
theorem meX1_init : z_Me yX1_init xX1_init 0 := ⟨wd50, wd51, by decide, by decide, by decide +kernel⟩
noncomputable def kX1_init_0 (lim : Nat) : zK zR := (q_aload 0 (q_obj (q_aload 0 (q_push 4 (q_newa 0 2048 lim (q_putR 1 3 (q_aload 0 (q_push 32 (q_newa 0 2048 lim (q_putR 1 4 q_vret))))))))))
set_option maxRecDepth 100000 in
theorem tX1_init_0 {l : Launch} {D : zD} {B sz0 : Nat} {post : Option Value → zS → Prop} : zSnd l D B xX1_init sz0 post 0 (kX1_init_0 (sz0 + 2)) (z_Jr post) := (s_aload_n dX1_init_0 rfl (s_obj dX1_init_1 wd47 wd1 wd2 (by decide) (s_aload_n dX1_init_4 rfl (s_iconst dX1_init_5 (by decide) (s_newa (t := 0) dX1_init_6 (by decide) rfl wd3 rmX1_init rfl (by decide) rfl (s_putRF (f := 3) dX1_init_8 clX1 (by decide) rfl rfl rfl rfl (Or.inr ⟨_, rfl⟩) wd48 (s_aload_n dX1_init_11 rfl (s_bipush dX1_init_12 (by decide) (s_newa (t := 0) dX1_init_14 (by decide) rfl wd3 rmX1_init rfl (by decide) rfl (s_putRF (f := 4) dX1_init_16 clX1 (by decide) rfl rfl rfl rfl (Or.inr ⟨_, rfl⟩) wd49 (s_vret dX1_init_19 rfl)))))))))))
noncomputable def fX1_init : zF := fun as σ => z_fn 1 (kX1_init_0 (z_sz σ + 2)) as σ
theorem mX1_init {l : Launch} {D : zD} {B : Nat} : z_MF l D B yX1_init xX1_init fX1_init := z_mf (by decide) rfl (fun _ => rfl) rfl (fun as σ r h => ⟨z_fn_len h, kX1_init_0 (z_sz σ + 2), z_fn_run h, fun _ => tX1_init_0⟩)
/-! ===== RowChildren$Family.clear ===== -/
theorem dX1_clear_0 : decode cX1_clear 0 = .ok (.aload_n 0, 1) := by decide +kernel
theorem dX1_clear_1 : decode cX1_clear 1 = .ok (.iconst 0, 1) := by decide +kernel
theorem dX1_clear_2 : decode cX1_clear 2 = .ok (.putfield 18, 3) := by decide +kernel
theorem dX1_clear_5 : decode cX1_clear 5 = .ok (.aload_n 0, 1) := by decide +kernel
theorem dX1_clear_6 : decode cX1_clear 6 = .ok (.iconst 0, 1) := by decide +kernel
theorem dX1_clear_7 : decode cX1_clear 7 = .ok (.putfield 22, 3) := by decide +kernel
theorem dX1_clear_10 : decode cX1_clear 10 = .ok (.aload_n 0, 1) := by decide +kernel
theorem dX1_clear_11 : decode cX1_clear 11 = .ok (.iconst 0, 1) := by decide +kernel
theorem dX1_clear_12 : decode cX1_clear 12 = .ok (.putfield 25, 3) := by decide +kernel
theorem dX1_clear_15 : decode cX1_clear 15 = .ok (.iconst 0, 1) := by decide +kernel
theorem dX1_clear_16 : decode cX1_clear 16 = .ok (.istore_n 1, 1) := by decide +kernel
theorem dX1_clear_17 : decode cX1_clear 17 = .ok (.iload_n 1, 1) := by decide +kernel
theorem dX1_clear_18 : decode cX1_clear 18 = .ok (.iconst 4, 1) := by decide +kernel
theorem dX1_clear_19 : decode cX1_clear 19 = .ok (.if_icmp .ge 16, 3) := by decide +kernel
theorem dX1_clear_22 : decode cX1_clear 22 = .ok (.aload_n 0, 1) := by decide +kernel
theorem dX1_clear_23 : decode cX1_clear 23 = .ok (.getfield 9, 3) := by decide +kernel
theorem dX1_clear_26 : decode cX1_clear 26 = .ok (.iload_n 1, 1) := by decide +kernel
theorem dX1_clear_27 : decode cX1_clear 27 = .ok (.iconst 0, 1) := by decide +kernel
theorem dX1_clear_28 : decode cX1_clear 28 = .ok (.iastore, 1) := by decide +kernel
theorem dX1_clear_29 : decode cX1_clear 29 = .ok (.iinc 1 1, 3) := by decide +kernel
theorem dX1_clear_32 : decode cX1_clear 32 = .ok (.goto (-15), 3) := by decide +kernel
theorem dX1_clear_35 : decode cX1_clear 35 = .ok (.return_, 1) := by decide +kernel
def xX1_clear : zX := (RX1, cX1_clear, 2, none, false, { frames := 1, cells := 0, slots := 0, locals := 90 }, 0, 0, 0, 0)
theorem rmX1_clear : z_Rm xX1_clear := by unfold z_Rm xX1_clear; exact ⟨by decide, by decide⟩
theorem reX1_clear : z_Re xX1_clear := ⟨rfl, rfl⟩
theorem rlX1_clear : 1 ≤ xX1_clear.2.2.2.2.2.1.frames ∧ 21 ≤ xX1_clear.2.2.2.2.2.1.locals := by unfold xX1_clear; exact ⟨by decide, by decide⟩
theorem meX1_clear : z_Me yX1_clear xX1_clear 0 := ⟨wd55, wd51, by decide, by decide, by decide +kernel⟩
noncomputable def kX1_clear_35 : zK zR := q_vret
noncomputable def bX1_clear_17 : zK ((zL × zS) ⊕ zR) := (q_iload 1 (q_push 4 (q_icmp_ge (q_dn kX1_clear_35) (q_aload 0 (q_getR 1 3 (q_iload 1 (q_push 0 (q_iast (q_iinc 1 1 q_ag)))))))))
noncomputable def kX1_clear_17 : zK zR := q_lp (bX1_clear_17)
noncomputable def kX1_clear_0 : zK zR := (q_aload 0 (q_push 0 (q_putI 1 0 (q_aload 0 (q_push 0 (q_putI 1 1 (q_aload 0 (q_push 0 (q_putI 1 2 (q_push 0 (q_istore 1 kX1_clear_17)))))))))))
set_option maxRecDepth 100000 in
theorem tX1_clear_35 {l : Launch} {D : zD} {B sz0 : Nat} {post : Option Value → zS → Prop} : zSnd l D B xX1_clear sz0 post 35 kX1_clear_35 (z_Jr post) := (s_vret dX1_clear_35 rfl)
set_option maxRecDepth 100000 in
theorem tX1_clear_17 {l : Launch} {D : zD} {B sz0 : Nat} {post : Option Value → zS → Prop} : zSnd l D B xX1_clear sz0 post 17 kX1_clear_17 (z_Jr post) := s_lp (body := bX1_clear_17) (s_iload_n dX1_clear_17 rfl (s_iconst dX1_clear_18 (by decide) (s_icmp_ge (tgt := 35) dX1_clear_19 (by decide) (s_dn tX1_clear_35) (s_aload_n dX1_clear_22 rfl (s_getR (f := 3) dX1_clear_23 clX1 (by decide) rfl wd48 (s_iload_n dX1_clear_26 rfl (s_iconst dX1_clear_27 (by decide) (s_iast dX1_clear_28 (s_iinc dX1_clear_29 (by decide) (s_goto (tgt := 17) dX1_clear_32 (by decide) s_ag))))))))))
set_option maxRecDepth 100000 in
theorem tX1_clear_0 {l : Launch} {D : zD} {B sz0 : Nat} {post : Option Value → zS → Prop} : zSnd l D B xX1_clear sz0 post 0 kX1_clear_0 (z_Jr post) := (s_aload_n dX1_clear_0 rfl (s_iconst dX1_clear_1 (by decide) (s_putI (f := 0) dX1_clear_2 clX1 (by decide) rfl rfl rfl wd52 (s_aload_n dX1_clear_5 rfl (s_iconst dX1_clear_6 (by decide) (s_putI (f := 1) dX1_clear_7 clX1 (by decide) rfl rfl rfl wd53 (s_aload_n dX1_clear_10 rfl (s_iconst dX1_clear_11 (by decide) (s_putI (f := 2) dX1_clear_12 clX1 (by decide) rfl rfl rfl wd54 (s_iconst dX1_clear_15 (by decide) (s_istore_n dX1_clear_16 rfl tX1_clear_17)))))))))))
noncomputable def fX1_clear : zF := z_fn 2 kX1_clear_0
theorem mX1_clear {l : Launch} {D : zD} {B : Nat} : z_MF l D B yX1_clear xX1_clear fX1_clear := z_mf (by decide) rfl (fun h => by cases h) rfl (fun as σ r h => ⟨z_fn_len h, kX1_clear_0, z_fn_run h, fun _ => tX1_clear_0⟩)
/-! ===== RowChildren$Family.copyFrom ===== -/
theorem dX1_copyFrom_0 : decode cX1_copyFrom 0 = .ok (.aload_n 0, 1) := by decide +kernel
theorem dX1_copyFrom_1 : decode cX1_copyFrom 1 = .ok (.aload_n 1, 1) := by decide +kernel
theorem dX1_copyFrom_2 : decode cX1_copyFrom 2 = .ok (.getfield 18, 3) := by decide +kernel
theorem dX1_copyFrom_5 : decode cX1_copyFrom 5 = .ok (.putfield 18, 3) := by decide +kernel
theorem dX1_copyFrom_8 : decode cX1_copyFrom 8 = .ok (.aload_n 0, 1) := by decide +kernel
theorem dX1_copyFrom_9 : decode cX1_copyFrom 9 = .ok (.aload_n 1, 1) := by decide +kernel
theorem dX1_copyFrom_10 : decode cX1_copyFrom 10 = .ok (.getfield 22, 3) := by decide +kernel
theorem dX1_copyFrom_13 : decode cX1_copyFrom 13 = .ok (.putfield 22, 3) := by decide +kernel
theorem dX1_copyFrom_16 : decode cX1_copyFrom 16 = .ok (.aload_n 0, 1) := by decide +kernel
theorem dX1_copyFrom_17 : decode cX1_copyFrom 17 = .ok (.aload_n 1, 1) := by decide +kernel
theorem dX1_copyFrom_18 : decode cX1_copyFrom 18 = .ok (.getfield 25, 3) := by decide +kernel
theorem dX1_copyFrom_21 : decode cX1_copyFrom 21 = .ok (.putfield 25, 3) := by decide +kernel
theorem dX1_copyFrom_24 : decode cX1_copyFrom 24 = .ok (.aload_n 1, 1) := by decide +kernel
theorem dX1_copyFrom_25 : decode cX1_copyFrom 25 = .ok (.getfield 9, 3) := by decide +kernel
theorem dX1_copyFrom_28 : decode cX1_copyFrom 28 = .ok (.iconst 0, 1) := by decide +kernel
theorem dX1_copyFrom_29 : decode cX1_copyFrom 29 = .ok (.aload_n 0, 1) := by decide +kernel
theorem dX1_copyFrom_30 : decode cX1_copyFrom 30 = .ok (.getfield 9, 3) := by decide +kernel
theorem dX1_copyFrom_33 : decode cX1_copyFrom 33 = .ok (.iconst 0, 1) := by decide +kernel
theorem dX1_copyFrom_34 : decode cX1_copyFrom 34 = .ok (.iconst 4, 1) := by decide +kernel
theorem dX1_copyFrom_35 : decode cX1_copyFrom 35 = .ok (.invokestatic 28, 3) := by decide +kernel
theorem dX1_copyFrom_38 : decode cX1_copyFrom 38 = .ok (.aload_n 1, 1) := by decide +kernel
theorem dX1_copyFrom_39 : decode cX1_copyFrom 39 = .ok (.getfield 15, 3) := by decide +kernel
theorem dX1_copyFrom_42 : decode cX1_copyFrom 42 = .ok (.iconst 0, 1) := by decide +kernel
theorem dX1_copyFrom_43 : decode cX1_copyFrom 43 = .ok (.aload_n 0, 1) := by decide +kernel
theorem dX1_copyFrom_44 : decode cX1_copyFrom 44 = .ok (.getfield 15, 3) := by decide +kernel
theorem dX1_copyFrom_47 : decode cX1_copyFrom 47 = .ok (.iconst 0, 1) := by decide +kernel
theorem dX1_copyFrom_48 : decode cX1_copyFrom 48 = .ok (.bipush 32, 2) := by decide +kernel
theorem dX1_copyFrom_50 : decode cX1_copyFrom 50 = .ok (.invokestatic 28, 3) := by decide +kernel
theorem dX1_copyFrom_53 : decode cX1_copyFrom 53 = .ok (.return_, 1) := by decide +kernel
def xX1_copyFrom : zX := (RX1, cX1_copyFrom, 2, none, false, { frames := 1, cells := 0, slots := 0, locals := 90 }, 0, 0, 0, 0)
theorem rmX1_copyFrom : z_Rm xX1_copyFrom := by unfold z_Rm xX1_copyFrom; exact ⟨by decide, by decide⟩
theorem reX1_copyFrom : z_Re xX1_copyFrom := ⟨rfl, rfl⟩
theorem rlX1_copyFrom : 1 ≤ xX1_copyFrom.2.2.2.2.2.1.frames ∧ 21 ≤ xX1_copyFrom.2.2.2.2.2.1.locals := by unfold xX1_copyFrom; exact ⟨by decide, by decide⟩
theorem meX1_copyFrom : z_Me yX1_copyFrom xX1_copyFrom 1 := ⟨wd60, wd51, by decide, by decide, by decide +kernel⟩
noncomputable def kX1_copyFrom_0 : zK zR := (q_aload 0 (q_aload 1 (q_getI 1 0 (q_putI 1 0 (q_aload 0 (q_aload 1 (q_getI 1 1 (q_putI 1 1 (q_aload 0 (q_aload 1 (q_getI 1 2 (q_putI 1 2 (q_aload 1 (q_getR 1 3 (q_push 0 (q_aload 0 (q_getR 1 3 (q_push 0 (q_push 4 (q_acpy (q_aload 1 (q_getR 1 4 (q_push 0 (q_aload 0 (q_getR 1 4 (q_push 0 (q_push 32 (q_acpy q_vret))))))))))))))))))))))))))))
set_option maxRecDepth 100000 in
theorem tX1_copyFrom_0 {l : Launch} {D : zD} {B sz0 : Nat} {post : Option Value → zS → Prop} : zSnd l D B xX1_copyFrom sz0 post 0 kX1_copyFrom_0 (z_Jr post) := (s_aload_n dX1_copyFrom_0 rfl (s_aload_n dX1_copyFrom_1 rfl (s_getI (f := 0) dX1_copyFrom_2 clX1 (by decide) rfl wd52 (s_putI (f := 0) dX1_copyFrom_5 clX1 (by decide) rfl rfl rfl wd52 (s_aload_n dX1_copyFrom_8 rfl (s_aload_n dX1_copyFrom_9 rfl (s_getI (f := 1) dX1_copyFrom_10 clX1 (by decide) rfl wd53 (s_putI (f := 1) dX1_copyFrom_13 clX1 (by decide) rfl rfl rfl wd53 (s_aload_n dX1_copyFrom_16 rfl (s_aload_n dX1_copyFrom_17 rfl (s_getI (f := 2) dX1_copyFrom_18 clX1 (by decide) rfl wd54 (s_putI (f := 2) dX1_copyFrom_21 clX1 (by decide) rfl rfl rfl wd54 (s_aload_n dX1_copyFrom_24 rfl (s_getR (f := 3) dX1_copyFrom_25 clX1 (by decide) rfl wd48 (s_iconst dX1_copyFrom_28 (by decide) (s_aload_n dX1_copyFrom_29 rfl (s_getR (f := 3) dX1_copyFrom_30 clX1 (by decide) rfl wd48 (s_iconst dX1_copyFrom_33 (by decide) (s_iconst dX1_copyFrom_34 (by decide) (s_acpy dX1_copyFrom_35 wd56 wd57 wd58 wd59 (by decide) (s_aload_n dX1_copyFrom_38 rfl (s_getR (f := 4) dX1_copyFrom_39 clX1 (by decide) rfl wd49 (s_iconst dX1_copyFrom_42 (by decide) (s_aload_n dX1_copyFrom_43 rfl (s_getR (f := 4) dX1_copyFrom_44 clX1 (by decide) rfl wd49 (s_iconst dX1_copyFrom_47 (by decide) (s_bipush dX1_copyFrom_48 (by decide) (s_acpy dX1_copyFrom_50 wd56 wd57 wd58 wd59 (by decide) (s_vret dX1_copyFrom_53 rfl)))))))))))))))))))))))))))))
noncomputable def fX1_copyFrom : zF := z_fn 2 kX1_copyFrom_0
theorem mX1_copyFrom {l : Launch} {D : zD} {B : Nat} : z_MF l D B yX1_copyFrom xX1_copyFrom fX1_copyFrom := z_mf (by decide) rfl (fun h => by cases h) rfl (fun as σ r h => ⟨z_fn_len h, kX1_copyFrom_0, z_fn_run h, fun _ => tX1_copyFrom_0⟩)
/-! ===== RowChildren$Family.lengthOf ===== -/
theorem dX1_lengthOf_0 : decode cX1_lengthOf 0 = .ok (.aload_n 0, 1) := by decide +kernel
theorem dX1_lengthOf_1 : decode cX1_lengthOf 1 = .ok (.getfield 9, 3) := by decide +kernel
theorem dX1_lengthOf_4 : decode cX1_lengthOf 4 = .ok (.iload_n 1, 1) := by decide +kernel
theorem dX1_lengthOf_5 : decode cX1_lengthOf 5 = .ok (.iconst 3, 1) := by decide +kernel
theorem dX1_lengthOf_6 : decode cX1_lengthOf 6 = .ok (.iand, 1) := by decide +kernel
theorem dX1_lengthOf_7 : decode cX1_lengthOf 7 = .ok (.iaload, 1) := by decide +kernel
theorem dX1_lengthOf_8 : decode cX1_lengthOf 8 = .ok (.ireturn, 1) := by decide +kernel
def xX1_lengthOf : zX := (RX1, cX1_lengthOf, 2, (some .int), false, { frames := 1, cells := 0, slots := 0, locals := 90 }, 0, 0, 0, 0)
theorem rmX1_lengthOf : z_Rm xX1_lengthOf := by unfold z_Rm xX1_lengthOf; exact ⟨by decide, by decide⟩
theorem reX1_lengthOf : z_Re xX1_lengthOf := ⟨rfl, rfl⟩
theorem rlX1_lengthOf : 1 ≤ xX1_lengthOf.2.2.2.2.2.1.frames ∧ 21 ≤ xX1_lengthOf.2.2.2.2.2.1.locals := by unfold xX1_lengthOf; exact ⟨by decide, by decide⟩
theorem meX1_lengthOf : z_Me yX1_lengthOf xX1_lengthOf 1 := ⟨wd61, wd51, by decide, by decide, by decide +kernel⟩
noncomputable def kX1_lengthOf_0 : zK zR := (q_aload 0 (q_getR 1 3 (q_iload 1 (q_push 3 (q_iand (q_iald q_iret))))))
set_option maxRecDepth 100000 in
theorem tX1_lengthOf_0 {l : Launch} {D : zD} {B sz0 : Nat} {post : Option Value → zS → Prop} : zSnd l D B xX1_lengthOf sz0 post 0 kX1_lengthOf_0 (z_Jr post) := (s_aload_n dX1_lengthOf_0 rfl (s_getR (f := 3) dX1_lengthOf_1 clX1 (by decide) rfl wd48 (s_iload_n dX1_lengthOf_4 rfl (s_iconst dX1_lengthOf_5 (by decide) (s_iand dX1_lengthOf_6 (s_iald dX1_lengthOf_7 (s_iret dX1_lengthOf_8 rfl)))))))
noncomputable def fX1_lengthOf : zF := z_fn 2 kX1_lengthOf_0
theorem mX1_lengthOf {l : Launch} {D : zD} {B : Nat} : z_MF l D B yX1_lengthOf xX1_lengthOf fX1_lengthOf := z_mf (by decide) rfl (fun h => by cases h) rfl (fun as σ r h => ⟨z_fn_len h, kX1_lengthOf_0, z_fn_run h, fun _ => tX1_lengthOf_0⟩)
/-! ===== RowChildren$Family.setLength ===== -/
theorem dX1_setLength_0 : decode cX1_setLength 0 = .ok (.aload_n 0, 1) := by decide +kernel
theorem dX1_setLength_1 : decode cX1_setLength 1 = .ok (.getfield 9, 3) := by decide +kernel
theorem dX1_setLength_4 : decode cX1_setLength 4 = .ok (.iload_n 1, 1) := by decide +kernel
theorem dX1_setLength_5 : decode cX1_setLength 5 = .ok (.iconst 3, 1) := by decide +kernel
theorem dX1_setLength_6 : decode cX1_setLength 6 = .ok (.iand, 1) := by decide +kernel
theorem dX1_setLength_7 : decode cX1_setLength 7 = .ok (.iload_n 2, 1) := by decide +kernel
theorem dX1_setLength_8 : decode cX1_setLength 8 = .ok (.iastore, 1) := by decide +kernel
theorem dX1_setLength_9 : decode cX1_setLength 9 = .ok (.return_, 1) := by decide +kernel
def xX1_setLength : zX := (RX1, cX1_setLength, 3, none, false, { frames := 1, cells := 0, slots := 0, locals := 90 }, 0, 0, 0, 0)
theorem rmX1_setLength : z_Rm xX1_setLength := by unfold z_Rm xX1_setLength; exact ⟨by decide, by decide⟩
theorem reX1_setLength : z_Re xX1_setLength := ⟨rfl, rfl⟩
theorem rlX1_setLength : 1 ≤ xX1_setLength.2.2.2.2.2.1.frames ∧ 21 ≤ xX1_setLength.2.2.2.2.2.1.locals := by unfold xX1_setLength; exact ⟨by decide, by decide⟩
theorem meX1_setLength : z_Me yX1_setLength xX1_setLength 2 := ⟨wd62, wd51, by decide, by decide, by decide +kernel⟩
noncomputable def kX1_setLength_0 : zK zR := (q_aload 0 (q_getR 1 3 (q_iload 1 (q_push 3 (q_iand (q_iload 2 (q_iast q_vret)))))))
set_option maxRecDepth 100000 in
theorem tX1_setLength_0 {l : Launch} {D : zD} {B sz0 : Nat} {post : Option Value → zS → Prop} : zSnd l D B xX1_setLength sz0 post 0 kX1_setLength_0 (z_Jr post) := (s_aload_n dX1_setLength_0 rfl (s_getR (f := 3) dX1_setLength_1 clX1 (by decide) rfl wd48 (s_iload_n dX1_setLength_4 rfl (s_iconst dX1_setLength_5 (by decide) (s_iand dX1_setLength_6 (s_iload_n dX1_setLength_7 rfl (s_iast dX1_setLength_8 (s_vret dX1_setLength_9 rfl))))))))
noncomputable def fX1_setLength : zF := z_fn 3 kX1_setLength_0
theorem mX1_setLength {l : Launch} {D : zD} {B : Nat} : z_MF l D B yX1_setLength xX1_setLength fX1_setLength := z_mf (by decide) rfl (fun h => by cases h) rfl (fun as σ r h => ⟨z_fn_len h, kX1_setLength_0, z_fn_run h, fun _ => tX1_setLength_0⟩)
/-! ===== RowChildren$Family.colourAt ===== -/
theorem dX1_colourAt_0 : decode cX1_colourAt 0 = .ok (.aload_n 0, 1) := by decide +kernel
theorem dX1_colourAt_1 : decode cX1_colourAt 1 = .ok (.getfield 15, 3) := by decide +kernel
theorem dX1_colourAt_4 : decode cX1_colourAt 4 = .ok (.iload_n 1, 1) := by decide +kernel
theorem dX1_colourAt_5 : decode cX1_colourAt 5 = .ok (.iconst 3, 1) := by decide +kernel
theorem dX1_colourAt_6 : decode cX1_colourAt 6 = .ok (.iand, 1) := by decide +kernel
theorem dX1_colourAt_7 : decode cX1_colourAt 7 = .ok (.bipush 8, 2) := by decide +kernel
theorem dX1_colourAt_9 : decode cX1_colourAt 9 = .ok (.imul, 1) := by decide +kernel
theorem dX1_colourAt_10 : decode cX1_colourAt 10 = .ok (.iload_n 2, 1) := by decide +kernel
theorem dX1_colourAt_11 : decode cX1_colourAt 11 = .ok (.bipush 7, 2) := by decide +kernel
theorem dX1_colourAt_13 : decode cX1_colourAt 13 = .ok (.iand, 1) := by decide +kernel
theorem dX1_colourAt_14 : decode cX1_colourAt 14 = .ok (.iadd, 1) := by decide +kernel
theorem dX1_colourAt_15 : decode cX1_colourAt 15 = .ok (.iaload, 1) := by decide +kernel
theorem dX1_colourAt_16 : decode cX1_colourAt 16 = .ok (.ireturn, 1) := by decide +kernel
def xX1_colourAt : zX := (RX1, cX1_colourAt, 3, (some .int), false, { frames := 1, cells := 0, slots := 0, locals := 90 }, 0, 0, 0, 0)
theorem rmX1_colourAt : z_Rm xX1_colourAt := by unfold z_Rm xX1_colourAt; exact ⟨by decide, by decide⟩
theorem reX1_colourAt : z_Re xX1_colourAt := ⟨rfl, rfl⟩
theorem rlX1_colourAt : 1 ≤ xX1_colourAt.2.2.2.2.2.1.frames ∧ 21 ≤ xX1_colourAt.2.2.2.2.2.1.locals := by unfold xX1_colourAt; exact ⟨by decide, by decide⟩
theorem meX1_colourAt : z_Me yX1_colourAt xX1_colourAt 2 := ⟨wd63, wd51, by decide, by decide, by decide +kernel⟩
noncomputable def kX1_colourAt_0 : zK zR := (q_aload 0 (q_getR 1 4 (q_iload 1 (q_push 3 (q_iand (q_push 8 (q_imul (q_iload 2 (q_push 7 (q_iand (q_iadd (q_iald q_iret))))))))))))
set_option maxRecDepth 100000 in
theorem tX1_colourAt_0 {l : Launch} {D : zD} {B sz0 : Nat} {post : Option Value → zS → Prop} : zSnd l D B xX1_colourAt sz0 post 0 kX1_colourAt_0 (z_Jr post) := (s_aload_n dX1_colourAt_0 rfl (s_getR (f := 4) dX1_colourAt_1 clX1 (by decide) rfl wd49 (s_iload_n dX1_colourAt_4 rfl (s_iconst dX1_colourAt_5 (by decide) (s_iand dX1_colourAt_6 (s_bipush dX1_colourAt_7 (by decide) (s_imul dX1_colourAt_9 (s_iload_n dX1_colourAt_10 rfl (s_bipush dX1_colourAt_11 (by decide) (s_iand dX1_colourAt_13 (s_iadd dX1_colourAt_14 (s_iald dX1_colourAt_15 (s_iret dX1_colourAt_16 rfl)))))))))))))
noncomputable def fX1_colourAt : zF := z_fn 3 kX1_colourAt_0
theorem mX1_colourAt {l : Launch} {D : zD} {B : Nat} : z_MF l D B yX1_colourAt xX1_colourAt fX1_colourAt := z_mf (by decide) rfl (fun h => by cases h) rfl (fun as σ r h => ⟨z_fn_len h, kX1_colourAt_0, z_fn_run h, fun _ => tX1_colourAt_0⟩)
/-! ===== RowChildren$Family.setColour ===== -/
theorem dX1_setColour_0 : decode cX1_setColour 0 = .ok (.aload_n 0, 1) := by decide +kernel
theorem dX1_setColour_1 : decode cX1_setColour 1 = .ok (.getfield 15, 3) := by decide +kernel
theorem dX1_setColour_4 : decode cX1_setColour 4 = .ok (.iload_n 1, 1) := by decide +kernel
theorem dX1_setColour_5 : decode cX1_setColour 5 = .ok (.iconst 3, 1) := by decide +kernel
theorem dX1_setColour_6 : decode cX1_setColour 6 = .ok (.iand, 1) := by decide +kernel
theorem dX1_setColour_7 : decode cX1_setColour 7 = .ok (.bipush 8, 2) := by decide +kernel
theorem dX1_setColour_9 : decode cX1_setColour 9 = .ok (.imul, 1) := by decide +kernel
theorem dX1_setColour_10 : decode cX1_setColour 10 = .ok (.iload_n 2, 1) := by decide +kernel
theorem dX1_setColour_11 : decode cX1_setColour 11 = .ok (.bipush 7, 2) := by decide +kernel
theorem dX1_setColour_13 : decode cX1_setColour 13 = .ok (.iand, 1) := by decide +kernel
theorem dX1_setColour_14 : decode cX1_setColour 14 = .ok (.iadd, 1) := by decide +kernel
theorem dX1_setColour_15 : decode cX1_setColour 15 = .ok (.iload_n 3, 1) := by decide +kernel
theorem dX1_setColour_16 : decode cX1_setColour 16 = .ok (.iastore, 1) := by decide +kernel
theorem dX1_setColour_17 : decode cX1_setColour 17 = .ok (.return_, 1) := by decide +kernel
def xX1_setColour : zX := (RX1, cX1_setColour, 4, none, false, { frames := 1, cells := 0, slots := 0, locals := 90 }, 0, 0, 0, 0)
theorem rmX1_setColour : z_Rm xX1_setColour := by unfold z_Rm xX1_setColour; exact ⟨by decide, by decide⟩
theorem reX1_setColour : z_Re xX1_setColour := ⟨rfl, rfl⟩
theorem rlX1_setColour : 1 ≤ xX1_setColour.2.2.2.2.2.1.frames ∧ 21 ≤ xX1_setColour.2.2.2.2.2.1.locals := by unfold xX1_setColour; exact ⟨by decide, by decide⟩
theorem meX1_setColour : z_Me yX1_setColour xX1_setColour 3 := ⟨wd64, wd51, by decide, by decide, by decide +kernel⟩
noncomputable def kX1_setColour_0 : zK zR := (q_aload 0 (q_getR 1 4 (q_iload 1 (q_push 3 (q_iand (q_push 8 (q_imul (q_iload 2 (q_push 7 (q_iand (q_iadd (q_iload 3 (q_iast q_vret)))))))))))))
set_option maxRecDepth 100000 in
theorem tX1_setColour_0 {l : Launch} {D : zD} {B sz0 : Nat} {post : Option Value → zS → Prop} : zSnd l D B xX1_setColour sz0 post 0 kX1_setColour_0 (z_Jr post) := (s_aload_n dX1_setColour_0 rfl (s_getR (f := 4) dX1_setColour_1 clX1 (by decide) rfl wd49 (s_iload_n dX1_setColour_4 rfl (s_iconst dX1_setColour_5 (by decide) (s_iand dX1_setColour_6 (s_bipush dX1_setColour_7 (by decide) (s_imul dX1_setColour_9 (s_iload_n dX1_setColour_10 rfl (s_bipush dX1_setColour_11 (by decide) (s_iand dX1_setColour_13 (s_iadd dX1_setColour_14 (s_iload_n dX1_setColour_15 rfl (s_iast dX1_setColour_16 (s_vret dX1_setColour_17 rfl))))))))))))))
noncomputable def fX1_setColour : zF := z_fn 4 kX1_setColour_0
theorem mX1_setColour {l : Launch} {D : zD} {B : Nat} : z_MF l D B yX1_setColour xX1_setColour fX1_setColour := z_mf (by decide) rfl (fun h => by cases h) rfl (fun as σ r h => ⟨z_fn_len h, kX1_setColour_0, z_fn_run h, fun _ => tX1_setColour_0⟩)
/-! ===== RowChildren$Family.append ===== -/
theorem dX1_append_0 : decode cX1_append 0 = .ok (.aload_n 0, 1) := by decide +kernel
theorem dX1_append_1 : decode cX1_append 1 = .ok (.iload_n 1, 1) := by decide +kernel
theorem dX1_append_2 : decode cX1_append 2 = .ok (.invokevirtual 34, 3) := by decide +kernel
theorem dX1_append_5 : decode cX1_append 5 = .ok (.bipush 8, 2) := by decide +kernel
theorem dX1_append_7 : decode cX1_append 7 = .ok (.if_icmp .ge 26, 3) := by decide +kernel
theorem dX1_append_10 : decode cX1_append 10 = .ok (.aload_n 0, 1) := by decide +kernel
theorem dX1_append_11 : decode cX1_append 11 = .ok (.iload_n 1, 1) := by decide +kernel
theorem dX1_append_12 : decode cX1_append 12 = .ok (.aload_n 0, 1) := by decide +kernel
theorem dX1_append_13 : decode cX1_append 13 = .ok (.iload_n 1, 1) := by decide +kernel
theorem dX1_append_14 : decode cX1_append 14 = .ok (.invokevirtual 34, 3) := by decide +kernel
theorem dX1_append_17 : decode cX1_append 17 = .ok (.iload_n 2, 1) := by decide +kernel
theorem dX1_append_18 : decode cX1_append 18 = .ok (.invokevirtual 38, 3) := by decide +kernel
theorem dX1_append_21 : decode cX1_append 21 = .ok (.aload_n 0, 1) := by decide +kernel
theorem dX1_append_22 : decode cX1_append 22 = .ok (.iload_n 1, 1) := by decide +kernel
theorem dX1_append_23 : decode cX1_append 23 = .ok (.aload_n 0, 1) := by decide +kernel
theorem dX1_append_24 : decode cX1_append 24 = .ok (.iload_n 1, 1) := by decide +kernel
theorem dX1_append_25 : decode cX1_append 25 = .ok (.invokevirtual 34, 3) := by decide +kernel
theorem dX1_append_28 : decode cX1_append 28 = .ok (.iconst 1, 1) := by decide +kernel
theorem dX1_append_29 : decode cX1_append 29 = .ok (.iadd, 1) := by decide +kernel
theorem dX1_append_30 : decode cX1_append 30 = .ok (.invokevirtual 42, 3) := by decide +kernel
theorem dX1_append_33 : decode cX1_append 33 = .ok (.return_, 1) := by decide +kernel
def xX1_append : zX := (RX1, cX1_append, 3, none, false, { frames := 2, cells := 0, slots := 0, locals := 113 }, 0, 0, 0, 0)
theorem rmX1_append : z_Rm xX1_append := by unfold z_Rm xX1_append; exact ⟨by decide, by decide⟩
theorem reX1_append : z_Re xX1_append := ⟨rfl, rfl⟩
theorem rlX1_append : 1 ≤ xX1_append.2.2.2.2.2.1.frames ∧ 21 ≤ xX1_append.2.2.2.2.2.1.locals := by unfold xX1_append; exact ⟨by decide, by decide⟩
theorem meX1_append : z_Me yX1_append xX1_append 2 := ⟨wd74, wd51, by decide, by decide, by decide +kernel⟩
theorem fitX1_append_2 : z_Fit xX1_lengthOf xX1_append := by unfold z_Fit; simp only [xX1_lengthOf, xX1_append]; exact ⟨by decide, by decide⟩
theorem fitX1_append_14 : z_Fit xX1_lengthOf xX1_append := by unfold z_Fit; simp only [xX1_lengthOf, xX1_append]; exact ⟨by decide, by decide⟩
theorem fitX1_append_18 : z_Fit xX1_setColour xX1_append := by unfold z_Fit; simp only [xX1_setColour, xX1_append]; exact ⟨by decide, by decide⟩
theorem fitX1_append_25 : z_Fit xX1_lengthOf xX1_append := by unfold z_Fit; simp only [xX1_lengthOf, xX1_append]; exact ⟨by decide, by decide⟩
theorem fitX1_append_30 : z_Fit xX1_setLength xX1_append := by unfold z_Fit; simp only [xX1_setLength, xX1_append]; exact ⟨by decide, by decide⟩
noncomputable def kX1_append_33 : zK zR := q_vret
noncomputable def kX1_append_0 : zK zR := (q_aload 0 (q_iload 1 (q_callV 1 fX1_lengthOf 1 (q_push 8 (q_icmp_ge kX1_append_33 (q_aload 0 (q_iload 1 (q_aload 0 (q_iload 1 (q_callV 1 fX1_lengthOf 1 (q_iload 2 (q_callV 1 fX1_setColour 3 (q_aload 0 (q_iload 1 (q_aload 0 (q_iload 1 (q_callV 1 fX1_lengthOf 1 (q_push 1 (q_iadd (q_callV 1 fX1_setLength 2 kX1_append_33))))))))))))))))))))
set_option maxRecDepth 100000 in
theorem tX1_append_33 {l : Launch} {D : zD} {B sz0 : Nat} {post : Option Value → zS → Prop} : zSnd l D B xX1_append sz0 post 33 kX1_append_33 (z_Jr post) := (s_vret dX1_append_33 rfl)
set_option maxRecDepth 100000 in
theorem tX1_append_0 {l : Launch} {D : zD} {B sz0 : Nat} {post : Option Value → zS → Prop} : zSnd l D B xX1_append sz0 post 0 kX1_append_0 (z_Jr post) := (s_aload_n dX1_append_0 rfl (s_iload_n dX1_append_1 rfl (s_callV (r := (RX1, TX1, 5)) dX1_append_2 mX1_lengthOf meX1_lengthOf wd65 wd66 rfl rfl reX1_lengthOf rmX1_append (fitX1_append_2) wd67 (s_bipush dX1_append_5 (by decide) (s_icmp_ge (tgt := 33) dX1_append_7 (by decide) tX1_append_33 (s_aload_n dX1_append_10 rfl (s_iload_n dX1_append_11 rfl (s_aload_n dX1_append_12 rfl (s_iload_n dX1_append_13 rfl (s_callV (r := (RX1, TX1, 5)) dX1_append_14 mX1_lengthOf meX1_lengthOf wd65 wd66 rfl rfl reX1_lengthOf rmX1_append (fitX1_append_14) wd67 (s_iload_n dX1_append_17 rfl (s_callV (r := (RX1, TX1, 5)) dX1_append_18 mX1_setColour meX1_setColour wd68 wd69 rfl rfl reX1_setColour rmX1_append (fitX1_append_18) wd70 (s_aload_n dX1_append_21 rfl (s_iload_n dX1_append_22 rfl (s_aload_n dX1_append_23 rfl (s_iload_n dX1_append_24 rfl (s_callV (r := (RX1, TX1, 5)) dX1_append_25 mX1_lengthOf meX1_lengthOf wd65 wd66 rfl rfl reX1_lengthOf rmX1_append (fitX1_append_25) wd67 (s_iconst dX1_append_28 (by decide) (s_iadd dX1_append_29 (s_callV (r := (RX1, TX1, 5)) dX1_append_30 mX1_setLength meX1_setLength wd71 wd72 rfl rfl reX1_setLength rmX1_append (fitX1_append_30) wd73 tX1_append_33))))))))))))))))))))
noncomputable def fX1_append : zF := z_fn 3 kX1_append_0
theorem mX1_append {l : Launch} {D : zD} {B : Nat} : z_MF l D B yX1_append xX1_append fX1_append := z_mf (by decide) rfl (fun h => by cases h) rfl (fun as σ r h => ⟨z_fn_len h, kX1_append_0, z_fn_run h, fun _ => tX1_append_0⟩)
/-! ===== RowChildren$Family.numberOf ===== -/
theorem dX1_numberOf_0 : decode cX1_numberOf 0 = .ok (.iconst 0, 1) := by decide +kernel
theorem dX1_numberOf_1 : decode cX1_numberOf 1 = .ok (.istore_n 3, 1) := by decide +kernel
theorem dX1_numberOf_2 : decode cX1_numberOf 2 = .ok (.iconst 0, 1) := by decide +kernel
theorem dX1_numberOf_3 : decode cX1_numberOf 3 = .ok (.istore 4, 2) := by decide +kernel
theorem dX1_numberOf_5 : decode cX1_numberOf 5 = .ok (.iload 4, 2) := by decide +kernel
theorem dX1_numberOf_7 : decode cX1_numberOf 7 = .ok (.aload_n 0, 1) := by decide +kernel
theorem dX1_numberOf_8 : decode cX1_numberOf 8 = .ok (.iload_n 1, 1) := by decide +kernel
theorem dX1_numberOf_9 : decode cX1_numberOf 9 = .ok (.invokevirtual 34, 3) := by decide +kernel
theorem dX1_numberOf_12 : decode cX1_numberOf 12 = .ok (.if_icmp .ge 21, 3) := by decide +kernel
theorem dX1_numberOf_15 : decode cX1_numberOf 15 = .ok (.iload_n 3, 1) := by decide +kernel
theorem dX1_numberOf_16 : decode cX1_numberOf 16 = .ok (.iload_n 2, 1) := by decide +kernel
theorem dX1_numberOf_17 : decode cX1_numberOf 17 = .ok (.imul, 1) := by decide +kernel
theorem dX1_numberOf_18 : decode cX1_numberOf 18 = .ok (.aload_n 0, 1) := by decide +kernel
theorem dX1_numberOf_19 : decode cX1_numberOf 19 = .ok (.iload_n 1, 1) := by decide +kernel
theorem dX1_numberOf_20 : decode cX1_numberOf 20 = .ok (.iload 4, 2) := by decide +kernel
theorem dX1_numberOf_22 : decode cX1_numberOf 22 = .ok (.invokevirtual 46, 3) := by decide +kernel
theorem dX1_numberOf_25 : decode cX1_numberOf 25 = .ok (.iadd, 1) := by decide +kernel
theorem dX1_numberOf_26 : decode cX1_numberOf 26 = .ok (.istore_n 3, 1) := by decide +kernel
theorem dX1_numberOf_27 : decode cX1_numberOf 27 = .ok (.iinc 4 1, 3) := by decide +kernel
theorem dX1_numberOf_30 : decode cX1_numberOf 30 = .ok (.goto (-25), 3) := by decide +kernel
theorem dX1_numberOf_33 : decode cX1_numberOf 33 = .ok (.iload_n 3, 1) := by decide +kernel
theorem dX1_numberOf_34 : decode cX1_numberOf 34 = .ok (.ireturn, 1) := by decide +kernel
def xX1_numberOf : zX := (RX1, cX1_numberOf, 5, (some .int), false, { frames := 2, cells := 0, slots := 0, locals := 112 }, 0, 0, 0, 0)
theorem rmX1_numberOf : z_Rm xX1_numberOf := by unfold z_Rm xX1_numberOf; exact ⟨by decide, by decide⟩
theorem reX1_numberOf : z_Re xX1_numberOf := ⟨rfl, rfl⟩
theorem rlX1_numberOf : 1 ≤ xX1_numberOf.2.2.2.2.2.1.frames ∧ 21 ≤ xX1_numberOf.2.2.2.2.2.1.locals := by unfold xX1_numberOf; exact ⟨by decide, by decide⟩
theorem meX1_numberOf : z_Me yX1_numberOf xX1_numberOf 2 := ⟨wd78, wd51, by decide, by decide, by decide +kernel⟩
theorem fitX1_numberOf_9 : z_Fit xX1_lengthOf xX1_numberOf := by unfold z_Fit; simp only [xX1_lengthOf, xX1_numberOf]; exact ⟨by decide, by decide⟩
theorem fitX1_numberOf_22 : z_Fit xX1_colourAt xX1_numberOf := by unfold z_Fit; simp only [xX1_colourAt, xX1_numberOf]; exact ⟨by decide, by decide⟩
noncomputable def kX1_numberOf_33 : zK zR := (q_iload 3 q_iret)
noncomputable def bX1_numberOf_5 : zK ((zL × zS) ⊕ zR) := (q_iload 4 (q_aload 0 (q_iload 1 (q_callV 1 fX1_lengthOf 1 (q_icmp_ge (q_dn kX1_numberOf_33) (q_iload 3 (q_iload 2 (q_imul (q_aload 0 (q_iload 1 (q_iload 4 (q_callV 1 fX1_colourAt 2 (q_iadd (q_istore 3 (q_iinc 4 1 q_ag)))))))))))))))
noncomputable def kX1_numberOf_5 : zK zR := q_lp (bX1_numberOf_5)
noncomputable def kX1_numberOf_0 : zK zR := (q_push 0 (q_istore 3 (q_push 0 (q_istore 4 kX1_numberOf_5))))
set_option maxRecDepth 100000 in
theorem tX1_numberOf_33 {l : Launch} {D : zD} {B sz0 : Nat} {post : Option Value → zS → Prop} : zSnd l D B xX1_numberOf sz0 post 33 kX1_numberOf_33 (z_Jr post) := (s_iload_n dX1_numberOf_33 rfl (s_iret dX1_numberOf_34 rfl))
set_option maxRecDepth 100000 in
theorem tX1_numberOf_5 {l : Launch} {D : zD} {B sz0 : Nat} {post : Option Value → zS → Prop} : zSnd l D B xX1_numberOf sz0 post 5 kX1_numberOf_5 (z_Jr post) := s_lp (body := bX1_numberOf_5) (s_iload dX1_numberOf_5 (s_aload_n dX1_numberOf_7 rfl (s_iload_n dX1_numberOf_8 rfl (s_callV (r := (RX1, TX1, 5)) dX1_numberOf_9 mX1_lengthOf meX1_lengthOf wd65 wd66 rfl rfl reX1_lengthOf rmX1_numberOf (fitX1_numberOf_9) wd67 (s_icmp_ge (tgt := 33) dX1_numberOf_12 (by decide) (s_dn tX1_numberOf_33) (s_iload_n dX1_numberOf_15 rfl (s_iload_n dX1_numberOf_16 rfl (s_imul dX1_numberOf_17 (s_aload_n dX1_numberOf_18 rfl (s_iload_n dX1_numberOf_19 rfl (s_iload dX1_numberOf_20 (s_callV (r := (RX1, TX1, 5)) dX1_numberOf_22 mX1_colourAt meX1_colourAt wd75 wd76 rfl rfl reX1_colourAt rmX1_numberOf (fitX1_numberOf_22) wd77 (s_iadd dX1_numberOf_25 (s_istore_n dX1_numberOf_26 rfl (s_iinc dX1_numberOf_27 (by decide) (s_goto (tgt := 5) dX1_numberOf_30 (by decide) s_ag))))))))))))))))
set_option maxRecDepth 100000 in
theorem tX1_numberOf_0 {l : Launch} {D : zD} {B sz0 : Nat} {post : Option Value → zS → Prop} : zSnd l D B xX1_numberOf sz0 post 0 kX1_numberOf_0 (z_Jr post) := (s_iconst dX1_numberOf_0 (by decide) (s_istore_n dX1_numberOf_1 rfl (s_iconst dX1_numberOf_2 (by decide) (s_istore dX1_numberOf_3 tX1_numberOf_5))))
noncomputable def fX1_numberOf : zF := z_fn 5 kX1_numberOf_0
theorem mX1_numberOf {l : Launch} {D : zD} {B : Nat} : z_MF l D B yX1_numberOf xX1_numberOf fX1_numberOf := z_mf (by decide) rfl (fun h => by cases h) rfl (fun as σ r h => ⟨z_fn_len h, kX1_numberOf_0, z_fn_run h, fun _ => tX1_numberOf_0⟩)
/-! ===== RowChildren$Family.packed ===== -/
theorem dX1_packed_0 : decode cX1_packed 0 = .ok (.aload_n 0, 1) := by decide +kernel
theorem dX1_packed_1 : decode cX1_packed 1 = .ok (.iload_n 1, 1) := by decide +kernel
theorem dX1_packed_2 : decode cX1_packed 2 = .ok (.iconst 4, 1) := by decide +kernel
theorem dX1_packed_3 : decode cX1_packed 3 = .ok (.invokevirtual 50, 3) := by decide +kernel
theorem dX1_packed_6 : decode cX1_packed 6 = .ok (.ireturn, 1) := by decide +kernel
def xX1_packed : zX := (RX1, cX1_packed, 2, (some .int), false, { frames := 3, cells := 0, slots := 0, locals := 136 }, 0, 0, 0, 0)
theorem rmX1_packed : z_Rm xX1_packed := by unfold z_Rm xX1_packed; exact ⟨by decide, by decide⟩
theorem reX1_packed : z_Re xX1_packed := ⟨rfl, rfl⟩
theorem rlX1_packed : 1 ≤ xX1_packed.2.2.2.2.2.1.frames ∧ 21 ≤ xX1_packed.2.2.2.2.2.1.locals := by unfold xX1_packed; exact ⟨by decide, by decide⟩
theorem meX1_packed : z_Me yX1_packed xX1_packed 1 := ⟨wd82, wd51, by decide, by decide, by decide +kernel⟩
theorem fitX1_packed_3 : z_Fit xX1_numberOf xX1_packed := by unfold z_Fit; simp only [xX1_numberOf, xX1_packed]; exact ⟨by decide, by decide⟩
noncomputable def kX1_packed_0 : zK zR := (q_aload 0 (q_iload 1 (q_push 4 (q_callV 1 fX1_numberOf 2 q_iret))))
set_option maxRecDepth 100000 in
theorem tX1_packed_0 {l : Launch} {D : zD} {B sz0 : Nat} {post : Option Value → zS → Prop} : zSnd l D B xX1_packed sz0 post 0 kX1_packed_0 (z_Jr post) := (s_aload_n dX1_packed_0 rfl (s_iload_n dX1_packed_1 rfl (s_iconst dX1_packed_2 (by decide) (s_callV (r := (RX1, TX1, 5)) dX1_packed_3 mX1_numberOf meX1_numberOf wd79 wd80 rfl rfl reX1_numberOf rmX1_packed (fitX1_packed_3) wd81 (s_iret dX1_packed_6 rfl)))))
noncomputable def fX1_packed : zF := z_fn 2 kX1_packed_0
theorem mX1_packed {l : Launch} {D : zD} {B : Nat} : z_MF l D B yX1_packed xX1_packed fX1_packed := z_mf (by decide) rfl (fun h => by cases h) rfl (fun as σ r h => ⟨z_fn_len h, kX1_packed_0, z_fn_run h, fun _ => tX1_packed_0⟩)
/-! ===== RowChildren$Family.amountOf ===== -/
theorem dX1_amountOf_0 : decode cX1_amountOf 0 = .ok (.iconst 0, 1) := by decide +kernel
theorem dX1_amountOf_1 : decode cX1_amountOf 1 = .ok (.istore_n 3, 1) := by decide +kernel
theorem dX1_amountOf_2 : decode cX1_amountOf 2 = .ok (.iconst 0, 1) := by decide +kernel
theorem dX1_amountOf_3 : decode cX1_amountOf 3 = .ok (.istore 4, 2) := by decide +kernel
theorem dX1_amountOf_5 : decode cX1_amountOf 5 = .ok (.iload 4, 2) := by decide +kernel
theorem dX1_amountOf_7 : decode cX1_amountOf 7 = .ok (.aload_n 0, 1) := by decide +kernel
theorem dX1_amountOf_8 : decode cX1_amountOf 8 = .ok (.iload_n 1, 1) := by decide +kernel
theorem dX1_amountOf_9 : decode cX1_amountOf 9 = .ok (.invokevirtual 34, 3) := by decide +kernel
theorem dX1_amountOf_12 : decode cX1_amountOf 12 = .ok (.if_icmp .ge 28, 3) := by decide +kernel
theorem dX1_amountOf_15 : decode cX1_amountOf 15 = .ok (.iload_n 3, 1) := by decide +kernel
theorem dX1_amountOf_16 : decode cX1_amountOf 16 = .ok (.aload_n 0, 1) := by decide +kernel
theorem dX1_amountOf_17 : decode cX1_amountOf 17 = .ok (.iload_n 1, 1) := by decide +kernel
theorem dX1_amountOf_18 : decode cX1_amountOf 18 = .ok (.iload 4, 2) := by decide +kernel
theorem dX1_amountOf_20 : decode cX1_amountOf 20 = .ok (.invokevirtual 46, 3) := by decide +kernel
theorem dX1_amountOf_23 : decode cX1_amountOf 23 = .ok (.iload_n 2, 1) := by decide +kernel
theorem dX1_amountOf_24 : decode cX1_amountOf 24 = .ok (.if_icmp .ne 7, 3) := by decide +kernel
theorem dX1_amountOf_27 : decode cX1_amountOf 27 = .ok (.iconst 1, 1) := by decide +kernel
theorem dX1_amountOf_28 : decode cX1_amountOf 28 = .ok (.goto 4, 3) := by decide +kernel
theorem dX1_amountOf_31 : decode cX1_amountOf 31 = .ok (.iconst 0, 1) := by decide +kernel
theorem dX1_amountOf_32 : decode cX1_amountOf 32 = .ok (.iadd, 1) := by decide +kernel
theorem dX1_amountOf_33 : decode cX1_amountOf 33 = .ok (.istore_n 3, 1) := by decide +kernel
theorem dX1_amountOf_34 : decode cX1_amountOf 34 = .ok (.iinc 4 1, 3) := by decide +kernel
theorem dX1_amountOf_37 : decode cX1_amountOf 37 = .ok (.goto (-32), 3) := by decide +kernel
theorem dX1_amountOf_40 : decode cX1_amountOf 40 = .ok (.iload_n 3, 1) := by decide +kernel
theorem dX1_amountOf_41 : decode cX1_amountOf 41 = .ok (.ireturn, 1) := by decide +kernel
def xX1_amountOf : zX := (RX1, cX1_amountOf, 5, (some .int), false, { frames := 2, cells := 0, slots := 0, locals := 112 }, 0, 0, 0, 0)
theorem rmX1_amountOf : z_Rm xX1_amountOf := by unfold z_Rm xX1_amountOf; exact ⟨by decide, by decide⟩
theorem reX1_amountOf : z_Re xX1_amountOf := ⟨rfl, rfl⟩
theorem rlX1_amountOf : 1 ≤ xX1_amountOf.2.2.2.2.2.1.frames ∧ 21 ≤ xX1_amountOf.2.2.2.2.2.1.locals := by unfold xX1_amountOf; exact ⟨by decide, by decide⟩
theorem meX1_amountOf : z_Me yX1_amountOf xX1_amountOf 2 := ⟨wd83, wd51, by decide, by decide, by decide +kernel⟩
theorem fitX1_amountOf_9 : z_Fit xX1_lengthOf xX1_amountOf := by unfold z_Fit; simp only [xX1_lengthOf, xX1_amountOf]; exact ⟨by decide, by decide⟩
theorem fitX1_amountOf_20 : z_Fit xX1_colourAt xX1_amountOf := by unfold z_Fit; simp only [xX1_colourAt, xX1_amountOf]; exact ⟨by decide, by decide⟩
noncomputable def kX1_amountOf_40 : zK zR := (q_iload 3 q_iret)
noncomputable def kX1_amountOf_32 : zK ((zL × zS) ⊕ zR) := (q_iadd (q_istore 3 (q_iinc 4 1 q_ag)))
noncomputable def bX1_amountOf_5 : zK ((zL × zS) ⊕ zR) := (q_iload 4 (q_aload 0 (q_iload 1 (q_callV 1 fX1_lengthOf 1 (q_icmp_ge (q_dn kX1_amountOf_40) (q_iload 3 (q_aload 0 (q_iload 1 (q_iload 4 (q_callV 1 fX1_colourAt 2 (q_iload 2 (q_icmp_ne (q_push 0 kX1_amountOf_32) (q_push 1 kX1_amountOf_32)))))))))))))
noncomputable def kX1_amountOf_5 : zK zR := q_lp (bX1_amountOf_5)
noncomputable def kX1_amountOf_0 : zK zR := (q_push 0 (q_istore 3 (q_push 0 (q_istore 4 kX1_amountOf_5))))
set_option maxRecDepth 100000 in
theorem tX1_amountOf_40 {l : Launch} {D : zD} {B sz0 : Nat} {post : Option Value → zS → Prop} : zSnd l D B xX1_amountOf sz0 post 40 kX1_amountOf_40 (z_Jr post) := (s_iload_n dX1_amountOf_40 rfl (s_iret dX1_amountOf_41 rfl))
set_option maxRecDepth 100000 in
theorem tX1_amountOf_32 {l : Launch} {D : zD} {B sz0 : Nat} {post : Option Value → zS → Prop} : zSnd l D B xX1_amountOf sz0 post 32 kX1_amountOf_32 (z_Jl l D B xX1_amountOf sz0 post 5 (z_Jr post)) := (s_iadd dX1_amountOf_32 (s_istore_n dX1_amountOf_33 rfl (s_iinc dX1_amountOf_34 (by decide) (s_goto (tgt := 5) dX1_amountOf_37 (by decide) s_ag))))
set_option maxRecDepth 100000 in
theorem tX1_amountOf_5 {l : Launch} {D : zD} {B sz0 : Nat} {post : Option Value → zS → Prop} : zSnd l D B xX1_amountOf sz0 post 5 kX1_amountOf_5 (z_Jr post) := s_lp (body := bX1_amountOf_5) (s_iload dX1_amountOf_5 (s_aload_n dX1_amountOf_7 rfl (s_iload_n dX1_amountOf_8 rfl (s_callV (r := (RX1, TX1, 5)) dX1_amountOf_9 mX1_lengthOf meX1_lengthOf wd65 wd66 rfl rfl reX1_lengthOf rmX1_amountOf (fitX1_amountOf_9) wd67 (s_icmp_ge (tgt := 40) dX1_amountOf_12 (by decide) (s_dn tX1_amountOf_40) (s_iload_n dX1_amountOf_15 rfl (s_aload_n dX1_amountOf_16 rfl (s_iload_n dX1_amountOf_17 rfl (s_iload dX1_amountOf_18 (s_callV (r := (RX1, TX1, 5)) dX1_amountOf_20 mX1_colourAt meX1_colourAt wd75 wd76 rfl rfl reX1_colourAt rmX1_amountOf (fitX1_amountOf_20) wd77 (s_iload_n dX1_amountOf_23 rfl (s_icmp_ne (tgt := 31) dX1_amountOf_24 (by decide) (s_iconst dX1_amountOf_31 (by decide) tX1_amountOf_32) (s_iconst dX1_amountOf_27 (by decide) (s_goto (tgt := 32) dX1_amountOf_28 (by decide) tX1_amountOf_32))))))))))))))
set_option maxRecDepth 100000 in
theorem tX1_amountOf_0 {l : Launch} {D : zD} {B sz0 : Nat} {post : Option Value → zS → Prop} : zSnd l D B xX1_amountOf sz0 post 0 kX1_amountOf_0 (z_Jr post) := (s_iconst dX1_amountOf_0 (by decide) (s_istore_n dX1_amountOf_1 rfl (s_iconst dX1_amountOf_2 (by decide) (s_istore dX1_amountOf_3 tX1_amountOf_5))))
noncomputable def fX1_amountOf : zF := z_fn 5 kX1_amountOf_0
theorem mX1_amountOf {l : Launch} {D : zD} {B : Nat} : z_MF l D B yX1_amountOf xX1_amountOf fX1_amountOf := z_mf (by decide) rfl (fun h => by cases h) rfl (fun as σ r h => ⟨z_fn_len h, kX1_amountOf_0, z_fn_run h, fun _ => tX1_amountOf_0⟩)
/-! ===== RowChildren$Family.allLengths ===== -/
theorem dX1_allLengths_0 : decode cX1_allLengths 0 = .ok (.iconst 0, 1) := by decide +kernel
theorem dX1_allLengths_1 : decode cX1_allLengths 1 = .ok (.istore_n 1, 1) := by decide +kernel
theorem dX1_allLengths_2 : decode cX1_allLengths 2 = .ok (.iconst 0, 1) := by decide +kernel
theorem dX1_allLengths_3 : decode cX1_allLengths 3 = .ok (.istore_n 2, 1) := by decide +kernel
theorem dX1_allLengths_4 : decode cX1_allLengths 4 = .ok (.iload_n 2, 1) := by decide +kernel
theorem dX1_allLengths_5 : decode cX1_allLengths 5 = .ok (.aload_n 0, 1) := by decide +kernel
theorem dX1_allLengths_6 : decode cX1_allLengths 6 = .ok (.getfield 18, 3) := by decide +kernel
theorem dX1_allLengths_9 : decode cX1_allLengths 9 = .ok (.if_icmp .ge 17, 3) := by decide +kernel
theorem dX1_allLengths_12 : decode cX1_allLengths 12 = .ok (.iload_n 1, 1) := by decide +kernel
theorem dX1_allLengths_13 : decode cX1_allLengths 13 = .ok (.aload_n 0, 1) := by decide +kernel
theorem dX1_allLengths_14 : decode cX1_allLengths 14 = .ok (.iload_n 2, 1) := by decide +kernel
theorem dX1_allLengths_15 : decode cX1_allLengths 15 = .ok (.invokevirtual 34, 3) := by decide +kernel
theorem dX1_allLengths_18 : decode cX1_allLengths 18 = .ok (.iadd, 1) := by decide +kernel
theorem dX1_allLengths_19 : decode cX1_allLengths 19 = .ok (.istore_n 1, 1) := by decide +kernel
theorem dX1_allLengths_20 : decode cX1_allLengths 20 = .ok (.iinc 2 1, 3) := by decide +kernel
theorem dX1_allLengths_23 : decode cX1_allLengths 23 = .ok (.goto (-19), 3) := by decide +kernel
theorem dX1_allLengths_26 : decode cX1_allLengths 26 = .ok (.iload_n 1, 1) := by decide +kernel
theorem dX1_allLengths_27 : decode cX1_allLengths 27 = .ok (.ireturn, 1) := by decide +kernel
def xX1_allLengths : zX := (RX1, cX1_allLengths, 3, (some .int), false, { frames := 2, cells := 0, slots := 0, locals := 111 }, 0, 0, 0, 0)
theorem rmX1_allLengths : z_Rm xX1_allLengths := by unfold z_Rm xX1_allLengths; exact ⟨by decide, by decide⟩
theorem reX1_allLengths : z_Re xX1_allLengths := ⟨rfl, rfl⟩
theorem rlX1_allLengths : 1 ≤ xX1_allLengths.2.2.2.2.2.1.frames ∧ 21 ≤ xX1_allLengths.2.2.2.2.2.1.locals := by unfold xX1_allLengths; exact ⟨by decide, by decide⟩
theorem meX1_allLengths : z_Me yX1_allLengths xX1_allLengths 0 := ⟨wd84, wd51, by decide, by decide, by decide +kernel⟩
theorem fitX1_allLengths_15 : z_Fit xX1_lengthOf xX1_allLengths := by unfold z_Fit; simp only [xX1_lengthOf, xX1_allLengths]; exact ⟨by decide, by decide⟩
noncomputable def kX1_allLengths_26 : zK zR := (q_iload 1 q_iret)
noncomputable def bX1_allLengths_4 : zK ((zL × zS) ⊕ zR) := (q_iload 2 (q_aload 0 (q_getI 1 0 (q_icmp_ge (q_dn kX1_allLengths_26) (q_iload 1 (q_aload 0 (q_iload 2 (q_callV 1 fX1_lengthOf 1 (q_iadd (q_istore 1 (q_iinc 2 1 q_ag)))))))))))
noncomputable def kX1_allLengths_4 : zK zR := q_lp (bX1_allLengths_4)
noncomputable def kX1_allLengths_0 : zK zR := (q_push 0 (q_istore 1 (q_push 0 (q_istore 2 kX1_allLengths_4))))
set_option maxRecDepth 100000 in
theorem tX1_allLengths_26 {l : Launch} {D : zD} {B sz0 : Nat} {post : Option Value → zS → Prop} : zSnd l D B xX1_allLengths sz0 post 26 kX1_allLengths_26 (z_Jr post) := (s_iload_n dX1_allLengths_26 rfl (s_iret dX1_allLengths_27 rfl))
set_option maxRecDepth 100000 in
theorem tX1_allLengths_4 {l : Launch} {D : zD} {B sz0 : Nat} {post : Option Value → zS → Prop} : zSnd l D B xX1_allLengths sz0 post 4 kX1_allLengths_4 (z_Jr post) := s_lp (body := bX1_allLengths_4) (s_iload_n dX1_allLengths_4 rfl (s_aload_n dX1_allLengths_5 rfl (s_getI (f := 0) dX1_allLengths_6 clX1 (by decide) rfl wd52 (s_icmp_ge (tgt := 26) dX1_allLengths_9 (by decide) (s_dn tX1_allLengths_26) (s_iload_n dX1_allLengths_12 rfl (s_aload_n dX1_allLengths_13 rfl (s_iload_n dX1_allLengths_14 rfl (s_callV (r := (RX1, TX1, 5)) dX1_allLengths_15 mX1_lengthOf meX1_lengthOf wd65 wd66 rfl rfl reX1_lengthOf rmX1_allLengths (fitX1_allLengths_15) wd67 (s_iadd dX1_allLengths_18 (s_istore_n dX1_allLengths_19 rfl (s_iinc dX1_allLengths_20 (by decide) (s_goto (tgt := 4) dX1_allLengths_23 (by decide) s_ag))))))))))))
set_option maxRecDepth 100000 in
theorem tX1_allLengths_0 {l : Launch} {D : zD} {B sz0 : Nat} {post : Option Value → zS → Prop} : zSnd l D B xX1_allLengths sz0 post 0 kX1_allLengths_0 (z_Jr post) := (s_iconst dX1_allLengths_0 (by decide) (s_istore_n dX1_allLengths_1 rfl (s_iconst dX1_allLengths_2 (by decide) (s_istore_n dX1_allLengths_3 rfl tX1_allLengths_4))))
noncomputable def fX1_allLengths : zF := z_fn 3 kX1_allLengths_0
theorem mX1_allLengths {l : Launch} {D : zD} {B : Nat} : z_MF l D B yX1_allLengths xX1_allLengths fX1_allLengths := z_mf (by decide) rfl (fun h => by cases h) rfl (fun as σ r h => ⟨z_fn_len h, kX1_allLengths_0, z_fn_run h, fun _ => tX1_allLengths_0⟩)
/-! ===== RowChildren$Family.allColours ===== -/
theorem dX1_allColours_0 : decode cX1_allColours 0 = .ok (.iconst 0, 1) := by decide +kernel
theorem dX1_allColours_1 : decode cX1_allColours 1 = .ok (.istore_n 1, 1) := by decide +kernel
theorem dX1_allColours_2 : decode cX1_allColours 2 = .ok (.iconst 0, 1) := by decide +kernel
theorem dX1_allColours_3 : decode cX1_allColours 3 = .ok (.istore_n 2, 1) := by decide +kernel
theorem dX1_allColours_4 : decode cX1_allColours 4 = .ok (.iload_n 2, 1) := by decide +kernel
theorem dX1_allColours_5 : decode cX1_allColours 5 = .ok (.aload_n 0, 1) := by decide +kernel
theorem dX1_allColours_6 : decode cX1_allColours 6 = .ok (.getfield 18, 3) := by decide +kernel
theorem dX1_allColours_9 : decode cX1_allColours 9 = .ok (.if_icmp .ge 37, 3) := by decide +kernel
theorem dX1_allColours_12 : decode cX1_allColours 12 = .ok (.iconst 0, 1) := by decide +kernel
theorem dX1_allColours_13 : decode cX1_allColours 13 = .ok (.istore_n 3, 1) := by decide +kernel
theorem dX1_allColours_14 : decode cX1_allColours 14 = .ok (.iload_n 3, 1) := by decide +kernel
theorem dX1_allColours_15 : decode cX1_allColours 15 = .ok (.aload_n 0, 1) := by decide +kernel
theorem dX1_allColours_16 : decode cX1_allColours 16 = .ok (.iload_n 2, 1) := by decide +kernel
theorem dX1_allColours_17 : decode cX1_allColours 17 = .ok (.invokevirtual 34, 3) := by decide +kernel
theorem dX1_allColours_20 : decode cX1_allColours 20 = .ok (.if_icmp .ge 20, 3) := by decide +kernel
theorem dX1_allColours_23 : decode cX1_allColours 23 = .ok (.iload_n 1, 1) := by decide +kernel
theorem dX1_allColours_24 : decode cX1_allColours 24 = .ok (.iconst 1, 1) := by decide +kernel
theorem dX1_allColours_25 : decode cX1_allColours 25 = .ok (.aload_n 0, 1) := by decide +kernel
theorem dX1_allColours_26 : decode cX1_allColours 26 = .ok (.iload_n 2, 1) := by decide +kernel
theorem dX1_allColours_27 : decode cX1_allColours 27 = .ok (.iload_n 3, 1) := by decide +kernel
theorem dX1_allColours_28 : decode cX1_allColours 28 = .ok (.invokevirtual 46, 3) := by decide +kernel
theorem dX1_allColours_31 : decode cX1_allColours 31 = .ok (.ishl, 1) := by decide +kernel
theorem dX1_allColours_32 : decode cX1_allColours 32 = .ok (.ior, 1) := by decide +kernel
theorem dX1_allColours_33 : decode cX1_allColours 33 = .ok (.istore_n 1, 1) := by decide +kernel
theorem dX1_allColours_34 : decode cX1_allColours 34 = .ok (.iinc 3 1, 3) := by decide +kernel
theorem dX1_allColours_37 : decode cX1_allColours 37 = .ok (.goto (-23), 3) := by decide +kernel
theorem dX1_allColours_40 : decode cX1_allColours 40 = .ok (.iinc 2 1, 3) := by decide +kernel
theorem dX1_allColours_43 : decode cX1_allColours 43 = .ok (.goto (-39), 3) := by decide +kernel
theorem dX1_allColours_46 : decode cX1_allColours 46 = .ok (.iload_n 1, 1) := by decide +kernel
theorem dX1_allColours_47 : decode cX1_allColours 47 = .ok (.ireturn, 1) := by decide +kernel
def xX1_allColours : zX := (RX1, cX1_allColours, 4, (some .int), false, { frames := 2, cells := 0, slots := 0, locals := 112 }, 0, 0, 0, 0)
theorem rmX1_allColours : z_Rm xX1_allColours := by unfold z_Rm xX1_allColours; exact ⟨by decide, by decide⟩
theorem reX1_allColours : z_Re xX1_allColours := ⟨rfl, rfl⟩
theorem rlX1_allColours : 1 ≤ xX1_allColours.2.2.2.2.2.1.frames ∧ 21 ≤ xX1_allColours.2.2.2.2.2.1.locals := by unfold xX1_allColours; exact ⟨by decide, by decide⟩
theorem meX1_allColours : z_Me yX1_allColours xX1_allColours 0 := ⟨wd85, wd51, by decide, by decide, by decide +kernel⟩
theorem fitX1_allColours_17 : z_Fit xX1_lengthOf xX1_allColours := by unfold z_Fit; simp only [xX1_lengthOf, xX1_allColours]; exact ⟨by decide, by decide⟩
theorem fitX1_allColours_28 : z_Fit xX1_colourAt xX1_allColours := by unfold z_Fit; simp only [xX1_colourAt, xX1_allColours]; exact ⟨by decide, by decide⟩
noncomputable def kX1_allColours_46 : zK zR := (q_iload 1 q_iret)
noncomputable def kX1_allColours_40 : zK ((zL × zS) ⊕ zR) := (q_iinc 2 1 q_ag)
noncomputable def bX1_allColours_14 : zK ((zL × zS) ⊕ ((zL × zS) ⊕ zR)) := (q_iload 3 (q_aload 0 (q_iload 2 (q_callV 1 fX1_lengthOf 1 (q_icmp_ge (q_dn kX1_allColours_40) (q_iload 1 (q_push 1 (q_aload 0 (q_iload 2 (q_iload 3 (q_callV 1 fX1_colourAt 2 (q_ishl (q_ior (q_istore 1 (q_iinc 3 1 q_ag)))))))))))))))
noncomputable def kX1_allColours_14 : zK ((zL × zS) ⊕ zR) := q_lp (bX1_allColours_14)
noncomputable def bX1_allColours_4 : zK ((zL × zS) ⊕ zR) := (q_iload 2 (q_aload 0 (q_getI 1 0 (q_icmp_ge (q_dn kX1_allColours_46) (q_push 0 (q_istore 3 kX1_allColours_14))))))
noncomputable def kX1_allColours_4 : zK zR := q_lp (bX1_allColours_4)
noncomputable def kX1_allColours_0 : zK zR := (q_push 0 (q_istore 1 (q_push 0 (q_istore 2 kX1_allColours_4))))
set_option maxRecDepth 100000 in
theorem tX1_allColours_46 {l : Launch} {D : zD} {B sz0 : Nat} {post : Option Value → zS → Prop} : zSnd l D B xX1_allColours sz0 post 46 kX1_allColours_46 (z_Jr post) := (s_iload_n dX1_allColours_46 rfl (s_iret dX1_allColours_47 rfl))
set_option maxRecDepth 100000 in
theorem tX1_allColours_40 {l : Launch} {D : zD} {B sz0 : Nat} {post : Option Value → zS → Prop} : zSnd l D B xX1_allColours sz0 post 40 kX1_allColours_40 (z_Jl l D B xX1_allColours sz0 post 4 (z_Jr post)) := (s_iinc dX1_allColours_40 (by decide) (s_goto (tgt := 4) dX1_allColours_43 (by decide) s_ag))
set_option maxRecDepth 100000 in
theorem tX1_allColours_14 {l : Launch} {D : zD} {B sz0 : Nat} {post : Option Value → zS → Prop} : zSnd l D B xX1_allColours sz0 post 14 kX1_allColours_14 (z_Jl l D B xX1_allColours sz0 post 4 (z_Jr post)) := s_lp (body := bX1_allColours_14) (s_iload_n dX1_allColours_14 rfl (s_aload_n dX1_allColours_15 rfl (s_iload_n dX1_allColours_16 rfl (s_callV (r := (RX1, TX1, 5)) dX1_allColours_17 mX1_lengthOf meX1_lengthOf wd65 wd66 rfl rfl reX1_lengthOf rmX1_allColours (fitX1_allColours_17) wd67 (s_icmp_ge (tgt := 40) dX1_allColours_20 (by decide) (s_dn tX1_allColours_40) (s_iload_n dX1_allColours_23 rfl (s_iconst dX1_allColours_24 (by decide) (s_aload_n dX1_allColours_25 rfl (s_iload_n dX1_allColours_26 rfl (s_iload_n dX1_allColours_27 rfl (s_callV (r := (RX1, TX1, 5)) dX1_allColours_28 mX1_colourAt meX1_colourAt wd75 wd76 rfl rfl reX1_colourAt rmX1_allColours (fitX1_allColours_28) wd77 (s_ishl dX1_allColours_31 (s_ior dX1_allColours_32 (s_istore_n dX1_allColours_33 rfl (s_iinc dX1_allColours_34 (by decide) (s_goto (tgt := 14) dX1_allColours_37 (by decide) s_ag))))))))))))))))
set_option maxRecDepth 100000 in
theorem tX1_allColours_4 {l : Launch} {D : zD} {B sz0 : Nat} {post : Option Value → zS → Prop} : zSnd l D B xX1_allColours sz0 post 4 kX1_allColours_4 (z_Jr post) := s_lp (body := bX1_allColours_4) (s_iload_n dX1_allColours_4 rfl (s_aload_n dX1_allColours_5 rfl (s_getI (f := 0) dX1_allColours_6 clX1 (by decide) rfl wd52 (s_icmp_ge (tgt := 46) dX1_allColours_9 (by decide) (s_dn tX1_allColours_46) (s_iconst dX1_allColours_12 (by decide) (s_istore_n dX1_allColours_13 rfl tX1_allColours_14))))))
set_option maxRecDepth 100000 in
theorem tX1_allColours_0 {l : Launch} {D : zD} {B sz0 : Nat} {post : Option Value → zS → Prop} : zSnd l D B xX1_allColours sz0 post 0 kX1_allColours_0 (z_Jr post) := (s_iconst dX1_allColours_0 (by decide) (s_istore_n dX1_allColours_1 rfl (s_iconst dX1_allColours_2 (by decide) (s_istore_n dX1_allColours_3 rfl tX1_allColours_4))))
noncomputable def fX1_allColours : zF := z_fn 4 kX1_allColours_0
theorem mX1_allColours {l : Launch} {D : zD} {B : Nat} : z_MF l D B yX1_allColours xX1_allColours fX1_allColours := z_mf (by decide) rfl (fun h => by cases h) rfl (fun as σ r h => ⟨z_fn_len h, kX1_allColours_0, z_fn_run h, fun _ => tX1_allColours_0⟩)
/-! ===== RowChildren$Family.singleRows ===== -/
theorem dX1_singleRows_0 : decode cX1_singleRows 0 = .ok (.iconst 0, 1) := by decide +kernel
theorem dX1_singleRows_1 : decode cX1_singleRows 1 = .ok (.istore_n 1, 1) := by decide +kernel
theorem dX1_singleRows_2 : decode cX1_singleRows 2 = .ok (.iconst 0, 1) := by decide +kernel
theorem dX1_singleRows_3 : decode cX1_singleRows 3 = .ok (.istore_n 2, 1) := by decide +kernel
theorem dX1_singleRows_4 : decode cX1_singleRows 4 = .ok (.iload_n 2, 1) := by decide +kernel
theorem dX1_singleRows_5 : decode cX1_singleRows 5 = .ok (.aload_n 0, 1) := by decide +kernel
theorem dX1_singleRows_6 : decode cX1_singleRows 6 = .ok (.getfield 18, 3) := by decide +kernel
theorem dX1_singleRows_9 : decode cX1_singleRows 9 = .ok (.if_icmp .ge 28, 3) := by decide +kernel
theorem dX1_singleRows_12 : decode cX1_singleRows 12 = .ok (.iload_n 1, 1) := by decide +kernel
theorem dX1_singleRows_13 : decode cX1_singleRows 13 = .ok (.aload_n 0, 1) := by decide +kernel
theorem dX1_singleRows_14 : decode cX1_singleRows 14 = .ok (.iload_n 2, 1) := by decide +kernel
theorem dX1_singleRows_15 : decode cX1_singleRows 15 = .ok (.invokevirtual 34, 3) := by decide +kernel
theorem dX1_singleRows_18 : decode cX1_singleRows 18 = .ok (.iconst 1, 1) := by decide +kernel
theorem dX1_singleRows_19 : decode cX1_singleRows 19 = .ok (.if_icmp .ne 9, 3) := by decide +kernel
theorem dX1_singleRows_22 : decode cX1_singleRows 22 = .ok (.iconst 1, 1) := by decide +kernel
theorem dX1_singleRows_23 : decode cX1_singleRows 23 = .ok (.iload_n 2, 1) := by decide +kernel
theorem dX1_singleRows_24 : decode cX1_singleRows 24 = .ok (.ishl, 1) := by decide +kernel
theorem dX1_singleRows_25 : decode cX1_singleRows 25 = .ok (.goto 4, 3) := by decide +kernel
theorem dX1_singleRows_28 : decode cX1_singleRows 28 = .ok (.iconst 0, 1) := by decide +kernel
theorem dX1_singleRows_29 : decode cX1_singleRows 29 = .ok (.ior, 1) := by decide +kernel
theorem dX1_singleRows_30 : decode cX1_singleRows 30 = .ok (.istore_n 1, 1) := by decide +kernel
theorem dX1_singleRows_31 : decode cX1_singleRows 31 = .ok (.iinc 2 1, 3) := by decide +kernel
theorem dX1_singleRows_34 : decode cX1_singleRows 34 = .ok (.goto (-30), 3) := by decide +kernel
theorem dX1_singleRows_37 : decode cX1_singleRows 37 = .ok (.iload_n 1, 1) := by decide +kernel
theorem dX1_singleRows_38 : decode cX1_singleRows 38 = .ok (.ireturn, 1) := by decide +kernel
def xX1_singleRows : zX := (RX1, cX1_singleRows, 3, (some .int), false, { frames := 2, cells := 0, slots := 0, locals := 111 }, 0, 0, 0, 0)
theorem rmX1_singleRows : z_Rm xX1_singleRows := by unfold z_Rm xX1_singleRows; exact ⟨by decide, by decide⟩
theorem reX1_singleRows : z_Re xX1_singleRows := ⟨rfl, rfl⟩
theorem rlX1_singleRows : 1 ≤ xX1_singleRows.2.2.2.2.2.1.frames ∧ 21 ≤ xX1_singleRows.2.2.2.2.2.1.locals := by unfold xX1_singleRows; exact ⟨by decide, by decide⟩
theorem meX1_singleRows : z_Me yX1_singleRows xX1_singleRows 0 := ⟨wd86, wd51, by decide, by decide, by decide +kernel⟩
theorem fitX1_singleRows_15 : z_Fit xX1_lengthOf xX1_singleRows := by unfold z_Fit; simp only [xX1_lengthOf, xX1_singleRows]; exact ⟨by decide, by decide⟩
noncomputable def kX1_singleRows_37 : zK zR := (q_iload 1 q_iret)
noncomputable def kX1_singleRows_29 : zK ((zL × zS) ⊕ zR) := (q_ior (q_istore 1 (q_iinc 2 1 q_ag)))
noncomputable def bX1_singleRows_4 : zK ((zL × zS) ⊕ zR) := (q_iload 2 (q_aload 0 (q_getI 1 0 (q_icmp_ge (q_dn kX1_singleRows_37) (q_iload 1 (q_aload 0 (q_iload 2 (q_callV 1 fX1_lengthOf 1 (q_push 1 (q_icmp_ne (q_push 0 kX1_singleRows_29) (q_push 1 (q_iload 2 (q_ishl kX1_singleRows_29)))))))))))))
noncomputable def kX1_singleRows_4 : zK zR := q_lp (bX1_singleRows_4)
noncomputable def kX1_singleRows_0 : zK zR := (q_push 0 (q_istore 1 (q_push 0 (q_istore 2 kX1_singleRows_4))))
set_option maxRecDepth 100000 in
theorem tX1_singleRows_37 {l : Launch} {D : zD} {B sz0 : Nat} {post : Option Value → zS → Prop} : zSnd l D B xX1_singleRows sz0 post 37 kX1_singleRows_37 (z_Jr post) := (s_iload_n dX1_singleRows_37 rfl (s_iret dX1_singleRows_38 rfl))
set_option maxRecDepth 100000 in
theorem tX1_singleRows_29 {l : Launch} {D : zD} {B sz0 : Nat} {post : Option Value → zS → Prop} : zSnd l D B xX1_singleRows sz0 post 29 kX1_singleRows_29 (z_Jl l D B xX1_singleRows sz0 post 4 (z_Jr post)) := (s_ior dX1_singleRows_29 (s_istore_n dX1_singleRows_30 rfl (s_iinc dX1_singleRows_31 (by decide) (s_goto (tgt := 4) dX1_singleRows_34 (by decide) s_ag))))
set_option maxRecDepth 100000 in
theorem tX1_singleRows_4 {l : Launch} {D : zD} {B sz0 : Nat} {post : Option Value → zS → Prop} : zSnd l D B xX1_singleRows sz0 post 4 kX1_singleRows_4 (z_Jr post) := s_lp (body := bX1_singleRows_4) (s_iload_n dX1_singleRows_4 rfl (s_aload_n dX1_singleRows_5 rfl (s_getI (f := 0) dX1_singleRows_6 clX1 (by decide) rfl wd52 (s_icmp_ge (tgt := 37) dX1_singleRows_9 (by decide) (s_dn tX1_singleRows_37) (s_iload_n dX1_singleRows_12 rfl (s_aload_n dX1_singleRows_13 rfl (s_iload_n dX1_singleRows_14 rfl (s_callV (r := (RX1, TX1, 5)) dX1_singleRows_15 mX1_lengthOf meX1_lengthOf wd65 wd66 rfl rfl reX1_lengthOf rmX1_singleRows (fitX1_singleRows_15) wd67 (s_iconst dX1_singleRows_18 (by decide) (s_icmp_ne (tgt := 28) dX1_singleRows_19 (by decide) (s_iconst dX1_singleRows_28 (by decide) tX1_singleRows_29) (s_iconst dX1_singleRows_22 (by decide) (s_iload_n dX1_singleRows_23 rfl (s_ishl dX1_singleRows_24 (s_goto (tgt := 29) dX1_singleRows_25 (by decide) tX1_singleRows_29))))))))))))))
set_option maxRecDepth 100000 in
theorem tX1_singleRows_0 {l : Launch} {D : zD} {B sz0 : Nat} {post : Option Value → zS → Prop} : zSnd l D B xX1_singleRows sz0 post 0 kX1_singleRows_0 (z_Jr post) := (s_iconst dX1_singleRows_0 (by decide) (s_istore_n dX1_singleRows_1 rfl (s_iconst dX1_singleRows_2 (by decide) (s_istore_n dX1_singleRows_3 rfl tX1_singleRows_4))))
noncomputable def fX1_singleRows : zF := z_fn 3 kX1_singleRows_0
theorem mX1_singleRows {l : Launch} {D : zD} {B : Nat} : z_MF l D B yX1_singleRows xX1_singleRows fX1_singleRows := z_mf (by decide) rfl (fun h => by cases h) rfl (fun as σ r h => ⟨z_fn_len h, kX1_singleRows_0, z_fn_run h, fun _ => tX1_singleRows_0⟩)
/-! ===== RowChildren$Laws.<init> ===== -/
theorem dX2_init_0 : decode cX2_init 0 = .ok (.aload_n 0, 1) := by decide +kernel
theorem dX2_init_1 : decode cX2_init 1 = .ok (.invokespecial 3, 3) := by decide +kernel
theorem dX2_init_4 : decode cX2_init 4 = .ok (.aload_n 0, 1) := by decide +kernel
theorem dX2_init_5 : decode cX2_init 5 = .ok (.bipush 9, 2) := by decide +kernel
theorem dX2_init_7 : decode cX2_init 7 = .ok (.newarray .int, 2) := by decide +kernel
theorem dX2_init_9 : decode cX2_init 9 = .ok (.putfield 11, 3) := by decide +kernel
theorem dX2_init_12 : decode cX2_init 12 = .ok (.return_, 1) := by decide +kernel
def xX2_init : zX := (RX2, cX2_init, 1, none, true, { frames := 1, cells := 1, slots := 2048, locals := 90 }, 1, 2048, 0, 0)
theorem rmX2_init : z_Rm xX2_init := by unfold z_Rm xX2_init; exact ⟨by decide, by decide⟩
theorem reX2_init : z_Re xX2_init := ⟨rfl, rfl⟩
theorem rlX2_init : 1 ≤ xX2_init.2.2.2.2.2.1.frames ∧ 21 ≤ xX2_init.2.2.2.2.2.1.locals := by unfold xX2_init; exact ⟨by decide, by decide⟩
theorem meX2_init : z_Me yX2_init xX2_init 0 := ⟨wd89, wd90, by decide, by decide, by decide +kernel⟩
noncomputable def kX2_init_0 (lim : Nat) : zK zR := (q_aload 0 (q_obj (q_aload 0 (q_push 9 (q_newa 0 2048 lim (q_putR 2 0 q_vret))))))
set_option maxRecDepth 100000 in
theorem tX2_init_0 {l : Launch} {D : zD} {B sz0 : Nat} {post : Option Value → zS → Prop} : zSnd l D B xX2_init sz0 post 0 (kX2_init_0 (sz0 + 1)) (z_Jr post) := (s_aload_n dX2_init_0 rfl (s_obj dX2_init_1 wd87 wd1 wd2 (by decide) (s_aload_n dX2_init_4 rfl (s_bipush dX2_init_5 (by decide) (s_newa (t := 0) dX2_init_7 (by decide) rfl wd3 rmX2_init rfl (by decide) rfl (s_putRF (f := 0) dX2_init_9 clX2 (by decide) rfl rfl rfl rfl (Or.inr ⟨_, rfl⟩) wd88 (s_vret dX2_init_12 rfl)))))))
noncomputable def fX2_init : zF := fun as σ => z_fn 1 (kX2_init_0 (z_sz σ + 1)) as σ
theorem mX2_init {l : Launch} {D : zD} {B : Nat} : z_MF l D B yX2_init xX2_init fX2_init := z_mf (by decide) rfl (fun _ => rfl) rfl (fun as σ r h => ⟨z_fn_len h, kX2_init_0 (z_sz σ + 1), z_fn_run h, fun _ => tX2_init_0⟩)
/-! ===== RowChildren$Laws.standAt ===== -/
theorem dX2_standAt_0 : decode cX2_standAt 0 = .ok (.aload_n 0, 1) := by decide +kernel
theorem dX2_standAt_1 : decode cX2_standAt 1 = .ok (.getfield 11, 3) := by decide +kernel
theorem dX2_standAt_4 : decode cX2_standAt 4 = .ok (.iconst 2, 1) := by decide +kernel
theorem dX2_standAt_5 : decode cX2_standAt 5 = .ok (.iload_n 1, 1) := by decide +kernel
theorem dX2_standAt_6 : decode cX2_standAt 6 = .ok (.iastore, 1) := by decide +kernel
theorem dX2_standAt_7 : decode cX2_standAt 7 = .ok (.aload_n 0, 1) := by decide +kernel
theorem dX2_standAt_8 : decode cX2_standAt 8 = .ok (.getfield 11, 3) := by decide +kernel
theorem dX2_standAt_11 : decode cX2_standAt 11 = .ok (.iconst 1, 1) := by decide +kernel
theorem dX2_standAt_12 : decode cX2_standAt 12 = .ok (.iload_n 2, 1) := by decide +kernel
theorem dX2_standAt_13 : decode cX2_standAt 13 = .ok (.iastore, 1) := by decide +kernel
theorem dX2_standAt_14 : decode cX2_standAt 14 = .ok (.return_, 1) := by decide +kernel
def xX2_standAt : zX := (RX2, cX2_standAt, 3, none, false, { frames := 1, cells := 0, slots := 0, locals := 90 }, 0, 0, 0, 0)
theorem rmX2_standAt : z_Rm xX2_standAt := by unfold z_Rm xX2_standAt; exact ⟨by decide, by decide⟩
theorem reX2_standAt : z_Re xX2_standAt := ⟨rfl, rfl⟩
theorem rlX2_standAt : 1 ≤ xX2_standAt.2.2.2.2.2.1.frames ∧ 21 ≤ xX2_standAt.2.2.2.2.2.1.locals := by unfold xX2_standAt; exact ⟨by decide, by decide⟩
theorem meX2_standAt : z_Me yX2_standAt xX2_standAt 2 := ⟨wd91, wd90, by decide, by decide, by decide +kernel⟩
noncomputable def kX2_standAt_0 : zK zR := (q_aload 0 (q_getR 2 0 (q_push 2 (q_iload 1 (q_iast (q_aload 0 (q_getR 2 0 (q_push 1 (q_iload 2 (q_iast q_vret))))))))))
set_option maxRecDepth 100000 in
theorem tX2_standAt_0 {l : Launch} {D : zD} {B sz0 : Nat} {post : Option Value → zS → Prop} : zSnd l D B xX2_standAt sz0 post 0 kX2_standAt_0 (z_Jr post) := (s_aload_n dX2_standAt_0 rfl (s_getR (f := 0) dX2_standAt_1 clX2 (by decide) rfl wd88 (s_iconst dX2_standAt_4 (by decide) (s_iload_n dX2_standAt_5 rfl (s_iast dX2_standAt_6 (s_aload_n dX2_standAt_7 rfl (s_getR (f := 0) dX2_standAt_8 clX2 (by decide) rfl wd88 (s_iconst dX2_standAt_11 (by decide) (s_iload_n dX2_standAt_12 rfl (s_iast dX2_standAt_13 (s_vret dX2_standAt_14 rfl)))))))))))
noncomputable def fX2_standAt : zF := z_fn 3 kX2_standAt_0
theorem mX2_standAt {l : Launch} {D : zD} {B : Nat} : z_MF l D B yX2_standAt xX2_standAt fX2_standAt := z_mf (by decide) rfl (fun h => by cases h) rfl (fun as σ r h => ⟨z_fn_len h, kX2_standAt_0, z_fn_run h, fun _ => tX2_standAt_0⟩)
/-! ===== RowChildren$Laws.haveParents ===== -/
theorem dX2_haveParents_0 : decode cX2_haveParents 0 = .ok (.aload_n 0, 1) := by decide +kernel
theorem dX2_haveParents_1 : decode cX2_haveParents 1 = .ok (.getfield 11, 3) := by decide +kernel
theorem dX2_haveParents_4 : decode cX2_haveParents 4 = .ok (.bipush 7, 2) := by decide +kernel
theorem dX2_haveParents_6 : decode cX2_haveParents 6 = .ok (.iload_n 1, 1) := by decide +kernel
theorem dX2_haveParents_7 : decode cX2_haveParents 7 = .ok (.iastore, 1) := by decide +kernel
theorem dX2_haveParents_8 : decode cX2_haveParents 8 = .ok (.aload_n 0, 1) := by decide +kernel
theorem dX2_haveParents_9 : decode cX2_haveParents 9 = .ok (.getfield 11, 3) := by decide +kernel
theorem dX2_haveParents_12 : decode cX2_haveParents 12 = .ok (.bipush 8, 2) := by decide +kernel
theorem dX2_haveParents_14 : decode cX2_haveParents 14 = .ok (.iload_n 2, 1) := by decide +kernel
theorem dX2_haveParents_15 : decode cX2_haveParents 15 = .ok (.iastore, 1) := by decide +kernel
theorem dX2_haveParents_16 : decode cX2_haveParents 16 = .ok (.return_, 1) := by decide +kernel
def xX2_haveParents : zX := (RX2, cX2_haveParents, 3, none, false, { frames := 1, cells := 0, slots := 0, locals := 90 }, 0, 0, 0, 0)
theorem rmX2_haveParents : z_Rm xX2_haveParents := by unfold z_Rm xX2_haveParents; exact ⟨by decide, by decide⟩
theorem reX2_haveParents : z_Re xX2_haveParents := ⟨rfl, rfl⟩
theorem rlX2_haveParents : 1 ≤ xX2_haveParents.2.2.2.2.2.1.frames ∧ 21 ≤ xX2_haveParents.2.2.2.2.2.1.locals := by unfold xX2_haveParents; exact ⟨by decide, by decide⟩
theorem meX2_haveParents : z_Me yX2_haveParents xX2_haveParents 2 := ⟨wd92, wd90, by decide, by decide, by decide +kernel⟩
noncomputable def kX2_haveParents_0 : zK zR := (q_aload 0 (q_getR 2 0 (q_push 7 (q_iload 1 (q_iast (q_aload 0 (q_getR 2 0 (q_push 8 (q_iload 2 (q_iast q_vret))))))))))
set_option maxRecDepth 100000 in
theorem tX2_haveParents_0 {l : Launch} {D : zD} {B sz0 : Nat} {post : Option Value → zS → Prop} : zSnd l D B xX2_haveParents sz0 post 0 kX2_haveParents_0 (z_Jr post) := (s_aload_n dX2_haveParents_0 rfl (s_getR (f := 0) dX2_haveParents_1 clX2 (by decide) rfl wd88 (s_bipush dX2_haveParents_4 (by decide) (s_iload_n dX2_haveParents_6 rfl (s_iast dX2_haveParents_7 (s_aload_n dX2_haveParents_8 rfl (s_getR (f := 0) dX2_haveParents_9 clX2 (by decide) rfl wd88 (s_bipush dX2_haveParents_12 (by decide) (s_iload_n dX2_haveParents_14 rfl (s_iast dX2_haveParents_15 (s_vret dX2_haveParents_16 rfl)))))))))))
noncomputable def fX2_haveParents : zF := z_fn 3 kX2_haveParents_0
theorem mX2_haveParents {l : Launch} {D : zD} {B : Nat} : z_MF l D B yX2_haveParents xX2_haveParents fX2_haveParents := z_mf (by decide) rfl (fun h => by cases h) rfl (fun as σ r h => ⟨z_fn_len h, kX2_haveParents_0, z_fn_run h, fun _ => tX2_haveParents_0⟩)
/-! ===== RowChildren$Laws.standOn ===== -/
theorem dX2_standOn_0 : decode cX2_standOn 0 = .ok (.aload_n 0, 1) := by decide +kernel
theorem dX2_standOn_1 : decode cX2_standOn 1 = .ok (.getfield 11, 3) := by decide +kernel
theorem dX2_standOn_4 : decode cX2_standOn 4 = .ok (.iconst 0, 1) := by decide +kernel
theorem dX2_standOn_5 : decode cX2_standOn 5 = .ok (.iload_n 3, 1) := by decide +kernel
theorem dX2_standOn_6 : decode cX2_standOn 6 = .ok (.iastore, 1) := by decide +kernel
theorem dX2_standOn_7 : decode cX2_standOn 7 = .ok (.aload_n 0, 1) := by decide +kernel
theorem dX2_standOn_8 : decode cX2_standOn 8 = .ok (.getfield 11, 3) := by decide +kernel
theorem dX2_standOn_11 : decode cX2_standOn 11 = .ok (.iconst 3, 1) := by decide +kernel
theorem dX2_standOn_12 : decode cX2_standOn 12 = .ok (.aload_n 1, 1) := by decide +kernel
theorem dX2_standOn_13 : decode cX2_standOn 13 = .ok (.iload_n 2, 1) := by decide +kernel
theorem dX2_standOn_14 : decode cX2_standOn 14 = .ok (.invokevirtual 15, 3) := by decide +kernel
theorem dX2_standOn_17 : decode cX2_standOn 17 = .ok (.iastore, 1) := by decide +kernel
theorem dX2_standOn_18 : decode cX2_standOn 18 = .ok (.aload_n 0, 1) := by decide +kernel
theorem dX2_standOn_19 : decode cX2_standOn 19 = .ok (.getfield 11, 3) := by decide +kernel
theorem dX2_standOn_22 : decode cX2_standOn 22 = .ok (.iconst 4, 1) := by decide +kernel
theorem dX2_standOn_23 : decode cX2_standOn 23 = .ok (.aload_n 1, 1) := by decide +kernel
theorem dX2_standOn_24 : decode cX2_standOn 24 = .ok (.iload_n 2, 1) := by decide +kernel
theorem dX2_standOn_25 : decode cX2_standOn 25 = .ok (.iload_n 3, 1) := by decide +kernel
theorem dX2_standOn_26 : decode cX2_standOn 26 = .ok (.invokevirtual 21, 3) := by decide +kernel
theorem dX2_standOn_29 : decode cX2_standOn 29 = .ok (.iastore, 1) := by decide +kernel
theorem dX2_standOn_30 : decode cX2_standOn 30 = .ok (.aload_n 0, 1) := by decide +kernel
theorem dX2_standOn_31 : decode cX2_standOn 31 = .ok (.getfield 11, 3) := by decide +kernel
theorem dX2_standOn_34 : decode cX2_standOn 34 = .ok (.iconst 5, 1) := by decide +kernel
theorem dX2_standOn_35 : decode cX2_standOn 35 = .ok (.aload_n 1, 1) := by decide +kernel
theorem dX2_standOn_36 : decode cX2_standOn 36 = .ok (.getfield 25, 3) := by decide +kernel
theorem dX2_standOn_39 : decode cX2_standOn 39 = .ok (.iastore, 1) := by decide +kernel
theorem dX2_standOn_40 : decode cX2_standOn 40 = .ok (.aload_n 0, 1) := by decide +kernel
theorem dX2_standOn_41 : decode cX2_standOn 41 = .ok (.getfield 11, 3) := by decide +kernel
theorem dX2_standOn_44 : decode cX2_standOn 44 = .ok (.bipush 6, 2) := by decide +kernel
theorem dX2_standOn_46 : decode cX2_standOn 46 = .ok (.iload_n 2, 1) := by decide +kernel
theorem dX2_standOn_47 : decode cX2_standOn 47 = .ok (.iastore, 1) := by decide +kernel
theorem dX2_standOn_48 : decode cX2_standOn 48 = .ok (.aload_n 0, 1) := by decide +kernel
theorem dX2_standOn_49 : decode cX2_standOn 49 = .ok (.iconst 0, 1) := by decide +kernel
theorem dX2_standOn_50 : decode cX2_standOn 50 = .ok (.iconst 0, 1) := by decide +kernel
theorem dX2_standOn_51 : decode cX2_standOn 51 = .ok (.invokevirtual 29, 3) := by decide +kernel
theorem dX2_standOn_54 : decode cX2_standOn 54 = .ok (.aload_n 0, 1) := by decide +kernel
theorem dX2_standOn_55 : decode cX2_standOn 55 = .ok (.iconst 0, 1) := by decide +kernel
theorem dX2_standOn_56 : decode cX2_standOn 56 = .ok (.iconst 0, 1) := by decide +kernel
theorem dX2_standOn_57 : decode cX2_standOn 57 = .ok (.invokevirtual 33, 3) := by decide +kernel
theorem dX2_standOn_60 : decode cX2_standOn 60 = .ok (.return_, 1) := by decide +kernel
def xX2_standOn : zX := (RX2, cX2_standOn, 4, none, false, { frames := 3, cells := 0, slots := 0, locals := 136 }, 0, 0, 0, 0)
theorem rmX2_standOn : z_Rm xX2_standOn := by unfold z_Rm xX2_standOn; exact ⟨by decide, by decide⟩
theorem reX2_standOn : z_Re xX2_standOn := ⟨rfl, rfl⟩
theorem rlX2_standOn : 1 ≤ xX2_standOn.2.2.2.2.2.1.frames ∧ 21 ≤ xX2_standOn.2.2.2.2.2.1.locals := by unfold xX2_standOn; exact ⟨by decide, by decide⟩
theorem meX2_standOn : z_Me yX2_standOn xX2_standOn 3 := ⟨wd104, wd90, by decide, by decide, by decide +kernel⟩
theorem fitX2_standOn_14 : z_Fit xX1_lengthOf xX2_standOn := by unfold z_Fit; simp only [xX1_lengthOf, xX2_standOn]; exact ⟨by decide, by decide⟩
theorem fitX2_standOn_26 : z_Fit xX1_amountOf xX2_standOn := by unfold z_Fit; simp only [xX1_amountOf, xX2_standOn]; exact ⟨by decide, by decide⟩
theorem fitX2_standOn_51 : z_Fit xX2_standAt xX2_standOn := by unfold z_Fit; simp only [xX2_standAt, xX2_standOn]; exact ⟨by decide, by decide⟩
theorem fitX2_standOn_57 : z_Fit xX2_haveParents xX2_standOn := by unfold z_Fit; simp only [xX2_haveParents, xX2_standOn]; exact ⟨by decide, by decide⟩
noncomputable def kX2_standOn_0 : zK zR := (q_aload 0 (q_getR 2 0 (q_push 0 (q_iload 3 (q_iast (q_aload 0 (q_getR 2 0 (q_push 3 (q_aload 1 (q_iload 2 (q_callV 1 fX1_lengthOf 1 (q_iast (q_aload 0 (q_getR 2 0 (q_push 4 (q_aload 1 (q_iload 2 (q_iload 3 (q_callV 1 fX1_amountOf 2 (q_iast (q_aload 0 (q_getR 2 0 (q_push 5 (q_aload 1 (q_getI 1 1 (q_iast (q_aload 0 (q_getR 2 0 (q_push 6 (q_iload 2 (q_iast (q_aload 0 (q_push 0 (q_push 0 (q_callV 2 fX2_standAt 2 (q_aload 0 (q_push 0 (q_push 0 (q_callV 2 fX2_haveParents 2 q_vret)))))))))))))))))))))))))))))))))))))))
set_option maxRecDepth 100000 in
theorem tX2_standOn_0 {l : Launch} {D : zD} {B sz0 : Nat} {post : Option Value → zS → Prop} : zSnd l D B xX2_standOn sz0 post 0 kX2_standOn_0 (z_Jr post) := (s_aload_n dX2_standOn_0 rfl (s_getR (f := 0) dX2_standOn_1 clX2 (by decide) rfl wd88 (s_iconst dX2_standOn_4 (by decide) (s_iload_n dX2_standOn_5 rfl (s_iast dX2_standOn_6 (s_aload_n dX2_standOn_7 rfl (s_getR (f := 0) dX2_standOn_8 clX2 (by decide) rfl wd88 (s_iconst dX2_standOn_11 (by decide) (s_aload_n dX2_standOn_12 rfl (s_iload_n dX2_standOn_13 rfl (s_callV (r := (RX1, TX1, 5)) dX2_standOn_14 mX1_lengthOf meX1_lengthOf wd65 wd66 rfl rfl reX1_lengthOf rmX2_standOn (fitX2_standOn_14) wd93 (s_iast dX2_standOn_17 (s_aload_n dX2_standOn_18 rfl (s_getR (f := 0) dX2_standOn_19 clX2 (by decide) rfl wd88 (s_iconst dX2_standOn_22 (by decide) (s_aload_n dX2_standOn_23 rfl (s_iload_n dX2_standOn_24 rfl (s_iload_n dX2_standOn_25 rfl (s_callV (r := (RX1, TX1, 5)) dX2_standOn_26 mX1_amountOf meX1_amountOf wd94 wd95 rfl rfl reX1_amountOf rmX2_standOn (fitX2_standOn_26) wd96 (s_iast dX2_standOn_29 (s_aload_n dX2_standOn_30 rfl (s_getR (f := 0) dX2_standOn_31 clX2 (by decide) rfl wd88 (s_iconst dX2_standOn_34 (by decide) (s_aload_n dX2_standOn_35 rfl (s_getI (f := 1) dX2_standOn_36 clX1 (by decide) rfl wd97 (s_iast dX2_standOn_39 (s_aload_n dX2_standOn_40 rfl (s_getR (f := 0) dX2_standOn_41 clX2 (by decide) rfl wd88 (s_bipush dX2_standOn_44 (by decide) (s_iload_n dX2_standOn_46 rfl (s_iast dX2_standOn_47 (s_aload_n dX2_standOn_48 rfl (s_iconst dX2_standOn_49 (by decide) (s_iconst dX2_standOn_50 (by decide) (s_callV (r := (RX2, TX2, 3)) dX2_standOn_51 mX2_standAt meX2_standAt wd98 wd99 rfl rfl reX2_standAt rmX2_standOn (fitX2_standOn_51) wd100 (s_aload_n dX2_standOn_54 rfl (s_iconst dX2_standOn_55 (by decide) (s_iconst dX2_standOn_56 (by decide) (s_callV (r := (RX2, TX2, 3)) dX2_standOn_57 mX2_haveParents meX2_haveParents wd101 wd102 rfl rfl reX2_haveParents rmX2_standOn (fitX2_standOn_57) wd103 (s_vret dX2_standOn_60 rfl))))))))))))))))))))))))))))))))))))))))
noncomputable def fX2_standOn : zF := z_fn 4 kX2_standOn_0
theorem mX2_standOn {l : Launch} {D : zD} {B : Nat} : z_MF l D B yX2_standOn xX2_standOn fX2_standOn := z_mf (by decide) rfl (fun h => by cases h) rfl (fun as σ r h => ⟨z_fn_len h, kX2_standOn_0, z_fn_run h, fun _ => tX2_standOn_0⟩)
/-! ===== RowChildren$Laws.untold ===== -/
theorem dX2_untold_0 : decode cX2_untold 0 = .ok (.iload_n 1, 1) := by decide +kernel
theorem dX2_untold_1 : decode cX2_untold 1 = .ok (.tableswitch 47 0 3 #[31, 38, 47, 40], 31) := by decide +kernel
theorem dX2_untold_32 : decode cX2_untold 32 = .ok (.aload_n 0, 1) := by decide +kernel
theorem dX2_untold_33 : decode cX2_untold 33 = .ok (.getfield 11, 3) := by decide +kernel
theorem dX2_untold_36 : decode cX2_untold 36 = .ok (.iconst 0, 1) := by decide +kernel
theorem dX2_untold_37 : decode cX2_untold 37 = .ok (.iaload, 1) := by decide +kernel
theorem dX2_untold_38 : decode cX2_untold 38 = .ok (.ireturn, 1) := by decide +kernel
theorem dX2_untold_39 : decode cX2_untold 39 = .ok (.iconst 1, 1) := by decide +kernel
theorem dX2_untold_40 : decode cX2_untold 40 = .ok (.ireturn, 1) := by decide +kernel
theorem dX2_untold_41 : decode cX2_untold 41 = .ok (.aload_n 0, 1) := by decide +kernel
theorem dX2_untold_42 : decode cX2_untold 42 = .ok (.getfield 11, 3) := by decide +kernel
theorem dX2_untold_45 : decode cX2_untold 45 = .ok (.iconst 3, 1) := by decide +kernel
theorem dX2_untold_46 : decode cX2_untold 46 = .ok (.iaload, 1) := by decide +kernel
theorem dX2_untold_47 : decode cX2_untold 47 = .ok (.ireturn, 1) := by decide +kernel
theorem dX2_untold_48 : decode cX2_untold 48 = .ok (.iconst 0, 1) := by decide +kernel
theorem dX2_untold_49 : decode cX2_untold 49 = .ok (.ireturn, 1) := by decide +kernel
def xX2_untold : zX := (RX2, cX2_untold, 2, (some .int), false, { frames := 1, cells := 0, slots := 0, locals := 90 }, 0, 0, 0, 0)
theorem rmX2_untold : z_Rm xX2_untold := by unfold z_Rm xX2_untold; exact ⟨by decide, by decide⟩
theorem reX2_untold : z_Re xX2_untold := ⟨rfl, rfl⟩
theorem rlX2_untold : 1 ≤ xX2_untold.2.2.2.2.2.1.frames ∧ 21 ≤ xX2_untold.2.2.2.2.2.1.locals := by unfold xX2_untold; exact ⟨by decide, by decide⟩
theorem meX2_untold : z_Me yX2_untold xX2_untold 1 := ⟨wd105, wd90, by decide, by decide, by decide +kernel⟩
noncomputable def kX2_untold_48 : zK zR := (q_push 0 q_iret)
noncomputable def kX2_untold_0 : zK zR := (q_iload 1 (q_sw 0 [(q_aload 0 (q_getR 2 0 (q_push 0 (q_iald q_iret)))), (q_push 1 q_iret), kX2_untold_48, (q_aload 0 (q_getR 2 0 (q_push 3 (q_iald q_iret))))] kX2_untold_48))
set_option maxRecDepth 100000 in
theorem tX2_untold_48 {l : Launch} {D : zD} {B sz0 : Nat} {post : Option Value → zS → Prop} : zSnd l D B xX2_untold sz0 post 48 kX2_untold_48 (z_Jr post) := (s_iconst dX2_untold_48 (by decide) (s_iret dX2_untold_49 rfl))
set_option maxRecDepth 100000 in
theorem tX2_untold_0 {l : Launch} {D : zD} {B sz0 : Nat} {post : Option Value → zS → Prop} : zSnd l D B xX2_untold sz0 post 0 kX2_untold_0 (z_Jr post) := (s_iload_n dX2_untold_0 rfl (s_swL (tgts := [32, 39, 48, 41]) (td := 48) dX2_untold_1 (by decide) (by decide) (by decide) ⟨(s_aload_n dX2_untold_32 rfl (s_getR (f := 0) dX2_untold_33 clX2 (by decide) rfl wd88 (s_iconst dX2_untold_36 (by decide) (s_iald dX2_untold_37 (s_iret dX2_untold_38 rfl))))), ⟨(s_iconst dX2_untold_39 (by decide) (s_iret dX2_untold_40 rfl)), ⟨tX2_untold_48, ⟨(s_aload_n dX2_untold_41 rfl (s_getR (f := 0) dX2_untold_42 clX2 (by decide) rfl wd88 (s_iconst dX2_untold_45 (by decide) (s_iald dX2_untold_46 (s_iret dX2_untold_47 rfl))))), True.intro⟩⟩⟩⟩ tX2_untold_48))
noncomputable def fX2_untold : zF := z_fn 2 kX2_untold_0
theorem mX2_untold {l : Launch} {D : zD} {B : Nat} : z_MF l D B yX2_untold xX2_untold fX2_untold := z_mf (by decide) rfl (fun h => by cases h) rfl (fun as σ r h => ⟨z_fn_len h, kX2_untold_0, z_fn_run h, fun _ => tX2_untold_0⟩)
/-! ===== RowChildren$Tokens.kind ===== -/
theorem dX8_kind_0 : decode cX8_kind 0 = .ok (.iload_n 1, 1) := by decide +kernel
theorem dX8_kind_1 : decode cX8_kind 1 = .ok (.ifCond .lt 20, 3) := by decide +kernel
theorem dX8_kind_4 : decode cX8_kind 4 = .ok (.iload_n 1, 1) := by decide +kernel
theorem dX8_kind_5 : decode cX8_kind 5 = .ok (.aload_n 0, 1) := by decide +kernel
theorem dX8_kind_6 : decode cX8_kind 6 = .ok (.getfield 22, 3) := by decide +kernel
theorem dX8_kind_9 : decode cX8_kind 9 = .ok (.if_icmp .ge 12, 3) := by decide +kernel
theorem dX8_kind_12 : decode cX8_kind 12 = .ok (.aload_n 0, 1) := by decide +kernel
theorem dX8_kind_13 : decode cX8_kind 13 = .ok (.getfield 9, 3) := by decide +kernel
theorem dX8_kind_16 : decode cX8_kind 16 = .ok (.iload_n 1, 1) := by decide +kernel
theorem dX8_kind_17 : decode cX8_kind 17 = .ok (.iaload, 1) := by decide +kernel
theorem dX8_kind_18 : decode cX8_kind 18 = .ok (.goto 5, 3) := by decide +kernel
theorem dX8_kind_21 : decode cX8_kind 21 = .ok (.bipush 22, 2) := by decide +kernel
theorem dX8_kind_23 : decode cX8_kind 23 = .ok (.ireturn, 1) := by decide +kernel
def xX8_kind : zX := (RX8, cX8_kind, 2, (some .int), false, { frames := 1, cells := 0, slots := 0, locals := 90 }, 0, 0, 0, 0)
theorem rmX8_kind : z_Rm xX8_kind := by unfold z_Rm xX8_kind; exact ⟨by decide, by decide⟩
theorem reX8_kind : z_Re xX8_kind := ⟨rfl, rfl⟩
theorem rlX8_kind : 1 ≤ xX8_kind.2.2.2.2.2.1.frames ∧ 21 ≤ xX8_kind.2.2.2.2.2.1.locals := by unfold xX8_kind; exact ⟨by decide, by decide⟩
theorem meX8_kind : z_Me yX8_kind xX8_kind 1 := ⟨wd108, wd109, by decide, by decide, by decide +kernel⟩
noncomputable def kX8_kind_23 : zK zR := q_iret
noncomputable def kX8_kind_21 : zK zR := (q_push 22 kX8_kind_23)
noncomputable def kX8_kind_0 : zK zR := (q_iload 1 (q_if_lt kX8_kind_21 (q_iload 1 (q_aload 0 (q_getI 8 3 (q_icmp_ge kX8_kind_21 (q_aload 0 (q_getR 8 0 (q_iload 1 (q_iald kX8_kind_23))))))))))
set_option maxRecDepth 100000 in
theorem tX8_kind_23 {l : Launch} {D : zD} {B sz0 : Nat} {post : Option Value → zS → Prop} : zSnd l D B xX8_kind sz0 post 23 kX8_kind_23 (z_Jr post) := (s_iret dX8_kind_23 rfl)
set_option maxRecDepth 100000 in
theorem tX8_kind_21 {l : Launch} {D : zD} {B sz0 : Nat} {post : Option Value → zS → Prop} : zSnd l D B xX8_kind sz0 post 21 kX8_kind_21 (z_Jr post) := (s_bipush dX8_kind_21 (by decide) tX8_kind_23)
set_option maxRecDepth 100000 in
theorem tX8_kind_0 {l : Launch} {D : zD} {B sz0 : Nat} {post : Option Value → zS → Prop} : zSnd l D B xX8_kind sz0 post 0 kX8_kind_0 (z_Jr post) := (s_iload_n dX8_kind_0 rfl (s_if_lt (tgt := 21) dX8_kind_1 (by decide) tX8_kind_21 (s_iload_n dX8_kind_4 rfl (s_aload_n dX8_kind_5 rfl (s_getI (f := 3) dX8_kind_6 clX8 (by decide) rfl wd106 (s_icmp_ge (tgt := 21) dX8_kind_9 (by decide) tX8_kind_21 (s_aload_n dX8_kind_12 rfl (s_getR (f := 0) dX8_kind_13 clX8 (by decide) rfl wd107 (s_iload_n dX8_kind_16 rfl (s_iald dX8_kind_17 (s_goto (tgt := 23) dX8_kind_18 (by decide) tX8_kind_23)))))))))))
noncomputable def fX8_kind : zF := z_fn 2 kX8_kind_0
theorem mX8_kind {l : Launch} {D : zD} {B : Nat} : z_MF l D B yX8_kind xX8_kind fX8_kind := z_mf (by decide) rfl (fun h => by cases h) rfl (fun as σ r h => ⟨z_fn_len h, kX8_kind_0, z_fn_run h, fun _ => tX8_kind_0⟩)
/-! ===== RowChildren$Text.isOperator ===== -/
theorem dX7_isOperator_0 : decode cX7_isOperator 0 = .ok (.iload_n 0, 1) := by decide +kernel
theorem dX7_isOperator_1 : decode cX7_isOperator 1 = .ok (.bipush 43, 2) := by decide +kernel
theorem dX7_isOperator_3 : decode cX7_isOperator 3 = .ok (.if_icmp .eq 21, 3) := by decide +kernel
theorem dX7_isOperator_6 : decode cX7_isOperator 6 = .ok (.iload_n 0, 1) := by decide +kernel
theorem dX7_isOperator_7 : decode cX7_isOperator 7 = .ok (.bipush 45, 2) := by decide +kernel
theorem dX7_isOperator_9 : decode cX7_isOperator 9 = .ok (.if_icmp .eq 15, 3) := by decide +kernel
theorem dX7_isOperator_12 : decode cX7_isOperator 12 = .ok (.iload_n 0, 1) := by decide +kernel
theorem dX7_isOperator_13 : decode cX7_isOperator 13 = .ok (.bipush 42, 2) := by decide +kernel
theorem dX7_isOperator_15 : decode cX7_isOperator 15 = .ok (.if_icmp .eq 9, 3) := by decide +kernel
theorem dX7_isOperator_18 : decode cX7_isOperator 18 = .ok (.iload_n 0, 1) := by decide +kernel
theorem dX7_isOperator_19 : decode cX7_isOperator 19 = .ok (.bipush 47, 2) := by decide +kernel
theorem dX7_isOperator_21 : decode cX7_isOperator 21 = .ok (.if_icmp .ne 7, 3) := by decide +kernel
theorem dX7_isOperator_24 : decode cX7_isOperator 24 = .ok (.iconst 1, 1) := by decide +kernel
theorem dX7_isOperator_25 : decode cX7_isOperator 25 = .ok (.goto 4, 3) := by decide +kernel
theorem dX7_isOperator_28 : decode cX7_isOperator 28 = .ok (.iconst 0, 1) := by decide +kernel
theorem dX7_isOperator_29 : decode cX7_isOperator 29 = .ok (.ireturn, 1) := by decide +kernel
def xX7_isOperator : zX := (RX7, cX7_isOperator, 1, (some .boolean), false, { frames := 1, cells := 0, slots := 0, locals := 90 }, 0, 0, 0, 0)
theorem rmX7_isOperator : z_Rm xX7_isOperator := by unfold z_Rm xX7_isOperator; exact ⟨by decide, by decide⟩
theorem reX7_isOperator : z_Re xX7_isOperator := ⟨rfl, rfl⟩
theorem rlX7_isOperator : 1 ≤ xX7_isOperator.2.2.2.2.2.1.frames ∧ 21 ≤ xX7_isOperator.2.2.2.2.2.1.locals := by unfold xX7_isOperator; exact ⟨by decide, by decide⟩
theorem meX7_isOperator : z_Me yX7_isOperator xX7_isOperator 1 := ⟨wd110, wd111, by decide, by decide, by decide +kernel⟩
noncomputable def kX7_isOperator_29 : zK zR := q_zret
noncomputable def kX7_isOperator_24 : zK zR := (q_push 1 kX7_isOperator_29)
noncomputable def kX7_isOperator_0 : zK zR := (q_iload 0 (q_push 43 (q_icmp_eq kX7_isOperator_24 (q_iload 0 (q_push 45 (q_icmp_eq kX7_isOperator_24 (q_iload 0 (q_push 42 (q_icmp_eq kX7_isOperator_24 (q_iload 0 (q_push 47 (q_icmp_ne (q_push 0 kX7_isOperator_29) kX7_isOperator_24))))))))))))
set_option maxRecDepth 100000 in
theorem tX7_isOperator_29 {l : Launch} {D : zD} {B sz0 : Nat} {post : Option Value → zS → Prop} : zSnd l D B xX7_isOperator sz0 post 29 kX7_isOperator_29 (z_Jr post) := (s_zret dX7_isOperator_29 rfl)
set_option maxRecDepth 100000 in
theorem tX7_isOperator_24 {l : Launch} {D : zD} {B sz0 : Nat} {post : Option Value → zS → Prop} : zSnd l D B xX7_isOperator sz0 post 24 kX7_isOperator_24 (z_Jr post) := (s_iconst dX7_isOperator_24 (by decide) (s_goto (tgt := 29) dX7_isOperator_25 (by decide) tX7_isOperator_29))
set_option maxRecDepth 100000 in
theorem tX7_isOperator_0 {l : Launch} {D : zD} {B sz0 : Nat} {post : Option Value → zS → Prop} : zSnd l D B xX7_isOperator sz0 post 0 kX7_isOperator_0 (z_Jr post) := (s_iload_n dX7_isOperator_0 rfl (s_bipush dX7_isOperator_1 (by decide) (s_icmp_eq (tgt := 24) dX7_isOperator_3 (by decide) tX7_isOperator_24 (s_iload_n dX7_isOperator_6 rfl (s_bipush dX7_isOperator_7 (by decide) (s_icmp_eq (tgt := 24) dX7_isOperator_9 (by decide) tX7_isOperator_24 (s_iload_n dX7_isOperator_12 rfl (s_bipush dX7_isOperator_13 (by decide) (s_icmp_eq (tgt := 24) dX7_isOperator_15 (by decide) tX7_isOperator_24 (s_iload_n dX7_isOperator_18 rfl (s_bipush dX7_isOperator_19 (by decide) (s_icmp_ne (tgt := 28) dX7_isOperator_21 (by decide) (s_iconst dX7_isOperator_28 (by decide) tX7_isOperator_29) tX7_isOperator_24))))))))))))
noncomputable def fX7_isOperator : zF := z_fn 1 kX7_isOperator_0
theorem mX7_isOperator {l : Launch} {D : zD} {B : Nat} : z_MF l D B yX7_isOperator xX7_isOperator fX7_isOperator := z_mf (by decide) rfl (fun h => by cases h) rfl (fun as σ r h => ⟨z_fn_len h, kX7_isOperator_0, z_fn_run h, fun _ => tX7_isOperator_0⟩)
/-! ===== RowChildren$Laws.quotient ===== -/
theorem dX2_quotient_0 : decode cX2_quotient 0 = .ok (.iload_n 2, 1) := by decide +kernel
theorem dX2_quotient_1 : decode cX2_quotient 1 = .ok (.ifCond .ne 10, 3) := by decide +kernel
theorem dX2_quotient_4 : decode cX2_quotient 4 = .ok (.aload_n 0, 1) := by decide +kernel
theorem dX2_quotient_5 : decode cX2_quotient 5 = .ok (.iconst 1, 1) := by decide +kernel
theorem dX2_quotient_6 : decode cX2_quotient 6 = .ok (.putfield 63, 3) := by decide +kernel
theorem dX2_quotient_9 : decode cX2_quotient 9 = .ok (.iconst 0, 1) := by decide +kernel
theorem dX2_quotient_10 : decode cX2_quotient 10 = .ok (.ireturn, 1) := by decide +kernel
theorem dX2_quotient_11 : decode cX2_quotient 11 = .ok (.iload_n 1, 1) := by decide +kernel
theorem dX2_quotient_12 : decode cX2_quotient 12 = .ok (.iload_n 2, 1) := by decide +kernel
theorem dX2_quotient_13 : decode cX2_quotient 13 = .ok (.idiv, 1) := by decide +kernel
theorem dX2_quotient_14 : decode cX2_quotient 14 = .ok (.ireturn, 1) := by decide +kernel
def xX2_quotient : zX := (RX2, cX2_quotient, 3, (some .int), false, { frames := 1, cells := 0, slots := 0, locals := 90 }, 0, 0, 0, 0)
theorem rmX2_quotient : z_Rm xX2_quotient := by unfold z_Rm xX2_quotient; exact ⟨by decide, by decide⟩
theorem reX2_quotient : z_Re xX2_quotient := ⟨rfl, rfl⟩
theorem rlX2_quotient : 1 ≤ xX2_quotient.2.2.2.2.2.1.frames ∧ 21 ≤ xX2_quotient.2.2.2.2.2.1.locals := by unfold xX2_quotient; exact ⟨by decide, by decide⟩
theorem meX2_quotient : z_Me yX2_quotient xX2_quotient 2 := ⟨wd113, wd90, by decide, by decide, by decide +kernel⟩
noncomputable def kX2_quotient_0 : zK zR := (q_iload 2 (q_if_ne (q_iload 1 (q_iload 2 (q_idiv q_iret))) (q_aload 0 (q_push 1 (q_putZ 2 2 (q_push 0 q_iret))))))
set_option maxRecDepth 100000 in
theorem tX2_quotient_0 {l : Launch} {D : zD} {B sz0 : Nat} {post : Option Value → zS → Prop} : zSnd l D B xX2_quotient sz0 post 0 kX2_quotient_0 (z_Jr post) := (s_iload_n dX2_quotient_0 rfl (s_if_ne (tgt := 11) dX2_quotient_1 (by decide) (s_iload_n dX2_quotient_11 rfl (s_iload_n dX2_quotient_12 rfl (s_idiv dX2_quotient_13 (s_iret dX2_quotient_14 rfl)))) (s_aload_n dX2_quotient_4 rfl (s_iconst dX2_quotient_5 (by decide) (s_putZ (f := 2) dX2_quotient_6 clX2 (by decide) rfl rfl rfl wd112 (s_iconst dX2_quotient_9 (by decide) (s_iret dX2_quotient_10 rfl)))))))
noncomputable def fX2_quotient : zF := z_fn 3 kX2_quotient_0
theorem mX2_quotient {l : Launch} {D : zD} {B : Nat} : z_MF l D B yX2_quotient xX2_quotient fX2_quotient := z_mf (by decide) rfl (fun h => by cases h) rfl (fun as σ r h => ⟨z_fn_len h, kX2_quotient_0, z_fn_run h, fun _ => tX2_quotient_0⟩)
